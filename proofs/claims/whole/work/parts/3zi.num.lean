/-! ===== words, signs and numbers, in the reference ===== -/
def tkW (b : Nat → Nat) (n p : Nat) : Nat := vlN 1000000 b (tkS b n p) (tkE b n p - tkS b n p)
theorem vlN_min (b : Nat → Nat) (s : Nat) : ∀ i, vlN 100000 b s i = min 100000 (vlN 1000000 b s i)
  | 0 => by simp [vlN]
  | i + 1 => by
    have ih := vlN_min b s i
    show min 100000 (10 * vlN 100000 b s i + (b (s + i) - 48)) = min 100000 (min 1000000 (10 * vlN 1000000 b s i + (b (s + i) - 48)))
    omega
theorem tkV_min (b : Nat → Nat) (n p : Nat) : tkV b n p = min 100000 (tkW b n p) := vlN_min b _ _
theorem run_in (q : Nat → Bool) (n : Nat) : ∀ f p i, p ≤ i → i < run q n f p → q i = true
  | 0, p, i, h1, h2 => by
    have h2 : i < p := h2
    omega
  | f + 1, p, i, h1, h2 => by
    unfold run at h2
    split at h2
    · rename_i w
      by_cases z : i = p
      · rw [z]
        exact w.2
      · exact run_in q n f (p + 1) i (by omega) h2
    · omega
theorem tk_fig {b : Nat → Nat} {n p i : Nat} (hk : tkK b n p = 2) (h1 : tkS b n p ≤ i) (h2 : i < tkE b n p) : 48 ≤ b i ∧ b i ≤ 57 := by
  unfold tkK at hk
  unfold tkE at h2
  by_cases w : n ≤ tkS b n p
  · rw [if_pos w] at hk
    omega
  · rw [if_neg w] at hk h2
    by_cases z : sml (b (tkS b n p)) = true
    · rw [if_pos z] at hk
      omega
    · rw [if_neg z] at hk h2
      by_cases y : fig (b (tkS b n p)) = true
      · rw [if_pos y] at h2
        have := run_in (fun i => fig (b i)) n n _ i h1 h2
        unfold fig at this
        exact of_decide_eq_true this
      · rw [if_neg y] at hk
        omega
theorem tk_sml {b : Nat → Nat} {n p i : Nat} (hk : tkK b n p = 1) (h1 : tkS b n p ≤ i) (h2 : i < tkE b n p) : 97 ≤ b i ∧ b i ≤ 122 := by
  unfold tkK at hk
  unfold tkE at h2
  by_cases w : n ≤ tkS b n p
  · rw [if_pos w] at hk
    omega
  · rw [if_neg w] at hk h2
    by_cases z : sml (b (tkS b n p)) = true
    · rw [if_pos z] at h2
      have := run_in (fun i => sml (b i)) n n _ i h1 h2
      unfold sml at this
      exact of_decide_eq_true this
    · rw [if_neg z] at hk
      split at hk <;> omega
def WM (x c j : Nat) : Prop := x = 24 ∧ c = 0 ∧ 34 ≤ j ∧ j ≤ 39
def MG (b : Nat → Nat) (n p : Nat) (G : GH) : Prop := MT b n p (G 24) ∧ G 24 0 38 = 0
def MX (c s : Nat) (G : GH) : Prop := G 24 0 38 = zI c ∧ G 24 0 39 = zI s ∧ 1 ≤ c ∧ c ≤ 4
theorem MX.ne {c s : Nat} {G : GH} (h : MX c s G) : ¬ G 24 0 38 = 0 := by
  rw [h.1, zl0, zI_eq (by have := h.2.2; omega)]
  have := h.2.2
  omega
theorem MX.same {c s : Nat} {G G' : GH} (h : MX c s G) (e : G' 24 0 = G 24 0) : MX c s G' := by
  unfold MX
  rw [e]
  exact h
abbrev NR : Type := (Nat × Nat) ⊕ (Nat × Nat)
def numR (b : Nat → Nat) (n p : Nat) (lo hi un : Int) : NR :=
  if tkK b n p = 2 then (if lo ≤ (tkV b n p : Int) ∧ (tkV b n p : Int) ≤ hi ∧ (tkV b n p : Int) ≠ un then .inr (tkV b n p, tkE b n p) else .inl (2, tkS b n p)) else .inl (1, tkS b n p)
section
variable {G : GH} {b : Nat → Nat} {n p : Nat}
theorem wM_wrong {post : GH → Prop} {x : Int32} (c : Nat) (hx : x = zI c) (hc : 1 ≤ c ∧ c ≤ 4) (hT : MG b n p G) (hp : ∀ G', Ag WM G G' → MX c (tkS b n p) G' → post G') : wp_X8_wrong post x G := by
  subst hx
  unfold wp_X8_wrong
  refine br_t hT.2 ?_
  rintro _ rfl _ rfl
  refine hp _ (((Ag.rf G).up ⟨rfl, rfl, by omega, by omega⟩).up ⟨rfl, rfl, by omega, by omega⟩) ⟨?_, ?_, hc⟩
  · rw [gs_eq, gs_eq]
    unfold upd
    rw [if_neg (by decide), if_pos rfl]
  · rw [gs_eq, gs_eq]
    unfold upd
    rw [if_pos rfl, if_neg (by decide)]
    exact hT.1.2.2.2.2.2.1
theorem wM_wrongX {post : GH → Prop} {x : Int32} (hX : ¬ G 24 0 38 = 0) (hp : post G) : wp_X8_wrong post x G := by
  unfold wp_X8_wrong
  exact br_f hX hp
theorem wM_passX {post : GH → Prop} (hX : ¬ G 24 0 38 = 0) (hp : post G) : wp_X8_pass post G := by
  unfold wp_X8_pass
  exact br_f hX hp
theorem wM_stp {post : GH → Prop} (hT : MG b n p G) (hp : ∀ G', Ag WM G G' → MG b n (tkE b n p) G' → post G') : wp_X8_step post G := by
  obtain ⟨⟨hB, ⟨hn, hpn⟩, h33, h34, h35, h36, h37⟩, h38⟩ := hT
  have hr := tk_rg (b := b) hpn
  refine wM_step hB hn h33 h34 hr.2.2.1 (fun f f34 f35 f36 f37 fo => ?_)
  refine hp _ (fun x c j hw => ?_) ⟨⟨?_, ⟨hn, hr.2.2.1⟩, ?_, ?_, ?_, ?_, ?_⟩, ?_⟩
  · unfold gs
    split
    · rename_i z
      obtain ⟨rfl, rfl⟩ := z
      refine fo j ?_
      by_cases w : j < 34 ∨ 37 < j
      · exact w
      · exact absurd ⟨rfl, rfl, by omega, by omega⟩ hw
    · rfl
  · rw [gs_ne (by decide)]
    exact hB
  · rw [gs_eq, fo 33 (by omega)]
    exact h33
  · rw [gs_eq]
    exact f34
  · rw [gs_eq]
    exact f35
  · rw [gs_eq]
    exact f36
  · rw [gs_eq]
    exact f37
  · rw [gs_eq, fo 38 (by omega)]
    exact h38
theorem wM_pass {post : GH → Prop} (hT : MG b n p G) (hp : ∀ G', Ag WM G G' → MG b n (tkE b n p) G' → post G') : wp_X8_pass post G := by
  unfold wp_X8_pass
  exact br_t hT.2 (wM_stp hT hp)
def WO (x c j : Nat) : Prop := x = 24 ∧ c = 0 ∧ 33 ≤ j ∧ j ≤ 41 ∧ j ≠ 40
theorem wM_opens {post : GH → Prop} (hB : MB b (G 24 32)) (hn : n ≤ 700) (hp : ∀ G', Ag WO G G' → MG b n 0 G' → G' 24 0 41 = zI 0 → post G') : wp_X8_opens post (zI n) G := by
  unfold wp_X8_opens
  rintro _ rfl _ rfl _ rfl _ rfl
  simp only [gs_gs, gs_eq]
  generalize hf : upd (upd (upd (upd (G 24 0) 33 (zI (n : Int))) 34 (0 : Int32)) 38 (0 : Int32)) 41 (0 : Int32) = f
  have g33 : f 33 = zI n := by
    rw [← hf]
    unfold upd
    rw [if_neg (by decide), if_neg (by decide), if_neg (by decide), if_pos rfl]
  have g34 : f 34 = zI ((0 : Nat) : Int) := by
    rw [← hf]
    unfold upd
    rw [if_neg (by decide), if_neg (by decide), if_pos rfl]
    rfl
  have g38 : f 38 = 0 := by
    rw [← hf]
    unfold upd
    rw [if_neg (by decide), if_pos rfl]
  have g41 : f 41 = zI 0 := by
    rw [← hf]
    unfold upd
    rw [if_pos rfl]
    rfl
  have go : ∀ j, ¬ (33 ≤ j ∧ j ≤ 41 ∧ j ≠ 40) → f j = G 24 0 j := by
    intro j hj
    rw [← hf]
    unfold upd
    rw [if_neg (by omega), if_neg (by omega), if_neg (by omega), if_neg (by omega)]
  refine wM_step (b := b) (n := n) (p := 0) (by rw [gs_ne (by decide)]; exact hB) hn (by rw [gs_eq]; exact g33) (by rw [gs_eq]; exact g34) (Nat.zero_le n) (fun f' f34 f35 f36 f37 fo => ?_)
  rw [gs_gs]
  rw [gs_eq] at fo
  refine hp _ (fun x c j hw => ?_) ⟨⟨?_, ⟨hn, Nat.zero_le n⟩, ?_, ?_, ?_, ?_, ?_⟩, ?_⟩ ?_
  · unfold gs
    split
    · rename_i z
      obtain ⟨rfl, rfl⟩ := z
      have hj : ¬ (33 ≤ j ∧ j ≤ 41 ∧ j ≠ 40) := fun z => hw ⟨rfl, rfl, z.1, z.2.1, z.2.2⟩
      rw [fo j (by omega), go j hj]
    · rfl
  · rw [gs_ne (by decide)]
    exact hB
  · rw [gs_eq, fo 33 (by omega)]
    exact g33
  · rw [gs_eq]
    exact f34
  · rw [gs_eq]
    exact f35
  · rw [gs_eq]
    exact f36
  · rw [gs_eq]
    exact f37
  · rw [gs_eq, fo 38 (by omega)]
    exact g38
  · rw [gs_eq, fo 41 (by omega)]
    exact g41
theorem wM_isSignX {post : Bool → GH → Prop} {x : Int32} (hX : ¬ G 24 0 38 = 0) (hp : post false G) : wp_X8_isSign post x G := by
  unfold wp_X8_isSign
  exact br_f hX hp
theorem wM_isSign {post : Bool → GH → Prop} {x : Int32} (c : Nat) (hT : MG b n p G) (hx : x = zI c) (hc : c < 128) (hp : post (sgB b n p c) G) : wp_X8_isSign post x G := by
  subst hx
  obtain ⟨⟨hB, ⟨hn, hpn⟩, h33, h34, h35, h36, h37⟩, h38⟩ := hT
  have hr := tk_rg (b := b) hpn
  unfold wp_X8_isSign
  unfold sgB at hp
  refine br_t h38 ?_
  rw [h35, h36, zl3, zI_eq (by omega)]
  refine br_c (fun q => ?_) (fun q => ?_)
  · have q : tkK b n p = 3 := by omega
    have hs := (hr.2.2.2.1 (by omega)).2
    refine ⟨zI_in (by omega), ?_⟩
    have hx := (hB (tkS b n p) (by omega)).2
    rw [zI_clN (by omega), (hB (tkS b n p) (by omega)).1, zI_eq (by omega)]
    refine br_c (fun z => ?_) (fun z => ?_)
    · rw [decide_eq_true ⟨q, by omega⟩] at hp
      exact hp
    · rw [decide_eq_false (fun y => z (by omega))] at hp
      exact hp
  · rw [decide_eq_false (fun y => q (by omega))] at hp
    exact hp
theorem wM_isWord0 {post : Bool → GH → Prop} {w : Nat} (hp : post false G) : j_X8_isWord_35 post w G := by
  unfold j_X8_isWord_35 j_X8_isWord_36
  intro P K
  refine K _ _ _ ?_
  unfold lb_X8_isWord_39
  exact br_t rfl ⟨false, rfl, hp⟩
theorem wM_isWordX {post : Bool → GH → Prop} {w : Nat} (hX : ¬ G 24 0 38 = 0) (hp : post false G) : wp_X8_isWord post w G := by
  unfold wp_X8_isWord
  exact br_f hX (wM_isWord0 hp)
set_option maxHeartbeats 1000000 in
theorem wM_isWord {post : Bool → GH → Prop} {w : Nat} (hT : MG b n p G) (hw : w < nsx) (hp : post (wdB b n p w) G) : wp_X8_isWord post w G := by
  obtain ⟨⟨hB, ⟨hn, hpn⟩, h33, h34, h35, h36, h37⟩, h38⟩ := hT
  have hr := tk_rg (b := b) hpn
  have hl := sxL_lt w hw
  unfold wp_X8_isWord
  unfold wdB at hp
  refine br_t h38 ?_
  rw [h35, h36, h37, zl1, zI_eq (by omega), zI_sub, zI_nI, zI_eq (by omega)]
  refine br_c (fun q => ?_) (fun q => ?_)
  · have q : tkK b n p = 1 := by omega
    have hs := hr.2.2.2.1 (by omega)
    refine br_c (fun z => ?_) (fun z => ?_)
    · have z : tkE b n p - tkS b n p = sxL w := by omega
      unfold j_X8_isWord_36
      intro P K
      have main : ∀ f k : Nat, k + f = sxL w → (∀ i, i < k → b (tkS b n p + i) = sxC w i) → P (1 : Int32) (zI k) G := by
        intro f
        induction f with
        | zero =>
          intro k hk hi
          refine K _ _ _ ?_
          unfold lb_X8_isWord_39
          rw [zI_nI]
          refine br_f (by decide) ?_
          refine br_t (by rw [zI_le (by omega)]; omega) ⟨true, rfl, ?_⟩
          rw [decide_eq_true ⟨q, z, fun i hi2 => hi i (by omega)⟩] at hp
          exact hp
        | succ f ih =>
          intro k hk hi
          have hc := sxC_lt w hw k (by omega)
          refine K _ _ _ ?_
          unfold lb_X8_isWord_39
          rw [zI_nI]
          refine br_f (by decide) ?_
          refine br_f (by rw [zI_le (by omega)]; omega) ?_
          rw [h36, zI_add]
          refine ⟨zI_in (by omega), zI_in (by omega), ?_⟩
          have hx := (hB (tkS b n p + k) (by omega)).2
          rw [show ((tkS b n p : Int) + (k : Int)) = ((tkS b n p + k : Nat) : Int) by omega, zI_clN (n := tkS b n p + k) (by omega), zI_clN (n := k) (by omega), (hB (tkS b n p + k) (by omega)).1, zI_nI, zI_eq (by omega)]
          refine br_c (fun y => ?_) (fun y => ?_)
          · rw [show zI (k : Int) + (1 : Int32) = zI ((k + 1 : Nat) : Int) from zI_add k 1]
            refine ih (k + 1) (by omega) (fun i hi2 => ?_)
            by_cases u : i = k
            · subst u
              omega
            · exact hi i (by omega)
          · rw [decide_eq_false (fun v => y (by rw [v.2.2 k (by omega)]))] at hp
            refine K _ _ _ ?_
            unfold lb_X8_isWord_39
            exact br_t rfl ⟨false, rfl, hp⟩
      exact main (sxL w) 0 (by omega) (fun i hi => by omega)
    · rw [decide_eq_false (fun y => z (by omega))] at hp
      exact wM_isWord0 hp
  · rw [decide_eq_false (fun y => q (by omega))] at hp
    exact wM_isWord0 hp
theorem wM_isNumberX {post : Bool → GH → Prop} (hX : ¬ G 24 0 38 = 0) (hp : post false G) : wp_X8_isNumber post G := by
  unfold wp_X8_isNumber
  exact br_f hX hp
theorem wM_isNumber {post : Bool → GH → Prop} (hT : MG b n p G) (hp : post (decide (tkK b n p = 2)) G) : wp_X8_isNumber post G := by
  obtain ⟨⟨hB, ⟨hn, hpn⟩, h33, h34, h35, h36, h37⟩, h38⟩ := hT
  have hr := tk_rg (b := b) hpn
  unfold wp_X8_isNumber
  refine br_t h38 ?_
  rw [h35, zl2, zI_eq (by omega)]
  refine br_c (fun q => ?_) (fun q => ?_)
  · rw [decide_eq_true (by omega)] at hp
    exact hp
  · rw [decide_eq_false (by omega)] at hp
    exact hp
theorem wM_numberHereX {post : Int32 → GH → Prop} (hX : ¬ G 24 0 38 = 0) (hp : post (0 : Int32) G) : wp_X8_numberHere post G := by
  unfold wp_X8_numberHere
  rintro _ rfl
  intro P K
  refine K _ _ _ ?_
  unfold lb_X8_numberHere_7
  exact wM_isNumberX hX (br_bf rfl hp)
theorem wM_numberHere {post : Int32 → GH → Prop} (hT : MG b n p G) (hk : tkK b n p = 2) (hp : post (zI (tkW b n p)) G) : wp_X8_numberHere post G := by
  obtain ⟨⟨hB, ⟨hn, hpn⟩, h33, h34, h35, h36, h37⟩, h38⟩ := id hT
  have hr := tk_rg (b := b) hpn
  unfold wp_X8_numberHere
  rintro _ rfl
  rw [h36]
  intro P K
  have main : ∀ f k : Nat, tkS b n p + k + f = tkE b n p → P (zI (vlN 1000000 b (tkS b n p) k)) (zI ((tkS b n p + k : Nat) : Int)) G := by
    intro f
    induction f with
    | zero =>
      intro k hk2
      refine K _ _ _ ?_
      unfold lb_X8_numberHere_7
      refine wM_isNumber hT (br_bt (decide_eq_true hk) ?_)
      rw [h37]
      refine br_t (by rw [zI_le (by omega)]; omega) ?_
      unfold tkW at hp
      rw [show tkE b n p - tkS b n p = k by omega] at hp
      exact hp
    | succ f ih =>
      intro k hk2
      have hfg := tk_fig (b := b) (n := n) (p := p) (i := tkS b n p + k) hk (by omega) (by omega)
      have hv := vlN_le 1000000 b (tkS b n p) k
      refine K _ _ _ ?_
      unfold lb_X8_numberHere_7
      refine wM_isNumber hT (br_bt (decide_eq_true hk) ?_)
      rw [h37]
      refine br_f (by rw [zI_le (by omega)]; omega) ⟨zI_in (by omega), ?_⟩
      rintro _ rfl
      have := ih (k + 1) (by omega)
      rw [zI_clN (by omega), (hB (tkS b n p + k) (by omega)).1, zl10, zI_mul, zI_add, zl48, zI_sub, zl1000000, zI_min (by omega), zl1, zI_add]
      rw [show vlN 1000000 b (tkS b n p) (k + 1) = min 1000000 (10 * vlN 1000000 b (tkS b n p) k + (b (tkS b n p + k) - 48)) from rfl] at this
      rw [show (min (1000000 : Int) (10 * ((vlN 1000000 b (tkS b n p) k : Nat) : Int) + (b (tkS b n p + k) : Int) - 48)) = ((min 1000000 (10 * vlN 1000000 b (tkS b n p) k + (b (tkS b n p + k) - 48)) : Nat) : Int) by omega, show (((tkS b n p + k : Nat) : Int) + 1) = ((tkS b n p + (k + 1) : Nat) : Int) by omega]
      exact this
  exact main (tkE b n p - tkS b n p) 0 (by omega)
theorem wM_numberX {post : Int32 → GH → Prop} {x y : Int32} (hX : ¬ G 24 0 38 = 0) (hp : post x G) : wp_X8_number post x y G := by
  unfold wp_X8_number
  refine wM_isNumberX hX (br_bf rfl (wM_wrongX hX ?_))
  unfold j_X8_number_12
  refine wM_numberHereX hX (br_f hX ?_)
  unfold j_X8_number_38
  exact wM_passX hX (br_f hX hp)
theorem wM_number {post : Int32 → GH → Prop} {lo hi : Int} (hT : MG b n p G) (hl : 0 ≤ lo ∧ lo ≤ 9999) (hh : -1 ≤ hi ∧ hi ≤ 9999) (hf : ∀ c s, numR b n p lo hi (-1) = .inl (c, s) → ∀ G', Ag WM G G' → MX c s G' → post (zI lo) G') (ht : ∀ v q, numR b n p lo hi (-1) = .inr (v, q) → ∀ G', Ag WM G G' → MG b n q G' → post (zI v) G') : wp_X8_number post (zI lo) (zI hi) G := by
  have hvw := tkV_min b n p
  have hw := vlN_le 1000000 b (tkS b n p) (tkE b n p - tkS b n p)
  have hw : tkW b n p ≤ 1000000 := hw
  unfold wp_X8_number
  refine wM_isNumber hT ?_
  by_cases w : tkK b n p = 2
  · refine br_bt (decide_eq_true w) ?_
    unfold j_X8_number_12
    refine wM_numberHere hT w (br_t hT.2 ?_)
    rw [wM_within (by omega)]
    by_cases z : lo ≤ (tkW b n p : Int) ∧ (tkW b n p : Int) ≤ hi
    · refine br_bt (decide_eq_true z) ?_
      unfold j_X8_number_38
      refine wM_pass hT (fun G' ag hT' => br_t hT'.2 ?_)
      have e : tkW b n p = tkV b n p := by omega
      rw [e]
      refine ht _ _ ?_ G' ag hT'
      unfold numR
      rw [if_pos w, if_pos (by omega)]
    · refine br_bf (decide_eq_false z) ?_
      refine wM_wrong 2 rfl (by omega) hT (fun G' ag hX => ?_)
      unfold j_X8_number_38
      refine wM_passX hX.ne (br_f hX.ne ?_)
      refine hf _ _ ?_ G' ag hX
      unfold numR
      rw [if_pos w, if_neg (by omega)]
  · refine br_bf (decide_eq_false w) ?_
    refine wM_wrong 1 rfl (by omega) hT (fun G' ag hX => ?_)
    unfold j_X8_number_12
    refine wM_numberHereX hX.ne (br_f hX.ne ?_)
    unfold j_X8_number_38
    refine wM_passX hX.ne (br_f hX.ne ?_)
    refine hf _ _ ?_ G' ag hX
    unfold numR
    rw [if_neg w]
theorem wM_otherNumberX {post : Int32 → GH → Prop} {x y : Int32} (hX : ¬ G 24 0 38 = 0) (hp : post (0 : Int32) G) : wp_X8_otherNumber post x y G := by
  unfold wp_X8_otherNumber
  refine wM_isNumberX hX (br_bf rfl ?_)
  unfold j_X8_otherNumber_20
  exact wM_numberX hX hp
theorem wM_otherNumber {post : Int32 → GH → Prop} {hi un : Int} (hT : MG b n p G) (hu : 0 ≤ un ∧ un ≤ 9999) (hh : -1 ≤ hi ∧ hi ≤ 9999) (hf : ∀ c s, numR b n p 0 hi un = .inl (c, s) → ∀ G', Ag WM G G' → MX c s G' → post (zI 0) G') (ht : ∀ v q, numR b n p 0 hi un = .inr (v, q) → ∀ G', Ag WM G G' → MG b n q G' → post (zI v) G') : wp_X8_otherNumber post (zI un) (zI hi) G := by
  have hvw := tkV_min b n p
  have hw := vlN_le 1000000 b (tkS b n p) (tkE b n p - tkS b n p)
  have hw : tkW b n p ≤ 1000000 := hw
  unfold wp_X8_otherNumber
  refine wM_isNumber hT ?_
  by_cases w : tkK b n p = 2
  · refine br_bt (decide_eq_true w) ?_
    refine wM_numberHere hT w ?_
    rw [zI_eq (by omega)]
    refine br_c (fun z => ?_) (fun z => ?_)
    · refine wM_wrong 2 rfl (by omega) hT (fun G' ag hX => ?_)
      unfold j_X8_otherNumber_20
      refine wM_numberX hX.ne ?_
      refine hf _ _ ?_ G' ag hX
      unfold numR
      rw [if_pos w, if_neg (by omega)]
    · unfold j_X8_otherNumber_20
      refine wM_number (lo := 0) hT (by omega) hh (fun c s e G' ag hX => hf c s ?_ G' ag hX) (fun v q e G' ag hX => ht v q ?_ G' ag hX)
      · rw [← e]
        unfold numR
        rw [if_pos w, if_pos w]
        congr 1
        exact propext ⟨fun y => by omega, fun y => by omega⟩
      · rw [← e]
        unfold numR
        rw [if_pos w, if_pos w]
        congr 1
        exact propext ⟨fun y => by omega, fun y => by omega⟩
  · refine br_bf (decide_eq_false w) ?_
    unfold j_X8_otherNumber_20
    refine wM_number (lo := 0) hT (by omega) hh (fun c s e G' ag hX => hf c s ?_ G' ag hX) (fun v q e G' ag hX => ht v q ?_ G' ag hX)
    · rw [← e]
      unfold numR
      rw [if_neg w, if_neg w]
    · rw [← e]
      unfold numR
      rw [if_neg w, if_neg w]
def smi (b : Nat → Nat) (n p c : Nat) : (Nat × Nat) ⊕ Nat := if sgB b n p c = true then .inr (tkE b n p) else .inl (1, tkS b n p)
theorem wM_mustX {post : GH → Prop} {x : Int32} (hX : ¬ G 24 0 38 = 0) (hp : post G) : wp_X8_must post x G := by
  unfold wp_X8_must
  refine wM_isSignX hX (br_bf rfl (wM_wrongX hX ?_))
  unfold j_X8_must_13
  exact wM_passX hX hp
theorem wM_must {post : GH → Prop} {x : Int32} (c : Nat) (hx : x = zI c) (hc : c < 128) (hT : MG b n p G) (hf : ∀ c' s, smi b n p c = .inl (c', s) → ∀ G', Ag WM G G' → MX c' s G' → post G') (ht : ∀ q, smi b n p c = .inr q → ∀ G', Ag WM G G' → MG b n q G' → post G') : wp_X8_must post x G := by
  unfold wp_X8_must
  refine wM_isSign c hT hx hc ?_
  by_cases w : sgB b n p c = true
  · refine br_bt w ?_
    unfold j_X8_must_13
    refine wM_pass hT (fun G' ag hT' => ht _ ?_ G' ag hT')
    unfold smi
    rw [if_pos w]
  · refine br_bf (by simpa using w) ?_
    refine wM_wrong 1 rfl (by omega) hT (fun G' ag hX => ?_)
    unfold j_X8_must_13
    refine wM_passX hX.ne (hf _ _ ?_ G' ag hX)
    unfold smi
    rw [if_neg w]
end
