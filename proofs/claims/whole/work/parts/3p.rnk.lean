/-! ===== ranking, both sides ===== -/
def OL (A : Nat → Int32) (L : List Nat) : Prop := ∀ j, j < L.length → A j = zI (L.getD j 0)
/-- while a place is sought: those behind it stand one further on -/
def OM (A : Nat → Int32) (L : List Nat) (at_ : Nat) : Prop := (∀ j, j < at_ → A j = zI (L.getD j 0)) ∧ ∀ j, at_ < j → j ≤ L.length → A j = zI (L.getD (j - 1) 0)
theorem OL.om {A : Nat → Int32} {L : List Nat} (h : OL A L) : OM A L L.length := ⟨h, fun j h1 h2 => by omega⟩
theorem OM.dn {A : Nat → Int32} {L : List Nat} {k : Nat} (h : OM A L (k + 1)) (hk : k + 1 ≤ L.length) : OM (upd A (k + 1) (A k)) L k := by
  refine ⟨fun j hj => ?_, fun j h1 h2 => ?_⟩
  · unfold upd
    rw [if_neg (by omega)]
    exact h.1 j (by omega)
  · unfold upd
    by_cases w : j = k + 1
    · rw [if_pos w, w, h.1 k (by omega)]
      rfl
    · rw [if_neg w]
      exact h.2 j (by omega) h2
theorem OM.put {A : Nat → Int32} {L L' : List Nat} {p x : Nat} (h : OM A L p) (hp : p ≤ L.length) (hl : L'.length = L.length + 1) (hg : ∀ j, j ≤ L.length → L'.getD j 0 = if j < p then L.getD j 0 else if j = p then x else L.getD (j - 1) 0) : OL (upd A p (zI x)) L' := by
  intro j hj
  unfold upd
  rw [hg j (by omega)]
  by_cases w : j = p
  · rw [if_pos w, if_neg (by omega), if_pos w]
  · rw [if_neg w]
    by_cases w2 : j < p
    · rw [if_pos w2]
      exact h.1 j w2
    · rw [if_neg w2, if_neg w]
      exact h.2 j (by omega) (by omega)
theorem getD_mem {L : List Nat} {j : Nat} (h : j < L.length) : L.getD j 0 ∈ L := by
  rw [List.getD_eq_getElem?_getD, List.getElem?_eq_getElem h]
  exact List.getElem_mem h
/-- a row from a place on -/
def shR (A : Nat → Int32) (b : Nat) : Nat → Int32 := fun j => A (b + j)
theorem shR_upd (A : Nat → Int32) (b p : Nat) (v : Int32) : shR (upd A (b + p) v) b = upd (shR A b) p v := by
  funext j
  show (if b + j = b + p then v else A (b + j)) = (if j = p then v else A (b + j))
  by_cases w : j = p
  · rw [if_pos w, if_pos (by omega)]
  · rw [if_neg w, if_neg (by omega)]
/-- what a ranking has told of a half -/
def RKd (A : Nat → Nat → Int32) (h : Nat) (L : List Nat) : Prop := A 2 h = zI L.length ∧ OL (shR (A 1) (13 * h)) L
def WK (h x c j : Nat) : Prop := x = 5 ∧ (c = 1 ∧ 13 * h ≤ j ∧ j < 13 * h + 13 ∨ c = 2 ∧ j = h ∨ c = 7)
theorem RKd.fr {W : Nat → Nat → Nat → Prop} {G G' : GH} {h : Nat} {L : List Nat} (hr : RKd (G 5) h L) (hl : L.length ≤ 13) (ag : Ag W G G') (h1 : ∀ j, 13 * h ≤ j → j < 13 * h + 13 → ¬ W 5 1 j) (h2 : ¬ W 5 2 h) : RKd (G' 5) h L := by
  refine ⟨?_, fun j hj => ?_⟩
  · rw [ag 5 2 h h2]
    exact hr.1
  · show G' 5 1 (13 * h + j) = _
    rw [ag 5 1 (13 * h + j) (h1 _ (by omega) (by omega))]
    exact hr.2 j hj
section
variable {R : RR} {G : GH} {n o1 h day s : Nat} {post : GH → Prop}
set_option maxHeartbeats 2000000 in
theorem wI_rank (hV : VR n R) (hn : n ≤ 13) (hC : CR R (G o1)) (ho : o1 ≠ 5) (hh : h < 12) (hd : day ≤ 9999) (hs : s < 8192) (hp : ∀ G', Ag (WK h) G G' → RKd (G' 5) h (orS R h day s.testBit (R 1)) → post G') : wp_X5_rank post o1 (zI h) (zI day) (zI s) G := by
  have h13 := Nat.le_trans hV.mk hn
  have keep : ∀ G', Ag (WK h) G G' → CR R (G' o1) := fun G' ag => by rw [ag.ob o1 (fun b j w => ho w.1)]; exact hC
  unfold wp_X5_rank
  intro y ey
  have ey : y = zI ((13 * h : Nat) : Int) := by
    rw [ey, zl13, zI_mul]
    exact zI_cg (by omega)
  subst ey
  intro P13 K13
  have main : ∀ f m : Nat, m + f = R 1 → ∀ G', Ag (WK h) G G' → OL (shR (G' 5 1) (13 * h)) (orS R h day s.testBit m) → (∀ i, i < m → s.testBit i = true → G' 5 7 i = zI (pri R i h day)) → P13 (zI h) (zI day) (zI s) (zI ((13 * h : Nat) : Int)) (zI ((13 * h + (orS R h day s.testBit m).length : Nat) : Int)) (zI m) G' := by
    intro f
    induction f with
    | zero =>
      intro m hm G' ag hol hk
      have : m = R 1 := by omega
      subst this
      have hol_len := orS_len R h day s.testBit (R 1)
      refine K13 _ _ _ _ _ _ _ ?_
      unfold lb_X5_rank_13
      rw [(keep G' ag).mk]
      refine br_t (by rw [zI_le (by omega)]; omega) ⟨zI_in (by omega), ?_⟩
      rintro _ rfl
      rw [zI_clN (by omega), zI_sub]
      refine hp _ (ag.up ⟨rfl, Or.inr (Or.inl ⟨rfl, rfl⟩)⟩) ⟨?_, ?_⟩
      · rw [gs_eq]
        unfold upd
        rw [if_pos rfl]
        exact zI_cg (by omega)
      · rw [gs_ne (by decide)]
        exact hol
    | succ f ih =>
      intro m hm G' ag hol hk
      have hpr := pri_rg R m h day
      have hol_len := orS_len R h day s.testBit m
      refine K13 _ _ _ _ _ _ _ ?_
      unfold lb_X5_rank_13
      rw [(keep G' ag).mk]
      refine br_f (by rw [zI_le (by omega)]; omega) ?_
      -- behind the reading of its priority
      have after : ∀ v : Int, v = (if s.testBit m = true then pri R m h day else -1) → j_X5_rank_50 post P13 o1 (zI h) (zI day) (zI s) (zI ((13 * h : Nat) : Int)) (zI ((13 * h + (orS R h day s.testBit m).length : Nat) : Int)) (zI m) (zI m) (zI v) G' := by
        intro v hv
        have hvr : -1 ≤ v ∧ v ≤ 9999 := by
          rw [hv]
          split <;> omega
        unfold j_X5_rank_50
        refine ⟨zI_in (by omega), ?_⟩
        rintro _ rfl
        refine ⟨zI_in (by omega), ?_⟩
        rw [zI_clN (n := m) (by omega)]
        generalize hG3 : gs G' 5 7 (upd (G' 5 7) m (zI v)) = G3
        have ag3 : Ag (WK h) G G3 := by rw [← hG3]; exact ag.up ⟨rfl, Or.inr (Or.inr rfl)⟩
        have c6 : G3 5 7 m = zI v := by
          rw [← hG3, gs_eq]
          unfold upd
          rw [if_pos rfl]
        have c6o : ∀ i, i ≠ m → G3 5 7 i = G' 5 7 i := fun i hi => by
          rw [← hG3, gs_eq]
          unfold upd
          rw [if_neg hi]
        have c1 : G3 5 1 = G' 5 1 := by rw [← hG3, gs_ne (by decide)]
        have k3 : ∀ i, i < m + 1 → s.testBit i = true → G3 5 7 i = zI (pri R i h day) := fun i hi hb => by
          by_cases w : i = m
          · subst w
            rw [c6, hv, if_pos hb]
          · rw [c6o i w]
            exact hk i (by omega) hb
        rw [c6]
        refine br_c (fun q => ?_) (fun q => ?_)
        · rw [zl1, zI_neg, zI_eq (by omega)] at q
          rw [zl1, zI_add]
          have e : orS R h day s.testBit (m + 1) = orS R h day s.testBit m := by
            show (if _ then _ else _) = _
            rw [if_neg (fun z => z.2 (by rw [if_pos z.1] at hv; omega))]
          have := ih (m + 1) (by omega) G3 ag3 (by rw [c1, e]; exact hol) k3
          rw [e] at this
          exact this
        · rw [zl1, zI_neg, zI_eq (by omega)] at q
          have hb : s.testBit m = true := by
            cases hb : s.testBit m
            · rw [hb, if_neg (by decide)] at hv
              exact absurd hv q
            · rfl
          rw [if_pos hb] at hv
          subst hv
          have e : orS R h day s.testBit (m + 1) = inS (fun x => pri R x h day) m (orS R h day s.testBit m) := by
            show (if _ then _ else _) = _
            rw [if_pos ⟨hb, q⟩]
          obtain ⟨p, p1, p2, p3, p4⟩ := inS_pos (x := m) (orS_srt R h day s.testBit m)
          have hlen := inS_len (key := fun x => pri R x h day) (x := m) (orS R h day s.testBit m)
          intro P66 K66
          have seek : ∀ g at_ : Nat, p + g = at_ → at_ ≤ (orS R h day s.testBit m).length → ∀ G'', Ag (WK h) G G'' → (∀ c, c ≠ 1 → G'' 5 c = G3 5 c) → OM (shR (G'' 5 1) (13 * h)) (orS R h day s.testBit m) at_ → P66 (zI h) (zI day) (zI s) (zI ((13 * h : Nat) : Int)) (zI ((13 * h + (orS R h day s.testBit m).length : Nat) : Int)) (zI m) (zI ((13 * h + at_ : Nat) : Int)) G'' := by
            intro g
            induction g with
            | zero =>
              intro at_ hat hle G'' ag4 hc hom
              have : at_ = p := by omega
              subst this
              have fin : j_X5_rank_119 post P13 o1 (zI h) (zI day) (zI s) (zI ((13 * h : Nat) : Int)) (zI ((13 * h + (orS R h day s.testBit m).length : Nat) : Int)) (zI m) (zI ((13 * h + at_ : Nat) : Int)) G'' := by
                unfold j_X5_rank_119
                refine ⟨zI_in (by omega), ?_⟩
                rintro _ rfl
                rw [zI_clN (by omega), zl1, zI_add, zI_add]
                have e1 : ((13 * h + (orS R h day s.testBit m).length : Nat) : Int) + 1 = ((13 * h + (orS R h day s.testBit (m + 1)).length : Nat) : Int) := by
                  rw [e, hlen]
                  omega
                rw [e1]
                refine ih (m + 1) (by omega) _ (ag4.up ⟨rfl, Or.inl ⟨rfl, by omega, by omega⟩⟩) ?_ (fun i hi hb2 => ?_)
                · rw [gs_eq, shR_upd, e]
                  exact hom.put hle hlen p4
                · rw [gs_ne (by decide), hc 7 (by decide)]
                  exact k3 i hi hb2
              refine K66 _ _ _ _ _ _ _ _ ?_
              unfold lb_X5_rank_66
              refine br_c (fun _ => fin) (fun z => ?_)
              rw [zI_le (by omega)] at z
              rw [zl1, zI_sub]
              refine ⟨zI_in (by omega), ?_⟩
              have hz := orS_mem.mp (getD_mem (L := orS R h day s.testBit m) (j := at_ - 1) (by omega))
              have eo : G'' 5 1 (13 * h + (at_ - 1)) = zI ((orS R h day s.testBit m).getD (at_ - 1) 0 : Nat) := hom.1 (at_ - 1) (by omega)
              rw [zI_cl (a := ((13 * h + at_ : Nat) : Int) - 1) (by omega), show (((13 * h + at_ : Nat) : Int) - 1).toNat = 13 * h + (at_ - 1) by omega, eo]
              refine ⟨zI_in (by omega), zI_in (by omega), ?_⟩
              have hpz := pri_rg R ((orS R h day s.testBit m).getD (at_ - 1) 0) h day
              rw [zI_clN (n := m) (by omega), zI_clN (n := (orS R h day s.testBit m).getD (at_ - 1) 0) (by omega), hc 7 (by decide), c6, k3 _ (by omega) hz.2.1]
              have := p2 (at_ - 1) (by omega)
              refine br_t (by rw [zI_le (by omega)]; exact this) fin
            | succ g ih2 =>
              intro at_ hat hle G'' ag4 hc hom
              refine K66 _ _ _ _ _ _ _ _ ?_
              unfold lb_X5_rank_66
              refine br_f (by rw [zI_le (by omega)]; omega) ?_
              rw [zl1, zI_sub]
              refine ⟨zI_in (by omega), ?_⟩
              have hz := orS_mem.mp (getD_mem (L := orS R h day s.testBit m) (j := at_ - 1) (by omega))
              have eo : G'' 5 1 (13 * h + (at_ - 1)) = zI ((orS R h day s.testBit m).getD (at_ - 1) 0 : Nat) := hom.1 (at_ - 1) (by omega)
              rw [zI_cl (a := ((13 * h + at_ : Nat) : Int) - 1) (by omega), show (((13 * h + at_ : Nat) : Int) - 1).toNat = 13 * h + (at_ - 1) by omega, eo]
              refine ⟨zI_in (by omega), zI_in (by omega), ?_⟩
              have hpz := pri_rg R ((orS R h day s.testBit m).getD (at_ - 1) 0) h day
              rw [zI_clN (n := m) (by omega), zI_clN (n := (orS R h day s.testBit m).getD (at_ - 1) 0) (by omega), hc 7 (by decide), c6, k3 _ (by omega) hz.2.1]
              have := p3 (at_ - 1) (by omega) (by omega)
              refine br_f (by rw [zI_le (by omega)]; exact Int.not_le.mpr this) ⟨zI_in (by omega), zI_in (by omega), ?_⟩
              rintro _ rfl
              obtain ⟨k, rfl⟩ : ∃ k, at_ = k + 1 := ⟨at_ - 1, by omega⟩
              rw [zI_clN (by omega), Nat.add_sub_cancel]
              have ez : zI ((13 * h + (k + 1) : Nat) : Int) + (-zI 1) = zI ((13 * h + k : Nat) : Int) := by
                rw [zI_neg, zI_add]
                exact zI_cg (by omega)
              rw [ez]
              refine ih2 k (by omega) (by omega) _ (ag4.up ⟨rfl, Or.inl ⟨rfl, by omega, by omega⟩⟩) (fun c h1 => by rw [gs_ne (by omega)]; exact hc c h1) ?_
              rw [gs_eq, shR_upd]
              have hd2 := hom.dn hle
              rw [hom.1 k (by omega)] at hd2
              exact hd2
          exact seek ((orS R h day s.testBit m).length - p) _ (by omega) (Nat.le_refl _) G3 ag3 (fun c _ => rfl) (by rw [c1]; exact hol.om)
      rw [wI_isIn (by omega) (by omega)]
      by_cases z : s.testBit m = true
      · refine br_bt z ?_
        refine wI_priorityOf hV hn (keep _ ag) (by omega) hh hd ?_
        exact after _ (by rw [if_pos z])
      · refine br_bf (by simpa using z) ?_
        exact after (-1) (by rw [if_neg z])
  have e0 : 13 * h + (orS R h day s.testBit 0).length = 13 * h := rfl
  have := main (R 1) 0 (by omega) G (Ag.rf G) (fun j hj => by simp [orS] at hj) (fun i hi => by omega)
  rw [e0] at this
  exact this
/-- all halves of a day, all marks -/
theorem wI_rankAll (hV : VR n R) (hn : n ≤ 13) (hC : CR R (G o1)) (ho : o1 ≠ 5) (hd : day ≤ 9999) (hp : ∀ G', Ag (fun x c _ => x = 5 ∧ (c = 1 ∨ c = 2 ∨ c = 7)) G G' → (∀ h, h < 2 * R 0 → RKd (G' 5) h (orS R h day (2 ^ R 1 - 1).testBit (R 1))) → post G') : wp_X5_rankAll post o1 (zI day) G := by
  have h13 := Nat.le_trans hV.mk hn
  have l6 := hV.l6
  unfold wp_X5_rankAll
  intro P2 K2
  have main : ∀ f k : Nat, k + f = 2 * R 0 → ∀ G', Ag (fun x c _ => x = 5 ∧ (c = 1 ∨ c = 2 ∨ c = 7)) G G' → (∀ h, h < k → RKd (G' 5) h (orS R h day (2 ^ R 1 - 1).testBit (R 1))) → P2 (zI day) (zI k) G' := by
    intro f
    induction f with
    | zero =>
      intro k hk G' ag hR
      have : k = 2 * R 0 := by omega
      subst this
      have hC2 : CR R (G' o1) := by rw [ag.ob o1 (fun b j w => ho w.1)]; exact hC
      refine K2 _ _ _ ?_
      unfold lb_X5_rankAll_2
      rw [wI_halfCount hC2]
      refine br_t (by rw [zI_le (by omega)]; omega) ?_
      exact hp G' ag hR
    | succ f ih =>
      intro k hk G' ag hR
      have hC2 : CR R (G' o1) := by rw [ag.ob o1 (fun b j w => ho w.1)]; exact hC
      refine K2 _ _ _ ?_
      unfold lb_X5_rankAll_2
      rw [wI_halfCount hC2]
      refine br_f (by rw [zI_le (by omega)]; omega) ?_
      rw [wI_allMarks hC2 ⟨hV.1, h13, hV.2.2⟩]
      have hpw := pow_le13 h13
      have hpz := Nat.two_pow_pos (R 1)
      refine wI_rank hV hn hC2 ho (by omega) hd (by omega) (fun G3 ag3 hr => ?_)
      rw [zl1, zI_add]
      refine ih (k + 1) (by omega) G3 (ag.tr (ag3.mo (fun x c j w => by unfold WK at w; omega))) (fun h hh => ?_)
      by_cases w : h = k
      · subst w
        exact hr
      · refine (hR h (by omega)).fr (Nat.le_trans (orS_len _ _ _ _ _) h13) ag3 (fun j h1 h2 z => ?_) (fun z => ?_)
        · unfold WK at z
          omega
        · unfold WK at z
          omega
  exact main (2 * R 0) 0 (by omega) G (Ag.rf G) (fun h hh => by omega)
end
