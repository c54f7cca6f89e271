/-! ===== ranking, both sides ===== -/
def OL (A : Nat → Int32) (L : List Nat) : Prop := ∀ j, j < L.length → A j = zI (L.getD j 0)
/-- while a place is sought: those behind it stand one further on -/
def OM (A : Nat → Int32) (L : List Nat) (at_ : Nat) : Prop := (∀ j, j < at_ → A j = zI (L.getD j 0)) ∧ ∀ j, at_ < j → j ≤ L.length → A j = zI (L.getD (j - 1) 0)
theorem OL.om {A : Nat → Int32} {L : List Nat} (h : OL A L) : OM A L L.length := ⟨h, fun j h1 h2 => by omega⟩
theorem OM.dn {A : Nat → Int32} {L : List Nat} {k : Nat} (h : OM A L (k + 1)) (hk : k + 1 ≤ L.length) : OM (upd A (k + 1) (A k)) L k := by
  refine ⟨fun j hj => ?_, fun j h1 h2 => ?_⟩
  · unfold upd
    rw [if_neg (by omega)]
    exact h.1 j (by omega)
  · unfold upd
    by_cases w : j = k + 1
    · rw [if_pos w, w, h.1 k (by omega)]
      rfl
    · rw [if_neg w]
      exact h.2 j (by omega) h2
theorem OM.put {A : Nat → Int32} {L L' : List Nat} {p x : Nat} (h : OM A L p) (hp : p ≤ L.length) (hl : L'.length = L.length + 1) (hg : ∀ j, j ≤ L.length → L'.getD j 0 = if j < p then L.getD j 0 else if j = p then x else L.getD (j - 1) 0) : OL (upd A p (zI x)) L' := by
  intro j hj
  unfold upd
  rw [hg j (by omega)]
  by_cases w : j = p
  · rw [if_pos w, if_neg (by omega), if_pos w]
  · rw [if_neg w]
    by_cases w2 : j < p
    · rw [if_pos w2]
      exact h.1 j w2
    · rw [if_neg w2, if_neg w]
      exact h.2 j (by omega) (by omega)
theorem getD_mem {L : List Nat} {j : Nat} (h : j < L.length) : L.getD j 0 ∈ L := by
  rw [List.getD_eq_getElem?_getD, List.getElem?_eq_getElem h]
  exact List.getElem_mem h
def WK (x c j : Nat) : Prop := x = 5 ∧ (c = 1 ∨ c = 2 ∨ c = 6 ∨ c = 0 ∧ j = 6)
section
variable {R : RR} {G : GH} {n o1 h day s : Nat} {post : GH → Prop}
set_option maxHeartbeats 2000000 in
theorem wI_rank (hV : VR n R) (hn : n ≤ 13) (hC : CR R (G o1)) (ho : o1 ≠ 5) (hh : h < 12) (hd : day ≤ 9999) (hs : s < 8192) (hp : ∀ G', Ag WK G G' → G' 5 0 6 = zI (orS R h day s.testBit (R 1)).length → OL (G' 5 1) (orS R h day s.testBit (R 1)) → (∀ m, m < R 1 → G' 5 2 m = zI (-1)) → post G') : wp_X5_rank post o1 (zI h) (zI day) (zI s) G := by
  have h13 := Nat.le_trans hV.mk hn
  have keep : ∀ G', Ag WK G G' → CR R (G' o1) := fun G' ag => by rw [ag.ob o1 (fun b j w => ho w.1)]; exact hC
  unfold wp_X5_rank
  rintro _ rfl
  intro P8 K8
  have main : ∀ f m : Nat, m + f = R 1 → ∀ G', Ag WK G G' → G' 5 0 6 = zI (orS R h day s.testBit m).length → OL (G' 5 1) (orS R h day s.testBit m) → (∀ i, i < m → G' 5 2 i = zI (-1)) → (∀ i, i < m → s.testBit i = true → G' 5 6 i = zI (pri R i h day)) → P8 (zI h) (zI day) (zI s) (zI m) G' := by
    intro f
    induction f with
    | zero =>
      intro m hm G' ag h6 hol h2 hk
      have : m = R 1 := by omega
      subst this
      refine K8 _ _ _ _ _ ?_
      unfold lb_X5_rank_8
      rw [(keep G' ag).mk]
      refine br_t (by rw [zI_le (by omega)]; omega) ?_
      exact hp G' ag h6 hol h2
    | succ f ih =>
      intro m hm G' ag h6 hol h2 hk
      have hpr := pri_rg R m h day
      have hol_len := orS_len R h day s.testBit m
      refine K8 _ _ _ _ _ ?_
      unfold lb_X5_rank_8
      rw [(keep G' ag).mk]
      refine br_f (by rw [zI_le (by omega)]; omega) ⟨zI_in (by omega), ?_⟩
      rintro _ rfl
      rw [zI_clN (by omega)]
      have ag1 : Ag WK G (gs G' 5 2 (upd (G' 5 2) m (-1 : Int32))) := ag.up ⟨rfl, Or.inr (Or.inl rfl)⟩
      -- behind the reading of its priority
      have after : ∀ v : Int, v = (if s.testBit m = true then pri R m h day else -1) → j_X5_rank_53 post P8 o1 (zI h) (zI day) (zI s) (zI m) (zI m) (zI v) (gs G' 5 2 (upd (G' 5 2) m (-1 : Int32))) := by
        intro v hv
        have hvr : -1 ≤ v ∧ v ≤ 9999 := by
          rw [hv]
          split <;> omega
        unfold j_X5_rank_53
        refine ⟨zI_in (by omega), ?_⟩
        rintro _ rfl
        refine ⟨zI_in (by omega), ?_⟩
        rw [zI_clN (by omega)]
        generalize hG3 : gs (gs G' 5 2 (upd (G' 5 2) m (-1 : Int32))) 5 6 (upd (gs G' 5 2 (upd (G' 5 2) m (-1 : Int32)) 5 6) m (zI v)) = G3
        have ag3 : Ag WK G G3 := by rw [← hG3]; exact ag1.up ⟨rfl, Or.inr (Or.inr (Or.inl rfl))⟩
        have c6 : G3 5 6 m = zI v := by
          rw [← hG3, gs_eq]
          unfold upd
          rw [if_pos rfl]
        have c6o : ∀ i, i ≠ m → G3 5 6 i = G' 5 6 i := fun i hi => by
          rw [← hG3, gs_eq, gs_ne (by decide)]
          unfold upd
          rw [if_neg hi]
        have c1 : G3 5 1 = G' 5 1 := by rw [← hG3, gs_ne (by decide), gs_ne (by decide)]
        have c0 : G3 5 0 = G' 5 0 := by rw [← hG3, gs_ne (by decide), gs_ne (by decide)]
        have c2 : ∀ i, i < m + 1 → G3 5 2 i = zI (-1) := fun i hi => by
          rw [← hG3, gs_ne (by decide), gs_eq]
          unfold upd
          by_cases w : i = m
          · rw [if_pos w]
            rfl
          · rw [if_neg w]
            exact h2 i (by omega)
        have k3 : ∀ i, i < m + 1 → s.testBit i = true → G3 5 6 i = zI (pri R i h day) := fun i hi hb => by
          by_cases w : i = m
          · subst w
            rw [c6, hv, if_pos hb]
          · rw [c6o i w]
            exact hk i (by omega) hb
        rw [c6]
        refine br_c (fun q => ?_) (fun q => ?_)
        · rw [zl1, zI_neg, zI_eq (by omega)] at q
          rw [zl1, zI_add]
          have e : orS R h day s.testBit (m + 1) = orS R h day s.testBit m := by
            show (if _ then _ else _) = _
            rw [if_neg (fun z => z.2 (by rw [if_pos z.1] at hv; omega))]
          refine ih (m + 1) (by omega) G3 ag3 (by rw [c0, e]; exact h6) (by rw [c1, e]; exact hol) c2 k3
        · rw [zl1, zI_neg, zI_eq (by omega)] at q
          have hb : s.testBit m = true := by
            cases hb : s.testBit m
            · rw [hb, if_neg (by decide)] at hv
              exact absurd hv q
            · rfl
          rw [if_pos hb] at hv
          subst hv
          have e : orS R h day s.testBit (m + 1) = inS (fun x => pri R x h day) m (orS R h day s.testBit m) := by
            show (if _ then _ else _) = _
            rw [if_pos ⟨hb, q⟩]
          obtain ⟨p, p1, p2, p3, p4⟩ := inS_pos (x := m) (orS_srt R h day s.testBit m)
          have hlen := inS_len (key := fun x => pri R x h day) (x := m) (orS R h day s.testBit m)
          rw [c0, h6]
          rintro _ rfl
          intro P71 K71
          have seek : ∀ g at_ : Nat, p + g = at_ → at_ ≤ (orS R h day s.testBit m).length → ∀ G'', Ag WK G G'' → (∀ c, c ≠ 1 → G'' 5 c = G3 5 c) → OM (G'' 5 1) (orS R h day s.testBit m) at_ → P71 (zI h) (zI day) (zI s) (zI m) (zI at_) G'' := by
            intro g
            induction g with
            | zero =>
              intro at_ hat hle G'' ag4 hc hom
              have : at_ = p := by omega
              subst this
              have fin : j_X5_rank_122 post P8 o1 (zI h) (zI day) (zI s) (zI m) (zI at_) G'' := by
                unfold j_X5_rank_122
                refine ⟨zI_in (by omega), ?_⟩
                rintro _ rfl
                rintro _ rfl
                rw [zI_clN (by omega)]
                have e0 : gs G'' 5 1 (upd (G'' 5 1) at_ (zI m)) 5 0 6 = zI (orS R h day s.testBit m).length := by
                  rw [gs_ne (by decide), hc 0 (by decide), c0]
                  exact h6
                rw [e0, zl1, zI_add, zI_add]
                refine ih (m + 1) (by omega) _ ((ag4.up ⟨rfl, Or.inl rfl⟩).up ⟨rfl, Or.inr (Or.inr (Or.inr ⟨rfl, rfl⟩))⟩) ?_ ?_ (fun i hi => ?_) (fun i hi hb2 => ?_)
                · rw [gs_eq]
                  unfold upd
                  rw [if_pos rfl, e, hlen]
                  rfl
                · rw [gs_ne (by decide), gs_eq, e]
                  exact hom.put hle hlen p4
                · rw [gs_ne (by decide), gs_ne (by decide), hc 2 (by decide)]
                  exact c2 i hi
                · rw [gs_ne (by decide), gs_ne (by decide), hc 6 (by decide)]
                  exact k3 i hi hb2
              refine K71 _ _ _ _ _ _ ?_
              unfold lb_X5_rank_71
              refine br_c (fun _ => fin) (fun z => ?_)
              rw [zl0, zI_le (by omega)] at z
              rw [zl1, zI_sub]
              refine ⟨zI_in (by omega), ?_⟩
              have hz := orS_mem.mp (getD_mem (L := orS R h day s.testBit m) (j := at_ - 1) (by omega))
              rw [zI_cl (by omega), show ((at_ : Int) - 1).toNat = at_ - 1 by omega, hom.1 (at_ - 1) (by omega)]
              refine ⟨zI_in (by omega), zI_in (by omega), ?_⟩
              have hpz := pri_rg R ((orS R h day s.testBit m).getD (at_ - 1) 0) h day
              rw [zI_clN (by omega), zI_clN (by omega), hc 6 (by decide), c6, k3 _ (by omega) hz.2.1]
              have := p2 (at_ - 1) (by omega)
              refine br_t (by rw [zI_le (by omega)]; exact this) fin
            | succ g ih2 =>
              intro at_ hat hle G'' ag4 hc hom
              refine K71 _ _ _ _ _ _ ?_
              unfold lb_X5_rank_71
              refine br_f (by rw [zl0, zI_le (by omega)]; omega) ?_
              rw [zl1, zI_sub]
              refine ⟨zI_in (by omega), ?_⟩
              have hz := orS_mem.mp (getD_mem (L := orS R h day s.testBit m) (j := at_ - 1) (by omega))
              rw [zI_cl (by omega), show ((at_ : Int) - 1).toNat = at_ - 1 by omega, hom.1 (at_ - 1) (by omega)]
              refine ⟨zI_in (by omega), zI_in (by omega), ?_⟩
              have hpz := pri_rg R ((orS R h day s.testBit m).getD (at_ - 1) 0) h day
              rw [zI_clN (by omega), zI_clN (by omega), hc 6 (by decide), c6, k3 _ (by omega) hz.2.1]
              have := p3 (at_ - 1) (by omega) (by omega)
              refine br_f (by rw [zI_le (by omega)]; exact Int.not_le.mpr this) ⟨zI_in (by omega), zI_in (by omega), ?_⟩
              rintro _ rfl
              obtain ⟨k, rfl⟩ : ∃ k, at_ = k + 1 := ⟨at_ - 1, by omega⟩
              rw [zI_clN (by omega), Nat.add_sub_cancel, ← hom.1 k (by omega)]
              have ez : zI ((k + 1 : Nat) : Int) + (-zI 1) = zI (k : Int) := by
                rw [zI_neg, zI_add]
                exact zI_cg (by omega)
              rw [ez]
              refine ih2 k (by omega) (by omega) _ (ag4.up ⟨rfl, Or.inl rfl⟩) (fun c h1 => by rw [gs_ne (by omega)]; exact hc c h1) ?_
              rw [gs_eq]
              exact hom.dn hle
          exact seek ((orS R h day s.testBit m).length - p) _ (by omega) (Nat.le_refl _) G3 ag3 (fun c _ => rfl) (by rw [c1]; exact hol.om)
      rw [wI_isIn (by omega) (by omega)]
      by_cases z : s.testBit m = true
      · refine br_bt z ?_
        refine wI_priorityOf hV hn (keep _ ag1) (by omega) hh hd ?_
        exact after _ (by rw [if_pos z])
      · refine br_bf (by simpa using z) ?_
        exact after (-1) (by rw [if_neg z])
  refine main (R 1) 0 (by omega) _ ((Ag.rf G).up ⟨rfl, Or.inr (Or.inr (Or.inr ⟨rfl, rfl⟩))⟩) ?_ (fun j hj => by simp [orS] at hj) (fun i hi => by omega) (fun i hi => by omega)
  rw [gs_eq]
  unfold upd
  rw [if_pos rfl]
  rfl
end
