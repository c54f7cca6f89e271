/-! ===== ranking in the reference ===== -/
def WKm (x c j : Nat) : Prop := x = 24 ∧ (22 ≤ c ∧ c ≤ 24 ∨ c = 0 ∧ j = 24)
section
variable {R : RR} {G : GH} {n h day : Nat} {post : GH → Prop}
theorem wM_isSenior {postb : Bool → GH → Prop} {a b : Nat} {u v : Int} (ha : a < 13) (hb : b < 13) (hba : b < a) (hu : G 24 22 a = zI u) (hv : G 24 22 b = zI v) (ru : -1 ≤ u ∧ u ≤ 9999) (rv : -1 ≤ v ∧ v ≤ 9999) (hp : postb (decide (u < v)) G) : wp_X8_isSenior postb (zI a) (zI b) G := by
  unfold wp_X8_isSenior j_X8_isSenior_35
  refine ⟨zI_in (by omega), zI_in (by omega), ?_⟩
  rw [zI_clN (by omega), zI_clN (by omega), hu, hv, zI_lt (by omega), zI_eq (by omega), zI_le (by omega)]
  refine br_c (fun q => ?_) (fun q => ⟨zI_in (by omega), zI_in (by omega), ?_⟩)
  · rw [decide_eq_true q] at hp
    exact hp
  · rw [decide_eq_false q] at hp
    exact br_c (fun _ => br_t (by omega) hp) (fun _ => hp)
set_option maxHeartbeats 2000000 in
theorem wM_layRanks (hV : VR n R) (hn : n ≤ 13) (hM : MR R (G 24 1)) (hh : h < 12) (hd : day ≤ 9999) (hp : ∀ G', Ag WKm G G' → G' 24 0 24 = zI (orS R h day (fun _ => true) (R 1)).length → OL (G' 24 23) (orS R h day (fun _ => true) (R 1)) → (∀ m, m < R 1 → G' 24 24 m = zI (-1)) → (∀ m, m < R 1 → G' 24 22 m = zI (pri R m h day)) → post G') : wp_X8_layRanks post (zI h) (zI day) G := by
  have h13 := Nat.le_trans hV.mk hn
  have keep : ∀ G', Ag WKm G G' → MR R (G' 24 1) := fun G' ag => by
    rw [ag.ce 24 1 (fun j w => by unfold WKm at w; omega)]
    exact hM
  unfold wp_X8_layRanks
  rintro _ rfl
  intro P7 K7
  have main : ∀ f m : Nat, m + f = R 1 → ∀ G', Ag WKm G G' → G' 24 0 24 = zI (orS R h day (fun _ => true) m).length → OL (G' 24 23) (orS R h day (fun _ => true) m) → (∀ i, i < m → G' 24 24 i = zI (-1)) → (∀ i, i < m → G' 24 22 i = zI (pri R i h day)) → P7 (zI h) (zI day) (zI m) G' := by
    intro f
    induction f with
    | zero =>
      intro m hm G' ag h6 hol h2 hk
      have : m = R 1 := by omega
      subst this
      refine K7 _ _ _ _ ?_
      unfold lb_X8_layRanks_7
      rw [wM_marks (keep G' ag)]
      refine br_t (by rw [zI_le (by omega)]; omega) ?_
      exact hp G' ag h6 hol h2 hk
    | succ f ih =>
      intro m hm G' ag h6 hol h2 hk
      have hpr := pri_rg R m h day
      have hol_len := orS_len R h day (fun _ => true) m
      refine K7 _ _ _ _ ?_
      unfold lb_X8_layRanks_7
      rw [wM_marks (keep G' ag)]
      refine br_f (by rw [zI_le (by omega)]; omega) ?_
      refine wM_priorityOf hV hn (keep G' ag) (by omega) hh hd ⟨zI_in (by omega), ?_⟩
      rintro _ rfl
      refine ⟨zI_in (by omega), ?_⟩
      rintro _ rfl
      refine ⟨zI_in (by omega), ?_⟩
      rw [zI_clN (by omega)]
      generalize hG3 : gs (gs G' 24 22 (upd (G' 24 22) m (zI (pri R m h day)))) 24 24 (upd (gs G' 24 22 (upd (G' 24 22) m (zI (pri R m h day))) 24 24) m (-1 : Int32)) = G3
      have ag3 : Ag WKm G G3 := by rw [← hG3]; exact (ag.up ⟨rfl, Or.inl (by omega)⟩).up ⟨rfl, Or.inl (by omega)⟩
      have k3 : ∀ i, i < m + 1 → G3 24 22 i = zI (pri R i h day) := fun i hi => by
        rw [← hG3, gs_ne (by decide), gs_eq]
        unfold upd
        by_cases w : i = m
        · rw [if_pos w, w]
        · rw [if_neg w]
          exact hk i (by omega)
      have c2 : ∀ i, i < m + 1 → G3 24 24 i = zI (-1) := fun i hi => by
        rw [← hG3, gs_eq, gs_ne (by decide)]
        unfold upd
        by_cases w : i = m
        · rw [if_pos w]
          rfl
        · rw [if_neg w]
          exact h2 i (by omega)
      have c1 : G3 24 23 = G' 24 23 := by rw [← hG3, gs_ne (by decide), gs_ne (by decide)]
      have c0 : G3 24 0 = G' 24 0 := by rw [← hG3, gs_ne (by decide), gs_ne (by decide)]
      rw [k3 m (by omega)]
      refine br_c (fun q => ?_) (fun q => ?_)
      · rw [zl1, zI_neg, zI_eq (by omega)] at q
        rw [zl1, zI_add]
        have e : orS R h day (fun _ => true) (m + 1) = orS R h day (fun _ => true) m := by
          show (if _ then _ else _) = _
          rw [if_neg (fun z => z.2 q)]
        refine ih (m + 1) (by omega) G3 ag3 (by rw [c0, e]; exact h6) (by rw [c1, e]; exact hol) c2 k3
      · rw [zl1, zI_neg, zI_eq (by omega)] at q
        have e : orS R h day (fun _ => true) (m + 1) = inS (fun x => pri R x h day) m (orS R h day (fun _ => true) m) := by
          show (if _ then _ else _) = _
          rw [if_pos ⟨rfl, q⟩]
        obtain ⟨p, p1, p2, p3, p4⟩ := inS_pos (x := m) (orS_srt R h day (fun _ => true) m)
        have hlen := inS_len (key := fun x => pri R x h day) (x := m) (orS R h day (fun _ => true) m)
        rw [c0, h6]
        rintro _ rfl
        intro P54 K54
        have seek : ∀ g at_ : Nat, p + g = at_ → at_ ≤ (orS R h day (fun _ => true) m).length → ∀ G'', Ag WKm G G'' → (∀ c, c ≠ 23 → G'' 24 c = G3 24 c) → OM (G'' 24 23) (orS R h day (fun _ => true) m) at_ → P54 (zI h) (zI day) (zI m) (zI at_) G'' := by
          intro g
          induction g with
          | zero =>
            intro at_ hat hle G'' ag4 hc hom
            have : at_ = p := by omega
            subst this
            have fin : j_X8_layRanks_98 post P7 (zI h) (zI day) (zI m) (zI at_) G'' := by
              unfold j_X8_layRanks_98
              refine ⟨zI_in (by omega), ?_⟩
              rintro _ rfl
              rintro _ rfl
              rw [zI_clN (by omega)]
              have e0 : gs G'' 24 23 (upd (G'' 24 23) at_ (zI m)) 24 0 24 = zI (orS R h day (fun _ => true) m).length := by
                rw [gs_ne (by decide), hc 0 (by decide), c0]
                exact h6
              rw [e0, zl1, zI_add, zI_add]
              refine ih (m + 1) (by omega) _ ((ag4.up ⟨rfl, Or.inl (by omega)⟩).up ⟨rfl, Or.inr ⟨rfl, rfl⟩⟩) ?_ ?_ (fun i hi => ?_) (fun i hi => ?_)
              · rw [gs_eq]
                unfold upd
                rw [if_pos rfl, e, hlen]
                rfl
              · rw [gs_ne (by decide), gs_eq, e]
                exact hom.put hle hlen p4
              · rw [gs_ne (by decide), gs_ne (by decide), hc 24 (by decide)]
                exact c2 i hi
              · rw [gs_ne (by decide), gs_ne (by decide), hc 22 (by decide)]
                exact k3 i hi
            refine K54 _ _ _ _ _ ?_
            unfold lb_X8_layRanks_54
            refine br_c (fun _ => fin) (fun z => ?_)
            rw [zl0, zI_le (by omega)] at z
            rw [zl1, zI_sub]
            refine ⟨zI_in (by omega), ?_⟩
            have hz := orS_mem.mp (getD_mem (L := orS R h day (fun _ => true) m) (j := at_ - 1) (by omega))
            rw [zI_cl (a := (at_ : Int) - 1) (by omega), show ((at_ : Int) - 1).toNat = at_ - 1 by omega, hom.1 (at_ - 1) (by omega)]
            have hpz := pri_rg R ((orS R h day (fun _ => true) m).getD (at_ - 1) 0) h day
            refine wM_isSenior (by omega) (by omega) (by omega) (by rw [hc 22 (by decide)]; exact k3 m (by omega)) (by rw [hc 22 (by decide)]; exact k3 _ (by omega)) (by omega) (by omega) ?_
            have := p2 (at_ - 1) (by omega)
            exact br_bf (decide_eq_false (Int.not_lt.mpr this)) fin
          | succ g ih2 =>
            intro at_ hat hle G'' ag4 hc hom
            refine K54 _ _ _ _ _ ?_
            unfold lb_X8_layRanks_54
            refine br_f (by rw [zl0, zI_le (by omega)]; omega) ?_
            rw [zl1, zI_sub]
            refine ⟨zI_in (by omega), ?_⟩
            have hz := orS_mem.mp (getD_mem (L := orS R h day (fun _ => true) m) (j := at_ - 1) (by omega))
            rw [zI_cl (a := (at_ : Int) - 1) (by omega), show ((at_ : Int) - 1).toNat = at_ - 1 by omega, hom.1 (at_ - 1) (by omega)]
            have hpz := pri_rg R ((orS R h day (fun _ => true) m).getD (at_ - 1) 0) h day
            refine wM_isSenior (by omega) (by omega) (by omega) (by rw [hc 22 (by decide)]; exact k3 m (by omega)) (by rw [hc 22 (by decide)]; exact k3 _ (by omega)) (by omega) (by omega) ?_
            have := p3 (at_ - 1) (by omega) (by omega)
            refine br_bt (decide_eq_true this) ⟨zI_in (by omega), zI_in (by omega), ?_⟩
            rintro _ rfl
            obtain ⟨k, rfl⟩ : ∃ k, at_ = k + 1 := ⟨at_ - 1, by omega⟩
            rw [zI_clN (by omega), Nat.add_sub_cancel]
            have ez : zI ((k + 1 : Nat) : Int) + (-zI 1) = zI (k : Int) := by
              rw [zI_neg, zI_add]
              exact zI_cg (by omega)
            rw [ez]
            refine ih2 k (by omega) (by omega) _ (ag4.up ⟨rfl, Or.inl (by omega)⟩) (fun c h1 => by rw [gs_ne (by omega)]; exact hc c h1) ?_
            rw [gs_eq]
            exact hom.dn hle
        exact seek ((orS R h day (fun _ => true) m).length - p) _ (by omega) (Nat.le_refl _) G3 ag3 (fun c _ => rfl) (by rw [c1]; exact hol.om)
  refine main (R 1) 0 (by omega) _ ((Ag.rf G).up ⟨rfl, Or.inr ⟨rfl, rfl⟩⟩) ?_ (fun j hj => by simp [orS] at hj) (fun i hi => by omega) (fun i hi => by omega)
  rw [gs_eq]
  unfold upd
  rw [if_pos rfl]
  rfl
end
