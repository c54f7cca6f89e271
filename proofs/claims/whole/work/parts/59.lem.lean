/-! ===== the letter by which a mark would be free, in the reference ===== -/
section
variable {R : RR} {G : GH} {n m day : Nat}
theorem wM_holdsWhereRight {post : Bool → GH → Prop} (hV : VR n R) (hn : n ≤ 13) (hM : MR R (G 24 1)) (hL : G 24 0 7 ≠ 0 → LT R (G 24)) (hm : m < R 1) (hd : day ≤ 9999) (hp : ∀ G', Ag WH G G' → (G' 24 0 7 ≠ 0 → LT R (G' 24)) → post (hrB R day m) G') : wp_X8_holdsWhereRight post (zI m) (zI day) G := by
  have l6 := hV.l6
  unfold wp_X8_holdsWhereRight
  refine wM_halvesOf (what := 0) hV hn hM hL hm hd (by omega) (fun G1 ag1 hl1 => ?_)
  have hM1 : MR R (G1 24 1) := hM.fr ag1 (fun j w => by unfold WH at w; omega)
  refine wM_halvesOf (what := 1) hV hn hM1 hl1 hm hd (by omega) (fun G2 ag2 hl2 => ?_)
  have fin := hp G2 (ag1.tr ag2) hl2
  have h0 := hvS_lt (d := day) (m := m) (w := 0) hV
  have h1 := hvS_lt (d := day) (m := m) (w := 1) hV
  rw [zI_eq (by omega)]
  have iff1 : (((hvS R day m 0 : Nat) : Int) = ((hvS R day m 1 : Nat) : Int)) ↔ ∀ h, h < 2 * R 0 → enB R day m h = true → hoB R day m h = true := by
    rw [hvS_0, hvS_1]
    constructor
    · intro z h hh he
      have z : bset (enB R day m) (2 * R 0) = bset (hoB R day m) (2 * R 0) := by omega
      have : (bset (hoB R day m) (2 * R 0)).testBit h = true := by
        rw [← z, bset_tb, decide_eq_true hh, he]
        rfl
      rw [bset_tb, decide_eq_true hh, Bool.true_and] at this
      exact this
    · intro z
      congr 1
      refine bset_cg (fun i hi => ?_)
      cases he : enB R day m i
      · cases ho : hoB R day m i
        · rfl
        · have := (hoB_en ho).1
          rw [he] at this
          cases this
      · rw [z i hi he]
  unfold hrB at fin
  refine br_c (fun z => ?_) (fun z => ?_)
  · rw [decide_eq_true (iff1.mp z)] at fin
    exact fin
  · rw [decide_eq_false (fun y => z (iff1.mpr y))] at fin
    exact fin
theorem MR.nl {k l : Nat} {f : Nat → Int32} (h : MR R f) : MR (nlR R m k l) (upd f (18 + 51 * m + (1 + k)) (zI ((97 + l : Nat) : Int))) := by
  intro j hj
  unfold nlR
  by_cases w : j = 18 + 51 * m + (1 + k)
  · rw [w, upd_eq, if_pos rfl]
  · rw [upd_ne w, if_neg w]
    exact h.at hj
set_option maxHeartbeats 2000000 in
theorem wM_letterL {post : Int32 → GH → Prop} (hV : VR n R) (hn : n ≤ 13) (hm : m < R 1) (hd : day ≤ 9999) (hM : MR R (G 24 1)) (hL : G 24 0 7 ≠ 0 → LT R (G 24)) (hp : ∀ G', Ag WHa G G' → MR R (G' 24 1) → (G' 24 0 7 ≠ 0 → LT R (G' 24)) → post (zI (lfI R m day)) G') : lp_X8_letterFor_50 post (zI m) (zI day) (-1 : Int32) (bI (hrB R day m)) (0 : Int32) G := by
  have h13 := Nat.le_trans hV.mk hn
  have hln := hV.ln hm
  have hln1 := hV.ln1 hm
  intro P K
  cases hr : hrB R day m
  · -- it doesn't hold where it has a right
    have hp : ∀ G', Ag WHa G G' → MR R (G' 24 1) → (G' 24 0 7 ≠ 0 → LT R (G' 24)) → post (zI (fsB (lfB R m day) (26 * qq R m 0))) G' := fun G' ag h1 h2 => by
      have := hp G' ag h1 h2
      unfold lfI at this
      rw [hr, if_neg (by decide)] at this
      exact this
    have main : ∀ f k : Nat, k + f = qq R m 0 → (∀ x, x < 26 * k → lfB R m day x = false) → ∀ G', Ag WHa G G' → MR R (G' 24 1) → (G' 24 0 7 ≠ 0 → LT R (G' 24)) → P (zI m) (zI day) (-1 : Int32) (bI false) (zI k) G' := by
      intro f
      induction f with
      | zero =>
        intro k hk hno G' ag hM' hL'
        refine K _ _ _ _ _ _ ?_
        unfold lb_X8_letterFor_50
        refine wM_of1 hM' m 0 rfl rfl (by omega) (by omega) ?_
        refine br_t (by rw [zI_le (by omega)]; omega) ?_
        have := hp G' ag hM' hL'
        rw [fsB_no _ (fun i hi => hno i (by omega))] at this
        exact this
      | succ f ih =>
        intro k hk hno G' ag hM' hL'
        have hkl : k < qq R m 0 := by omega
        have hk10 : k < 10 := by omega
        have c1 := hV.lt1 hm hkl
        have c2 := hV.lt2 hm hkl
        obtain ⟨c0, hc0, ec0⟩ : ∃ c0, c0 < 26 ∧ qq R m (1 + k) = 97 + c0 := ⟨qq R m (1 + k) - 97, by omega, by omega⟩
        refine K _ _ _ _ _ _ ?_
        unfold lb_X8_letterFor_50
        refine wM_of1 hM' m 0 rfl rfl (by omega) (by omega) ?_
        refine br_f (by rw [zI_le (by omega)]; omega) (br_t rfl (br_t rfl ?_))
        refine wM_of1 hM' m (1 + k) rfl (zI_add 1 k) (by omega) (by omega) ?_
        rw [ec0]
        -- the letter as before, then the next place
        have back : ∀ (v : Int32) (l' : Nat) (G2 : GH), l' < 26 → Ag WHa G G2 → MR (nlR R m k l') (G2 24 1) → (∀ G3, Ag WHa G G3 → MR R (G3 24 1) → (G3 24 0 7 ≠ 0 → LT R (G3 24)) → P (zI m) (zI day) v (bI false) (zI ((k + 1 : Nat) : Int)) G3) → j_X8_letterFor_153 post P (zI m) (zI day) v (bI false) (zI k) (zI ((97 + c0 : Nat) : Int)) G2 := by
          intro v l' G2 hl' ag2 hM2 hnx
          unfold j_X8_letterFor_153
          refine wM_put m (1 + k) rfl (zI_add 1 k) (by omega) (by omega) (fun G19 e19 => ?_)
          intro G21 e21
          rw [show zI (k : Int) + (1 : Int32) = zI ((k + 1 : Nat) : Int) from zI_add _ 1]
          refine hnx G21 ?_ ?_ (fun z => ?_)
          · rw [e21, e19]
            exact (ag2.up (Or.inr ⟨rfl, rfl⟩)).up (Or.inl (by unfold WH; omega))
          · rw [e21, gs_ne (by decide), e19, gs_eq]
            have := hM2.nl (m := m) (k := k) (l := c0)
            rw [nlR_nl, nlR_self ec0] at this
            exact this
          · rw [e21, gs_eq, upd_eq] at z
            exact absurd rfl z
        intro P85 K85
        have inner : ∀ g l l' : Nat, l + g = 26 → l' < 26 → (∀ i, i < l → lfB R m day (26 * k + i) = false) → ∀ G2, Ag WHa G G2 → MR (nlR R m k l') (G2 24 1) → P85 (zI m) (zI day) (-1 : Int32) (bI false) (zI k) (zI ((97 + c0 : Nat) : Int)) (zI l) G2 := by
          intro g
          induction g with
          | zero =>
            intro l l' hl hl' hno2 G2 ag2 hM2
            refine K85 _ _ _ _ _ _ _ _ ?_
            unfold lb_X8_letterFor_85
            refine br_t (by rw [zl26, zI_le (by omega)]; omega) ?_
            refine back _ l' G2 hl' ag2 hM2 (fun G3 ag3 hM3 hL3 => ih (k + 1) (by omega) (fun x hx => ?_) G3 ag3 hM3 hL3)
            by_cases u : x < 26 * k
            · exact hno x u
            · have := hno2 (x - 26 * k) (by omega)
              rw [show 26 * k + (x - 26 * k) = x by omega] at this
              exact this
          | succ g ih2 =>
            intro l l' hl hl' hno2 G2 ag2 hM2
            have ed : (26 * k + l) / 26 = k := by omega
            have em : (26 * k + l) % 26 = l := by omega
            have nx : ∀ {l2 : Nat} {G3 : GH}, l2 < 26 → lfB R m day (26 * k + l) = false → Ag WHa G G3 → MR (nlR R m k l2) (G3 24 1) → P85 (zI m) (zI day) (-1 : Int32) (bI false) (zI k) (zI ((97 + c0 : Nat) : Int)) (zI l + (1 : Int32)) G3 := fun {l2 G3} h2 hb ag3 hM3 => by
              rw [show zI (l : Int) + (1 : Int32) = zI ((l + 1 : Nat) : Int) from zI_add _ 1]
              refine ih2 (l + 1) l2 (by omega) h2 (fun i hi => ?_) G3 ag3 hM3
              by_cases u : i = l
              · rw [u]
                exact hb
              · exact hno2 i (by omega)
            refine K85 _ _ _ _ _ _ _ _ ?_
            unfold lb_X8_letterFor_85
            refine br_f (by rw [zl26, zI_le (by omega)]; omega) (br_t rfl ?_)
            rw [show (97 : Int32) + zI (l : Int) = zI ((97 + l : Nat) : Int) from zI_add 97 l, zI_eq (by omega)]
            refine br_c (fun z => nx hl' ?_ ag2 hM2) (fun z => ?_)
            · unfold lfB
              rw [ed, em, decide_eq_false (by omega)]
              rfl
            · refine wM_put m (1 + k) rfl (zI_add 1 k) (by omega) (by omega) (fun G24 e24 => ?_)
              intro G26 e26
              have V' : VR n (nlR R m k l) := nlR_V hV hk10 (by omega)
              have a26 : Ag WHa G G26 := by
                rw [e26, e24]
                exact (ag2.up (Or.inr ⟨rfl, rfl⟩)).up (Or.inl (by unfold WH; omega))
              have hM26 : MR (nlR R m k l) (G26 24 1) := by
                rw [e26, gs_ne (by decide), e24, gs_eq]
                have := hM2.nl (m := m) (k := k) (l := l)
                rw [nlR_nl] at this
                exact this
              have h726 : G26 24 0 7 = 0 := by rw [e26, gs_eq, upd_eq]
              refine wM_holdsWhereRight V' hn hM26 (fun z => absurd h726 z) (by rw [nlR_lo (by omega)]; exact hm) hd (fun G27 ag27 hl27 => ?_)
              have a27 : Ag WHa G G27 := a26.wk ag27 (fun x c j z => Or.inl z)
              have hM27 : MR (nlR R m k l) (G27 24 1) := hM26.fr ag27 (fun j w => by unfold WH at w; omega)
              have elf : lfB R m day (26 * k + l) = hrB (nlR R m k l) day m := by
                unfold lfB
                rw [ed, em, decide_eq_true (by omega), Bool.true_and]
              cases hb : hrB (nlR R m k l) day m
              · exact br_bf rfl (nx (by omega) (by rw [elf, hb]) a27 hM27)
              · refine br_bt rfl ?_
                intro y ey
                rw [zl26, zI_mul, zI_add, show ((26 : Int) * (k : Int) + (l : Int)) = ((26 * k + l : Nat) : Int) by omega] at ey
                subst ey
                have e := fsB_at (p := lfB R m day) (m := 26 * k + l) (fun i hi => by
                  by_cases u : i < 26 * k
                  · exact hno i u
                  · have := hno2 (i - 26 * k) (by omega)
                    rw [show 26 * k + (i - 26 * k) = i by omega] at this
                    exact this) (by rw [elf, hb]) (26 * qq R m 0 - (26 * k + l) - 1)
                rw [show 26 * k + l + (26 * qq R m 0 - (26 * k + l) - 1) + 1 = 26 * qq R m 0 by omega] at e
                have ne : ¬ zI ((26 * k + l : Nat) : Int) = (-1 : Int32) := by
                  rw [show (-1 : Int32) = zI (-1) from rfl, zI_eq (by omega)]
                  omega
                have fin : j_X8_letterFor_153 post P (zI m) (zI day) (zI ((26 * k + l : Nat) : Int)) (bI false) (zI k) (zI ((97 + c0 : Nat) : Int)) G27 := by
                  refine back _ l G27 (by omega) a27 hM27 (fun G3 ag3 hM3 hL3 => ?_)
                  refine K _ _ _ _ _ _ ?_
                  unfold lb_X8_letterFor_50
                  refine wM_of1 hM3 m 0 rfl rfl (by omega) (by omega) ?_
                  have fn := hp G3 ag3 hM3 hL3
                  rw [e] at fn
                  exact br_c (fun _ => fn) (fun _ => br_t rfl (br_f ne fn))
                refine K85 _ _ _ _ _ _ _ _ ?_
                unfold lb_X8_letterFor_85
                exact br_c (fun _ => fin) (fun _ => br_f ne fin)
        exact inner 26 0 c0 (by omega) hc0 (fun i hi => by omega) G' ag (by rw [nlR_self ec0]; exact hM')
    exact main (qq R m 0) 0 (by omega) (fun x hx => by omega) G (Ag.rf G) hM hL
  · refine K _ _ _ _ _ _ ?_
    unfold lb_X8_letterFor_50
    refine wM_of1 hM m 0 rfl rfl (by omega) (by omega) ?_
    refine br_f (by rw [show (0 : Int32) = zI ((0 : Nat) : Int) from rfl, zI_le (by omega)]; omega) (br_f (by decide) ?_)
    have := hp G (Ag.rf G) hM hL
    unfold lfI at this
    rw [hr, if_pos rfl] at this
    exact this
end
