/-! ===== the least reason, in the reference ===== -/
section
variable {R : RR} {G : GH} {n m day : Nat} {post : Int32 → GH → Prop}
set_option maxHeartbeats 2000000 in
theorem wM_leastReason (hV : VR n R) (hn : n ≤ 13) (hM : MR R (G 24 1)) (hLd : G 24 0 7 ≠ 0 → LT R (G 24)) (hm : m < R 1) (hd : day ≤ 9999) (hp : ∀ G', Ag WH G G' → (G' 24 0 7 ≠ 0 → LT R (G' 24)) → post (zI (lsI R day m (2 * R 0))) G') : wp_X8_leastReason post (zI m) (zI day) G := by
  have h13 := Nat.le_trans hV.mk hn
  have l6 := hV.l6
  unfold wp_X8_leastReason
  intro P5 K5
  have main : ∀ f h : Nat, h + f = 2 * R 0 → ∀ G', Ag WH G G' → (G' 24 0 7 ≠ 0 → LT R (G' 24)) → P5 (zI m) (zI day) (zI (lsI R day m h)) (zI h) G' := by
    intro f
    induction f with
    | zero =>
      intro h hh G' ag hl
      have : h = 2 * R 0 := by omega
      subst this
      have hM2 : MR R (G' 24 1) := by
        rw [ag.ce 24 1 (fun j w => by unfold WH at w; omega)]
        exact hM
      refine K5 _ _ _ _ _ ?_
      unfold lb_X8_leastReason_5
      rw [wM_halvesMany hM2]
      refine br_t (by rw [zI_le (by omega)]; omega) ?_
      exact hp G' ag hl
    | succ f ih =>
      intro h hh G' ag hl
      have hM2 : MR R (G' 24 1) := by
        rw [ag.ce 24 1 (fun j w => by unfold WH at w; omega)]
        exact hM
      refine K5 _ _ _ _ _ ?_
      unfold lb_X8_leastReason_5
      rw [wM_halvesMany hM2]
      refine br_f (by rw [zI_le (by omega)]; omega) ?_
      refine wM_layHalf hV hn hM2 hl (by omega) hd (fun G3 ag3 hl3 => ⟨zI_in (by omega), ?_⟩)
      have hr := rfI_rg R day m h
      have hs := lsI_rg R day m h
      have e24 : G3 24 24 m = zI (rfI R day m h) := hl3.2.2.2.2.2.2.1 m hm
      have := ih (h + 1) (by omega) G3 (ag.tr ag3) (fun _ => hl3.1)
      have es : lsI R day m (h + 1) = if rfI R day m h ≠ -1 ∧ (lsI R day m h = -1 ∨ rfI R day m h < lsI R day m h) then rfI R day m h else lsI R day m h := rfl
      rw [es] at this
      have put : (rfI R day m h ≠ -1 ∧ (lsI R day m h = -1 ∨ rfI R day m h < lsI R day m h)) → j_X8_leastReason_46 post P5 (zI m) (zI day) (zI h) G3 := by
        intro hx
        rw [if_pos hx] at this
        unfold j_X8_leastReason_46
        refine ⟨zI_in (by omega), ?_⟩
        rintro _ rfl
        rw [zI_clN (by omega), e24, zl1, zI_add]
        exact this
      rw [zI_clN (by omega), e24]
      refine br_c (fun q => ?_) (fun q => ?_)
      · rw [zl1, zI_neg, zI_eq (by omega)] at q
        rw [zl1, zI_add]
        rw [if_neg (fun w => w.1 q)] at this
        exact this
      · rw [zl1, zI_neg, zI_eq (by omega)] at q
        refine br_c (fun q1 => ?_) (fun q1 => ⟨zI_in (by omega), ?_⟩)
        · rw [zl1, zI_neg, zI_eq (by omega)] at q1
          exact put ⟨q, Or.inl q1⟩
        · rw [zl1, zI_neg, zI_eq (by omega)] at q1
          rw [zI_le (by omega)]
          refine br_c (fun q2 => ?_) (fun q2 => put ⟨q, Or.inr (by omega)⟩)
          rw [zl1, zI_add]
          rw [if_neg (by omega)] at this
          exact this
  exact main (2 * R 0) 0 (by omega) G (Ag.rf G) hLd
end
