/-! ===== laying the turns ===== -/
theorem tnM_len {n : Nat} {R : RR} (hV : VR n R) (hn : n ≤ 13) : ∀ m, m ≤ R 1 → (tnM R m).length ≤ 25 * m
  | 0, _ => by simp [tnM]
  | m + 1, h => by
    have h1 := tnM_len hV hn m (by omega)
    have h2 := tnU_len R m (adT (qq R m 12) (tnM R m)) (qq R m 13)
    have h3 := adT_len (qq R m 12) (tnM R m)
    have h4 := hV.uc (show m < R 1 by omega)
    show (tnU R m (adT (qq R m 12) (tnM R m)) (qq R m 13)).length ≤ _
    omega
section
variable {R : RR} {G : GH} {n : Nat} {post : GH → Prop}
set_option maxHeartbeats 2000000 in
theorem wM_layTurns (hV : VR n R) (hn : n ≤ 13) (hM : MR R (G 24 1)) (hp : ∀ G', Ag WT G G' → TS (G' 24) (tnM R (R 1)) → post G') : wp_X8_layTurns post G := by
  have h13 := Nat.le_trans hV.mk hn
  have r4 := hV.r4
  have keep : ∀ G', Ag WT G G' → MR R (G' 24 1) := fun G' ag => by
    rw [ag.ce 24 1 (fun j w => by unfold WT at w; omega)]
    exact hM
  unfold wp_X8_layTurns
  rintro _ rfl
  intro P7 K7
  have main : ∀ f m : Nat, m + f = R 1 → ∀ G', Ag WT G G' → TS (G' 24) (tnM R m) → P7 (zI m) G' := by
    intro f
    induction f with
    | zero =>
      intro m hm G' ag hT
      have : m = R 1 := by omega
      subst this
      refine K7 _ _ ?_
      unfold lb_X8_layTurns_7
      rw [wM_marks (keep G' ag)]
      refine br_t (by rw [zI_le (by omega)]; omega) ?_
      exact hp G' ag hT
    | succ f ih =>
      intro m hm G' ag hT
      have hmR : m < R 1 := by omega
      have hfl := hV.fl hmR
      have huc := hV.uc hmR
      have hln := tnM_len hV hn m (by omega)
      refine K7 _ _ ?_
      unfold lb_X8_layTurns_7
      rw [wM_marks (keep G' ag)]
      refine br_f (by rw [zI_le (by omega)]; omega) ?_
      refine wM_of1 (keep G' ag) m 12 rfl rfl (by omega) (by omega) ?_
      refine wM_addTurn (by omega) (by omega) hT (fun G1 ag1 hT1 => ?_)
      have hl1 := adT_len (qq R m 12) (tnM R m)
      intro P28 K28
      have inner : ∀ g k : Nat, k + g = qq R m 13 → ∀ G'', Ag WT G G'' → TS (G'' 24) (tnU R m (adT (qq R m 12) (tnM R m)) k) → P28 (zI m) (zI k) G'' := by
        intro g
        induction g with
        | zero =>
          intro k hk G'' ag2 hT2
          have : k = qq R m 13 := by omega
          subst this
          refine K28 _ _ _ ?_
          unfold lb_X8_layTurns_28
          refine wM_of1 (keep G'' ag2) m 13 rfl rfl (by omega) (by omega) ?_
          refine br_t (by rw [zI_le (by omega)]; omega) ?_
          rw [zl1, zI_add]
          exact ih (m + 1) (by omega) G'' ag2 hT2
        | succ g ih2 =>
          intro k hk G'' ag2 hT2
          have hk2 : k < qq R m 13 := by omega
          have u1 := hV.us1 hmR hk2
          have u2 := hV.us2 hmR hk2
          have hl2 := tnU_len R m (adT (qq R m 12) (tnM R m)) k
          have hl3 := adT_len (qq R m (15 + 3 * k)) (tnU R m (adT (qq R m 12) (tnM R m)) k)
          refine K28 _ _ _ ?_
          unfold lb_X8_layTurns_28
          refine wM_of1 (keep G'' ag2) m 13 rfl rfl (by omega) (by omega) ?_
          refine br_f (by rw [zI_le (by omega)]; omega) ?_
          refine wM_of1 (keep G'' ag2) m (15 + 3 * k) rfl (by rw [zl14, zl3, zl1, zI_mul, zI_add, zI_add]; exact zI_cg (by omega)) (by omega) (by omega) ?_
          refine wM_addTurn (by omega) (by omega) hT2 (fun G3 ag3 hT3 => ?_)
          have ag23 := ag2.tr ag3
          refine wM_of1 (keep G3 ag23) m (16 + 3 * k) rfl (by rw [zl14, zl3, zl2, zI_mul, zI_add, zI_add]; exact zI_cg (by omega)) (by omega) (by omega) ?_
          refine wM_ruleOf (keep G3 ag23) 4 rfl (by decide) ?_
          rw [show R (2 + 4) = R 6 from rfl, zI_add, zl1, zI_add, zI_add, show ((qq R m (16 + 3 * k) : Int) + (R 6 : Int) + 1) = ((qq R m (16 + 3 * k) + R 6 + 1 : Nat) : Int) by omega]
          refine wM_addTurn (by omega) (by omega) hT3 (fun G4 ag4 hT4 => ?_)
          exact ih2 (k + 1) (by omega) G4 (ag23.tr ag4) hT4
      exact inner (qq R m 13) 0 (by omega) G1 (ag.tr ag1) hT1
  refine main (R 1) 0 (by omega) _ ((Ag.rf G).up ⟨rfl, Or.inr ⟨rfl, rfl⟩⟩) ⟨?_, fun j hj => by simp [tnM] at hj⟩
  rw [gs_eq]
  unfold upd
  rw [if_pos rfl]
  rfl
end
