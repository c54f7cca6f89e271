/-! ===== ask, in the reference ===== -/
def WAk (x c j : Nat) : Prop := x = 24 ∧ (9 ≤ c ∧ c ≤ 24 ∨ c = 0 ∧ (j = 5 ∨ j = 7 ∨ 24 ≤ j ∧ j ≤ 26 ∨ 32 ≤ j ∧ j ≤ 43))
theorem WQm_k {x c j : Nat} (h : WQm x c j) : WAk x c j := by
  unfold WQm at h
  unfold WAk
  omega
theorem cntB_s (p : Nat → Bool) (n : Nat) : cntB p (n + 1) = cntB p n + (if p n = true then 1 else 0) := rfl
section
variable {b : Nat → Nat} {n day : Nat} {R : RR} {G : GH} {post : Int32 → GH → Prop}
set_option maxHeartbeats 2000000 in
theorem wM_ask {tp : Nat} (hn : n ≤ 200) (htp : tp ≤ 700) (hnt : n ≤ tp) (hV : VR 12 R) (hd : day ≤ 9999) (hB : MB b (G 24 32)) (h32 : G 24 0 32 = zI tp) (hM : MR R (G 24 1)) (hL : G 24 0 7 ≠ 0 → LT R (G 24))
    (hf : ∀ c s, qsR b n = .inl (c, s) → 1 ≤ c ∧ c ≤ 4 → ∀ G', Ag WAk G G' → (G' 24 0 7 ≠ 0 → LT R (G' 24)) → G' 24 0 5 = 0 → G' 24 0 32 = zI 0 → G' 24 0 40 = zI s → post (zI (-1000000000 - (c : Int))) G')
    (ht : ∀ E, qsR b n = .inr E → ∀ G', Ag WAk G G' → (G' 24 0 7 ≠ 0 → LT R (G' 24)) → G' 24 0 5 = 0 → G' 24 0 32 = zI 0 → G' 24 0 40 = zI (-1) → post (zI (qAn R day (wdB b n 0 15) E)) G') : wp_X8_ask post (zI n) (zI day) G := by
  have hm12 := hV.mk
  unfold wp_X8_ask
  rw [h32, show (200 : Int32) = zI 200 from rfl, zI_min (by omega), show (0 : Int32) = zI 0 from rfl, wM_within (by omega)]
  refine br_bt (decide_eq_true (by omega)) ?_
  rw [wM_isDay (by omega)]
  refine br_bt (decide_eq_true (by omega)) ?_
  unfold j_X8_ask_31
  intro G4 e4
  have k5 : G4 24 0 5 = 0 := by
    rw [e4, gs_eq, upd_eq]
    rfl
  rw [k5]
  refine br_t (by decide) ?_
  intro G6 e6
  have a6 : Ag WAk G G6 := by
    rw [e6, e4]
    exact ((Ag.rf G).up ⟨rfl, by omega⟩).up ⟨rfl, by omega⟩
  have f6 : ∀ j, j ≠ 5 → j ≠ 43 → G6 24 0 j = G 24 0 j := fun j h1 h2 => by
    rw [e6, gs_eq, upd_ne h2, e4, gs_eq, upd_ne h1]
  have c6 : ∀ c, c ≠ 0 → G6 24 c = G 24 c := fun c hc => by
    rw [e6, gs_ne (by omega), e4, gs_ne (by omega)]
  have hB6 : MB b (G6 24 32) := by
    rw [c6 32 (by decide)]
    exact hB
  have s5 : G6 24 0 5 = 0 := by
    rw [e6, gs_eq, upd_ne (by decide)]
    exact k5
  have hD6 : MD R day (G 24 0 42).toInt G6 := by
    refine ⟨?_, fun z => ?_, ?_, ?_⟩
    · rw [c6 1 (by decide)]
      exact hM
    · rw [f6 7 (by decide) (by decide)] at z
      exact (hL z).cg (fun c hc => c6 c (by omega))
    · rw [f6 42 (by decide) (by decide)]
      exact zI_of _
    · rw [e6, gs_eq, upd_eq]
  refine wM_opens hB6 (by omega) (fun G7 ag7 h7 ho7 => ?_)
  have a7 : Ag WAk G G7 := a6.wk ag7 (fun x c j z => by unfold WO at z; unfold WAk; omega)
  have hD7 : MD R day (G 24 0 42).toInt G7 := by
    refine ⟨?_, fun z => ?_, ?_, ?_⟩
    · rw [ag7.ce 24 1 (fun j w => by unfold WO at w; omega)]
      exact hD6.1
    · rw [ag7 24 0 7 (fun w => by unfold WO at w; omega)] at z
      exact (hD6.2.1 z).cg (fun c hc => ag7.ce 24 c (fun j w => by unfold WO at w; omega))
    · rw [ag7 24 0 42 (fun w => by unfold WO at w; omega)]
      exact hD6.2.2.1
    · rw [ag7 24 0 43 (fun w => by unfold WO at w; omega)]
      exact hD6.2.2.2
  have s57 : G7 24 0 5 = 0 := by
    rw [ag7 24 0 5 (fun w => by unfold WO at w; omega)]
    exact s5
  refine wM_isWord h7 (by decide) ?_
  rw [wdB_eq (w := 63) (w' := 16) rfl]
  have kp : ∀ {G' G''}, Ag WQm G' G'' → G'' 24 0 5 = G' 24 0 5 ∧ G'' 24 0 32 = G' 24 0 32 ∧ G'' 24 0 40 = G' 24 0 40 ∧ G'' 24 32 = G' 24 32 := fun {G' G''} ag => ⟨ag 24 0 5 (fun w => by unfold WQm at w; omega), ag 24 0 32 (fun w => by unfold WQm at w; omega), ag 24 0 40 (fun w => by unfold WQm at w; omega), ag.ce 24 32 (fun j w => by unfold WQm at w; omega)⟩
  refine wM_readQuestion (as_ := -1) (W := fun _ => 0) (as0 := (G 24 0 42).toInt) hn hV hd (Or.inl ⟨rfl, rfl⟩) h7.1.1 hD7 (fun c s e r G11 ag11 hD11 hX => ?_) (fun E e G11 ag11 hD11 h38 => ?_)
  · refine wM_ends (fun c2 s2 h2 G13 ag13 q32 q40 => ?_) (fun h => absurd h hX.ne) (Or.inr ⟨c, s, hX⟩)
    have hc := hX.2.2
    have ec : c2 = c := by
      have := h2.1.symm.trans hX.1
      have h22 := h2.2.2
      rw [zI_eq (by omega)] at this
      omega
    have es : zI (s2 : Int) = zI (s : Int) := h2.2.1.symm.trans hX.2.1
    subst ec
    refine br_f (by rw [zl0, zI_eq (by omega)]; omega) ?_
    rw [show (-1000000000 : Int32) = zI (-1000000000) from rfl, zI_sub]
    refine hf c2 s e hc G13 ((a7.wk ag11 (fun _ _ _ => WQm_k)).wk ag13 (fun x c j z => by unfold WAk; omega)) (fun z => ?_) ?_ q32 (by rw [q40, es])
    · rw [ag13 24 0 7 (by omega)] at z
      exact (hD11.2.1 z).cg (fun c hc => ag13.ce 24 c (fun j w => by omega))
    · rw [ag13 24 0 5 (by omega), (kp ag11).1]
      exact s57
  · refine wM_ends (fun c2 s2 h2 => absurd h38 h2.ne) (fun _ G13 ag13 q32 q40 => ?_) (Or.inl h38)
    refine br_t rfl ?_
    have a13 : Ag WAk G G13 := (a7.wk ag11 (fun _ _ _ => WQm_k)).wk ag13 (fun x c j z => by unfold WAk; omega)
    have s13 : G13 24 0 5 = 0 := by
      rw [ag13 24 0 5 (by omega), (kp ag11).1]
      exact s57
    have hB13 : MB b (G13 24 32) := by
      rw [ag13.ce 24 32 (fun j w => by omega), (kp ag11).2.2.2]
      exact h7.1.1
    have hD13 : MD R day (-1) G13 := by
      refine ⟨?_, fun z => ?_, ?_, ?_⟩
      · rw [ag13.ce 24 1 (fun j w => by omega)]
        exact hD11.1
      · rw [ag13 24 0 7 (by omega)] at z
        exact (hD11.2.1 z).cg (fun c hc => ag13.ce 24 c (fun j w => by omega))
      · rw [ag13 24 0 42 (by omega)]
        exact hD11.2.2.1
      · rw [ag13 24 0 43 (by omega)]
        exact hD11.2.2.2
    have fin := ht E e
    have hmf : wdB b n 0 15 = !wdB b n 0 16 := by
      unfold qsR at e
      by_cases c : wdB b n 0 16 = true
      · rw [wdB_ne (w := 16) (w' := 15) (by decide) c, c]
        rfl
      · have c0 : wdB b n 0 16 = false := by simpa using c
        rw [c0]
        by_cases a : wdB b n 0 15 = true
        · rw [a]
          rfl
        · rw [if_neg (fun z => z.elim a c)] at e
          cases e
    rw [hmf] at fin
    unfold qAn at fin
    generalize hp0 : (fun m => E (fun i => vW R day i m)) = pp at fin
    have main : ∀ f m : Nat, m + f = R 1 → ∀ G', Ag WAk G G' → (∃ as0, MD R day as0 G') → MB b (G' 24 32) → G' 24 0 5 = 0 → G' 24 0 32 = zI 0 → G' 24 0 40 = zI (-1) → (wdB b n 0 16 = true → ∀ i, i < m → pp i = false) → lp_X8_ask_93 post (zI n) (bI (wdB b n 0 16)) (zI (if wdB b n 0 16 = true then 0 else cntB pp m : Nat)) (zI m) G' := by
      intro f
      induction f with
      | zero =>
        intro m hm G' ag ⟨as0, hD'⟩ hB' k5 k32 k40 hno
        have : m = R 1 := by omega
        subst this
        intro P K
        refine K _ _ _ _ _ ?_
        unfold lb_X8_ask_93
        rw [wM_marks hD'.1]
        refine br_t (by rw [zI_le (by omega)]; omega) ?_
        have fn := fin G' ag hD'.2.1 k5 k32 k40
        cases hb : wdB b n 0 16
        · rw [hb] at fn
          refine br_t rfl ?_
          rw [if_pos (by decide)] at fn
          rw [if_neg (by decide)]
          exact fn
        · rw [hb] at fn
          refine br_f (by decide) ?_
          rw [if_neg (by decide), fsB_no _ (hno hb)] at fn
          exact fn
      | succ f ih =>
        intro m hm G' ag ⟨as0, hD'⟩ hB' k5 k32 k40 hno
        have hmR : m < R 1 := by omega
        intro P K
        refine K _ _ _ _ _ ?_
        unfold lb_X8_ask_93
        rw [wM_marks hD'.1]
        refine br_f (by rw [zI_le (by omega)]; omega) ?_
        refine wM_readQuestion (as_ := (m : Int)) (W := fun i => vW R day i m) (as0 := as0) hn hV hd (Or.inr ⟨m, hmR, rfl, rfl⟩) hB' hD' (fun c s e2 => ?_) (fun E2 e2 G2 ag2 hD2 h2 => ?_)
        · rw [e] at e2
          cases e2
        · rw [e] at e2
          have eE : E = E2 := Sum.inr.inj e2
          subst eE
          obtain ⟨x1, x2, x3, x4⟩ := kp ag2
          have hpm : E (fun i => vW R day i m) = pp m := by rw [← hp0]
          have nx := ih (m + 1) (by omega) G2 (ag.wk ag2 (fun _ _ _ => WQm_k)) ⟨_, hD2⟩ (by rw [x4]; exact hB') (by rw [x1]; exact k5) (by rw [x2]; exact k32) (by rw [x3]; exact k40)
          rw [hpm, show zI (m : Int) + (1 : Int32) = zI ((m + 1 : Nat) : Int) from zI_add _ 1]
          cases hb : wdB b n 0 16
          · rw [hb] at nx
            have nx := nx (fun z => by cases z) P K
            rw [if_neg (by decide), cntB_s] at nx
            rw [if_neg (by decide)]
            cases hc : pp m
            · rw [hc, if_neg (by decide)] at nx
              exact br_bf rfl nx
            · rw [hc, if_pos rfl] at nx
              refine br_bt rfl (br_t rfl ?_)
              rw [show zI ((cntB pp m : Nat) : Int) + (1 : Int32) = zI ((cntB pp m + 1 : Nat) : Int) from zI_add _ 1]
              exact nx
          · rw [hb] at nx
            rw [if_pos rfl] at nx ⊢
            cases hc : pp m
            · refine br_bf rfl (nx (fun _ i hi => ?_) P K)
              by_cases u : i = m
              · rw [u]
                exact hc
              · exact hno hb i (by omega)
            · refine br_bt rfl (br_f (by decide) ?_)
              have fn := fin G2 (ag.wk ag2 (fun _ _ _ => WQm_k)) hD2.2.1 (by rw [x1]; exact k5) (by rw [x2]; exact k32) (by rw [x3]; exact k40)
              rw [hb, if_neg (by decide)] at fn
              have := fsB_at (hno hb) hc (R 1 - m - 1)
              rw [show m + (R 1 - m - 1) + 1 = R 1 by omega] at this
              rw [this] at fn
              exact fn
    have := main (R 1) 0 (by omega) G13 a13 ⟨_, hD13⟩ hB13 s13 q32 q40 (fun _ i hi => by omega)
    have e0 : (if wdB b n 0 16 = true then 0 else cntB pp 0 : Nat) = 0 := by
      split <;> rfl
    rw [e0] at this
    exact this
end
