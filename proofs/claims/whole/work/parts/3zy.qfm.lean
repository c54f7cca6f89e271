/-! ===== facts and questions, in the reference ===== -/
section
variable {b : Nat → Nat} {n day : Nat} {R : RR} {as_ : Int} {W : Nat → Int}
set_option maxHeartbeats 2000000 in
theorem wM_readFact (hn : n ≤ 200) (hV : VR 12 R) (hd : day ≤ 9999) (hW : aW R day as_ W) : ∀ k e : Nat, k ≤ 6 → 3 * k + 1 ≤ e → MF1 b n R day as_ W (psF b n k) k (sM e).1 := by
  intro k
  induction k with
  | zero =>
    intro e _ he
    obtain ⟨e, rfl⟩ : ∃ e', e = e' + 1 := ⟨e - 1, by omega⟩
    intro p G post hD h ho hf ht
    rw [sM_f e]
    unfold wr_X8_readFact
    unfold psF at hf ht
    -- what goes in too deep
    have inX : ∀ (ps : GH → Prop), (wdB b n p 19 = true ∨ sgB b n p 40 = true) → (∀ G', ¬ G' 24 0 38 = 0 → (∀ v r, post r (gs G' 24 0 (upd (G' 24 0) 41 v))) → ps G') → wp_X8_goesIn ps G := by
      intro ps z hps
      rw [if_pos z] at hf
      unfold wp_X8_goesIn
      refine br_t h.2 (br_t (by rw [ho]; rfl) (wM_wrong 3 rfl (by omega) h (fun G1 ag1 hX => ?_)))
      unfold j_X8_goesIn_21
      intro G2 e2
      subst e2
      refine wM_passX hX.op.ne (hps _ hX.op.ne (fun v r => ?_))
      refine hf _ _ rfl r _ ?_ ?_ hX.op.op
      · exact AgVO (AgVO (AgVM (Ag.rf G) ag1))
      · exact ((hD.tm ag1).tk agOp).tk agOp
    refine wM_isWord h (by decide) ?_
    rw [wdB_eq (w := 59) (w' := 19) rfl]
    by_cases a : wdB b n p 19 = true
    · refine br_bt a (inX _ (Or.inl a) (fun G' hX hp => br_f hX ?_))
      unfold j_X8_readFact_32 j_X8_readFact_33
      intro G42 e42
      subst e42
      exact br_t rfl (hp _ _)
    · refine br_bf (by simpa using a) (wM_isSign 40 h rfl (by omega) ?_)
      by_cases c : sgB b n p 40 = true
      · refine br_bt c (inX _ (Or.inr c) (fun G' hX hp => br_f hX ?_))
        unfold j_X8_readFact_85 j_X8_readFact_86
        refine wM_mustX hX ?_
        intro G35 e35
        subst e35
        exact ⟨false, rfl, hp _ _⟩
      · refine br_bf (by simpa using c) ?_
        rw [if_neg (fun z => z.elim a c)] at hf ht
        exact wM_compare hV hd hW hD h hf (fun q E e1 G' ag hD' hq ho' => ht q E e1 G' ag hD' hq (by rw [ho', ho]))
  | succ k ih =>
    intro e hk6 he
    obtain ⟨e, rfl⟩ : ∃ e', e = e' + 4 := ⟨e - 4, by omega⟩
    have ihF := ih (e + 3) (by omega) (by omega)
    have ihT := wM_readTest (k := k) (e := e) hn (psF_ok (b := b) (n := n) k) (fun e' he' => ih e' (by omega) (by omega))
    intro p G post hD h ho hf ht
    rw [sM_f (e + 3)]
    have eu : zI (6 - ((k + 1 : Nat) : Int)) + (1 : Int32) = zI (6 - (k : Int)) := by
      rw [zl1, zI_add]
      exact zI_cg (by omega)
    have ed : zI (6 - (k : Int)) - (1 : Int32) = zI (6 - ((k + 1 : Nat) : Int)) := by
      rw [zl1, zI_sub]
      exact zI_cg (by omega)
    unfold wr_X8_readFact
    unfold psF at hf ht
    have goIn : ∀ (ps : GH → Prop), (∀ G', Ag WV G G' → MD R day as_ G' → MG b n (tkE b n p) G' → G' 24 0 41 = zI (6 - (k : Int)) → ps G') → wp_X8_goesIn ps G := by
      intro ps hps
      unfold wp_X8_goesIn
      refine br_t h.2 (br_f (by rw [ho, zl6, zI_eq (by omega)]; omega) ?_)
      unfold j_X8_goesIn_21
      intro G2 e2
      subst e2
      refine wM_pass h.op (fun G3 ag3 h3 => hps G3 (AgVM (AgVO (Ag.rf G)) ag3) ((hD.tk agOp).tm ag3) h3 ?_)
      rw [o41M ag3, gs_eq, upd_eq, ho, eu]
    refine wM_isWord h (by decide) ?_
    rw [wdB_eq (w := 59) (w' := 19) rfl]
    by_cases a : wdB b n p 19 = true
    · refine br_bt a (goIn _ (fun G1 ag1 hD1 h1 ho1 => br_t h1.2 ?_))
      rw [if_pos a] at hf ht
      refine ihF _ G1 _ hD1 h1 ho1 (fun c s e1 r G2 ag2 hD2 hX => ?_) (fun q E e1 G2 ag2 hD2 h2 ho2 => ?_)
      · have fin : ∀ v r, post r (gs G2 24 0 (upd (G2 24 0) 41 v)) := fun v r => hf c s (sB_l e1) r _ (AgVO (ag1.tr ag2)) (hD2.tk agOp) hX.op
        unfold j_X8_readFact_32 j_X8_readFact_33
        refine ⟨fun _ => ?_, fun _ => ?_⟩
        · intro G42 e42
          subst e42
          exact br_t rfl (fin _ _)
        · intro G42 e42
          subst e42
          exact br_f (by decide) (fin _ _)
      · have fin := ht q _ (sB_r e1) (gs G2 24 0 (upd (G2 24 0) 41 (G2 24 0 41 - (1 : Int32)))) (AgVO (ag1.tr ag2)) (hD2.tk agOp) h2.op (by rw [gs_eq, upd_eq, ho2, ed])
        dsimp only at fin
        unfold j_X8_readFact_32 j_X8_readFact_33
        cases hE : E W
        · rw [hE] at fin
          refine br_bf rfl ?_
          intro G42 e42
          subst e42
          exact br_t rfl fin
        · rw [hE] at fin
          refine br_bt rfl ?_
          intro G42 e42
          subst e42
          exact br_f (by decide) fin
    · refine br_bf (by simpa using a) (wM_isSign 40 h rfl (by omega) ?_)
      rw [if_neg a] at hf ht
      by_cases c : sgB b n p 40 = true
      · refine br_bt c (goIn _ (fun G1 ag1 hD1 h1 ho1 => br_t h1.2 ?_))
        rw [if_pos c] at hf ht
        refine ihT _ G1 _ hD1 h1 ho1 (fun c s e1 r G2 ag2 hD2 hX => ?_) (fun q E e1 G2 ag2 hD2 h2 ho2 => ?_)
        · have fin : ∀ v r, post r (gs G2 24 0 (upd (G2 24 0) 41 v)) := fun v r => hf c s (sB_l e1) r _ (AgVO (ag1.tr ag2)) (hD2.tk agOp) hX.op
          unfold j_X8_readFact_85 j_X8_readFact_86
          refine ⟨fun _ => wM_mustX hX.ne ?_, fun _ => wM_mustX hX.ne ?_⟩
          · intro G35 e35
            subst e35
            exact ⟨false, rfl, fin _ _⟩
          · intro G35 e35
            subst e35
            exact ⟨true, rfl, fin _ _⟩
        · rw [sB_r e1] at hf ht
          have ag2' := ag1.tr ag2
          have j86 : ∀ (v : Int32), v = bI (E W) → j_X8_readFact_86 post (sM (e + 3)).1 (sM (e + 3)).2.1 (sM (e + 3)).2.2 v G2 := by
            intro v hv
            subst hv
            unfold j_X8_readFact_86
            refine wM_must 41 rfl (by omega) h2 (fun c s e2 G3 ag3 hX => ?_) (fun q2 e2 G3 ag3 h3 => ?_)
            · intro G35 e35
              subst e35
              exact ⟨E W, rfl, hf c s (sB_l e2) _ _ (AgVO (AgVM ag2' ag3)) ((hD2.tm ag3).tk agOp) hX.op⟩
            · intro G35 e35
              subst e35
              refine ⟨E W, rfl, ht q2 E (sB_r e2) _ (AgVO (AgVM ag2' ag3)) ((hD2.tm ag3).tk agOp) h3.op ?_⟩
              rw [gs_eq, upd_eq, o41M ag3, ho2, ed]
          cases hE : E W
          · refine br_bf rfl ?_
            unfold j_X8_readFact_85
            exact j86 _ (by rw [hE]; rfl)
          · exact br_bt rfl (j86 _ (by rw [hE]; rfl))
      · refine br_bf (by simpa using c) ?_
        rw [if_neg c] at hf ht
        exact wM_compare hV hd hW hD h hf (fun q E e1 G' ag hD' hq ho' => ht q E e1 G' ag hD' hq (by rw [ho', ho]))
def WQm (x c j : Nat) : Prop := x = 24 ∧ (9 ≤ c ∧ c ≤ 24 ∨ c = 0 ∧ (j = 7 ∨ 24 ≤ j ∧ j ≤ 26 ∨ 33 ≤ j ∧ j ≤ 39 ∨ j = 41 ∨ j = 42))
theorem WV_q {x c j : Nat} (h : WV x c j) : WQm x c j := by
  unfold WV at h
  unfold WQm
  omega
set_option maxHeartbeats 1000000 in
theorem wM_readQuestion {G : GH} {post : Bool → GH → Prop} {as0 : Int} (hn : n ≤ 200) (hV : VR 12 R) (hd : day ≤ 9999) (hW : aW R day as_ W) (hB : MB b (G 24 32)) (hD : MD R day as0 G) (hf : ∀ c s, qsR b n = .inl (c, s) → ∀ r G', Ag WQm G G' → MD R day as_ G' → MX c s G' → post r G') (ht : ∀ E, qsR b n = .inr E → ∀ G', Ag WQm G G' → MD R day as_ G' → G' 24 0 38 = 0 → post (E W) G') : wp_X8_readQuestion post (zI n) (zI as_) G := by
  unfold wp_X8_readQuestion
  intro G1 e1
  have a1 : Ag WQm G G1 := by
    rw [e1]
    exact (Ag.rf G).up ⟨rfl, by omega⟩
  have hB1 : MB b (G1 24 32) := by
    rw [e1, gs_ne (by decide)]
    exact hB
  have hD1 : MD R day as_ G1 := by
    refine ⟨?_, fun z => ?_, ?_, ?_⟩
    · rw [e1, gs_ne (by decide)]
      exact hD.1
    · rw [e1, gs_eq, upd_ne (by decide)] at z
      exact (hD.2.1 z).cg (fun c hc => by rw [e1, gs_ne (by omega)])
    · rw [e1, gs_eq, upd_eq]
    · rw [e1, gs_eq, upd_ne (by decide)]
      exact hD.2.2.2
  refine wM_opens hB1 (by omega) (fun G2 ag2 h2 ho2 => ?_)
  have a2 : Ag WQm G G2 := a1.wk ag2 (fun x c j z => by unfold WO at z; unfold WQm; omega)
  have hD2 : MD R day as_ G2 := by
    refine ⟨?_, fun z => ?_, ?_, ?_⟩
    · rw [ag2.ce 24 1 (fun j w => by unfold WO at w; omega)]
      exact hD1.1
    · rw [ag2 24 0 7 (fun w => by unfold WO at w; omega)] at z
      exact (hD1.2.1 z).cg (fun c hc => ag2.ce 24 c (fun j w => by unfold WO at w; omega))
    · rw [ag2 24 0 42 (fun w => by unfold WO at w; omega)]
      exact hD1.2.2.1
    · rw [ag2 24 0 43 (fun w => by unfold WO at w; omega)]
      exact hD1.2.2.2
  have aV : ∀ {G'}, Ag WV G2 G' → Ag WQm G G' := fun {G'} ag => a2.wk ag (fun _ _ _ => WV_q)
  have rest : (wdB b n 0 15 = true ∨ wdB b n 0 16 = true) → j_X8_readQuestion_35 post G2 := by
    intro hw
    unfold qsR at hf ht
    rw [if_pos hw] at hf ht
    unfold j_X8_readQuestion_35
    refine wM_pass h2 (fun G3 ag3 h3 => ?_)
    have hTs := wM_readTest (b := b) (n := n) (day := day) (R := R) (as_ := as_) (W := W) (k := 6) (e := 29) hn (psF_ok (b := b) (n := n) 6) (fun e' he' => wM_readFact hn hV hd hW 6 e' (by omega) (by omega))
    unfold wp_X8_readTest
    have av3 : Ag WV G2 G3 := AgVM (Ag.rf G2) ag3
    refine hTs _ G3 _ (hD2.tm ag3) h3 (by rw [o41M ag3, ho2]; rfl) (fun c s e4 r G4 ag4 hD4 hX => ?_) (fun q E e4 G4 ag4 hD4 h4 ho4 => ?_)
    · exact br_f hX.ne (hf c s (sB_l e4) r G4 (aV (av3.tr ag4)) hD4 hX)
    · rw [sB_r e4] at hf ht
      unfold qsR2 at hf ht
      have hrg := tk_rg (b := b) h4.1.2.1.2
      refine br_t h4.2 ?_
      rw [h4.1.2.2.2.2.1, zl0, zI_eq (by omega)]
      refine br_c (fun z => ?_) (fun z => ?_)
      · have z : tkK b n (q, E).1 = 0 := by
          show tkK b n q = 0
          omega
        rw [if_pos z] at ht
        exact ht E rfl G4 (aV (av3.tr ag4)) hD4 h4.2
      · have z : ¬ tkK b n (q, E).1 = 0 := by
          show ¬ tkK b n q = 0
          omega
        rw [if_neg z] at hf
        exact wM_wrong 1 rfl (by omega) h4 (fun G5 ag5 hX => hf _ _ rfl _ G5 (aV (AgVM (av3.tr ag4) ag5)) (hD4.tm ag5) hX)
  refine wM_isWord h2 (by decide) ?_
  rw [wdB_eq (w := 62) (w' := 15) rfl]
  by_cases a : wdB b n 0 15 = true
  · exact br_bt a (rest (Or.inl a))
  · refine br_bf (by simpa using a) (wM_isWord h2 (by decide) ?_)
    rw [wdB_eq (w := 63) (w' := 16) rfl]
    by_cases c : wdB b n 0 16 = true
    · exact br_bt c (rest (Or.inr c))
    · refine br_bf (by simpa using c) (wM_wrong 1 rfl (by omega) h2 (fun G3 ag3 hX => ?_))
      have fin : ∀ r, post r G3 := by
        intro r
        refine hf 1 (tkS b n 0) ?_ r G3 (aV (AgVM (Ag.rf G2) ag3)) (hD2.tm ag3) hX
        unfold qsR
        rw [if_neg (fun z => z.elim a c)]
      unfold j_X8_readQuestion_35
      refine wM_passX hX.ne ?_
      -- a test that is read behind a fault
      have rv : ∀ e (ps : Bool → GH → Prop), (∀ r, ps r G3) → (sM (e + 1)).1 ps G3 := by
        intro e ps hp
        rw [sM_f e]
        unfold wr_X8_readFact
        refine wM_isWordX hX.ne (br_bf rfl (wM_isSignX hX.ne (br_bf rfl ?_)))
        refine wM_readValueX hX.ne (wM_isSignX hX.ne (br_bf rfl (wM_isSignX hX.ne (br_bf rfl (wM_isSignX hX.ne (br_bf rfl ?_))))))
        unfold j_X8_readFact_150
        exact br_t rfl (wM_wrongX hX.ne (wM_j161X hX.ne hp))
      unfold wp_X8_readTest
      rw [sM_t 31]
      unfold wr_X8_readTest
      rw [sM_b 30]
      unfold wr_X8_readBoth
      exact rv 29 _ (fun r => wM_bL_X hX.ne (fun r => wM_tL_X hX.ne (fun r => br_f hX.ne (fin r))))
end
