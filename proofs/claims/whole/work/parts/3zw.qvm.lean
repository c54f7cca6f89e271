/-! ===== a question, read: in the reference ===== -/
theorem LT.cg {R : RR} {A A' : Nat → Nat → Int32} (h : LT R A) (e : ∀ c, 9 ≤ c → A' c = A c) : LT R A' := by
  unfold LT HS at h ⊢
  rw [e 9 (by omega), e 10 (by omega), e 14 (by omega), e 15 (by omega), e 16 (by omega), e 17 (by omega), e 18 (by omega), e 19 (by omega), e 20 (by omega)]
  exact h
def MD (R : RR) (day : Nat) (as_ : Int) (G : GH) : Prop := MR R (G 24 1) ∧ (G 24 0 7 ≠ 0 → LT R (G 24)) ∧ G 24 0 42 = zI as_ ∧ G 24 0 43 = zI day
def WV (x c j : Nat) : Prop := x = 24 ∧ (9 ≤ c ∧ c ≤ 24 ∨ c = 0 ∧ (j = 7 ∨ 24 ≤ j ∧ j ≤ 26 ∨ 34 ≤ j ∧ j ≤ 39 ∨ j = 41))
def WTk (x c j : Nat) : Prop := x = 24 ∧ c = 0 ∧ (34 ≤ j ∧ j ≤ 39 ∨ j = 41)
theorem WM_k {x c j : Nat} (h : WM x c j) : WTk x c j := ⟨h.1, h.2.1, Or.inl h.2.2⟩
theorem WTk_V {x c j : Nat} (h : WTk x c j) : WV x c j := by
  unfold WTk at h
  unfold WV
  omega
theorem WH_V {x c j : Nat} (h : WH x c j) : WV x c j := by
  unfold WH at h
  unfold WV
  omega
def aW (R : RR) (day : Nat) (as_ : Int) (W : Nat → Int) : Prop := as_ = -1 ∧ (W = fun _ => 0) ∨ ∃ m : Nat, m < R 1 ∧ as_ = m ∧ W = fun i => vW R day i m
section
variable {G : GH} {b : Nat → Nat} {n p day : Nat} {R : RR} {as_ : Int} {W : Nat → Int}
theorem MD.tk {G' : GH} (h : MD R day as_ G) (ag : Ag WTk G G') : MD R day as_ G' := by
  refine ⟨?_, fun z => ?_, ?_, ?_⟩
  · rw [ag.ce 24 1 (fun j w => by unfold WTk at w; omega)]
    exact h.1
  · rw [ag 24 0 7 (fun w => by unfold WTk at w; omega)] at z
    exact (h.2.1 z).cg (fun c hc => ag.ce 24 c (fun j w => by unfold WTk at w; omega))
  · rw [ag 24 0 42 (fun w => by unfold WTk at w; omega)]
    exact h.2.2.1
  · rw [ag 24 0 43 (fun w => by unfold WTk at w; omega)]
    exact h.2.2.2
theorem MD.tm {G' : GH} (h : MD R day as_ G) (ag : Ag WM G G') : MD R day as_ G' := h.tk (ag.mo (fun _ _ _ => WM_k))
theorem MG.wh {G' : GH} (h : MG b n p G) (ag : Ag WH G G') : MG b n p G' := by
  have e32 : G' 24 32 = G 24 32 := ag.ce 24 32 (fun j w => by unfold WH at w; omega)
  have e0 : ∀ j, 33 ≤ j → j ≤ 38 → G' 24 0 j = G 24 0 j := fun j h1 h2 => ag 24 0 j (fun w => by unfold WH at w; omega)
  unfold MG MT
  rw [e32, e0 33 (by omega) (by omega), e0 34 (by omega) (by omega), e0 35 (by omega) (by omega), e0 36 (by omega) (by omega), e0 37 (by omega) (by omega), e0 38 (by omega) (by omega)]
  exact h
/-- the count of what is open is set -/
theorem MG.op {v : Int32} (h : MG b n p G) : MG b n p (gs G 24 0 (upd (G 24 0) 41 v)) := by
  have e32 : gs G 24 0 (upd (G 24 0) 41 v) 24 32 = G 24 32 := gs_ne (by decide)
  have e0 : ∀ j, j ≠ 41 → gs G 24 0 (upd (G 24 0) 41 v) 24 0 j = G 24 0 j := fun j h1 => by rw [gs_eq, upd_ne h1]
  unfold MG MT
  rw [e32, e0 33 (by omega), e0 34 (by omega), e0 35 (by omega), e0 36 (by omega), e0 37 (by omega), e0 38 (by omega)]
  exact h
theorem MX.op {c s : Nat} {v : Int32} (h : MX c s G) : MX c s (gs G 24 0 (upd (G 24 0) 41 v)) := by
  unfold MX
  rw [gs_eq, upd_ne (by decide), upd_ne (by decide)]
  exact h
theorem agOp {v : Int32} : Ag WTk G (gs G 24 0 (upd (G 24 0) 41 v)) := (Ag.rf G).up ⟨rfl, rfl, Or.inr rfl⟩
set_option maxHeartbeats 1000000 in
theorem wM_valueOf {post : Int32 → GH → Prop} {m i : Nat} (hV : VR 12 R) (hd : day ≤ 9999) (hD : MD R day as_ G) (hm : m < R 1) (hi : i < 9) (hp : ∀ G', Ag WH G G' → MD R day as_ G' → post (zI (vW R day i m)) G') : wp_X8_valueOf post (zI m) (zI i) G := by
  have hm12 := hV.mk
  have hgd := hV.gd hm
  have mdH : ∀ {G'}, Ag WH G G' → (G' 24 0 7 ≠ 0 → LT R (G' 24)) → MD R day as_ G' := fun {G'} ag hl => by
    refine ⟨?_, hl, ?_, ?_⟩
    · rw [ag.ce 24 1 (fun j w => by unfold WH at w; omega)]
      exact hD.1
    · rw [ag 24 0 42 (fun w => by unfold WH at w; omega)]
      exact hD.2.2.1
    · rw [ag 24 0 43 (fun w => by unfold WH at w; omega)]
      exact hD.2.2.2
  unfold wp_X8_valueOf
  refine wM_lay hV (by omega) hD.1 hD.2.1 (fun G1 ag1 hL h7 => ?_)
  have agH : Ag WH G G1 := ag1.mo (fun x c j z => by unfold WL at z; unfold WH; omega)
  have hD1 := mdH agH (fun _ => hL)
  have hp1 := hp G1 agH hD1
  have cm : (zI (m : Int)).toNatClampNeg = m := zI_clN (by omega)
  have vin : vp_in (zI (m : Int)) 13 := zI_in (by omega)
  rw [zI_toInt (by omega)]
  have cs : i = 0 ∨ i = 1 ∨ i = 2 ∨ i = 3 ∨ i = 4 ∨ i = 5 ∨ i = 6 ∨ i = 7 ∨ i = 8 := by omega
  rcases cs with rfl | rfl | rfl | rfl | rfl | rfl | rfl | rfl | rfl
  · refine ⟨fun z => absurd z (by omega), fun _ => hp1, fun z => absurd z (by decide), fun z => absurd z (by decide), fun z => absurd z (by decide), fun z => absurd z (by decide), fun z => absurd z (by decide), fun z => absurd z (by decide)⟩
  · refine ⟨fun z => absurd z (by omega), fun z => absurd z (by decide), fun _ => ?_, fun z => absurd z (by decide), fun z => absurd z (by decide), fun z => absurd z (by decide), fun z => absurd z (by decide), fun z => absurd z (by decide)⟩
    exact wM_of1 hD1.1 m 12 rfl rfl (by omega) (by omega) hp1
  · refine ⟨fun z => absurd z (by omega), fun z => absurd z (by decide), fun z => absurd z (by decide), fun _ => ?_, fun z => absurd z (by decide), fun z => absurd z (by decide), fun z => absurd z (by decide), fun z => absurd z (by decide)⟩
    exact wM_of1 hD1.1 m 11 rfl rfl (by omega) (by omega) (wM_bitsOf (by omega) hp1)
  · refine ⟨fun z => absurd z (by omega), fun z => absurd z (by decide), fun z => absurd z (by decide), fun z => absurd z (by decide), fun _ => ?_, fun z => absurd z (by decide), fun z => absurd z (by decide), fun z => absurd z (by decide)⟩
    exact wM_of1 hD1.1 m 13 rfl rfl (by omega) (by omega) hp1
  · refine ⟨fun z => absurd z (by omega), fun z => absurd z (by decide), fun z => absurd z (by decide), fun z => absurd z (by decide), fun z => absurd z (by decide), fun _ => ?_, fun z => absurd z (by decide), fun z => absurd z (by decide)⟩
    exact wM_of1 hD1.1 m 0 rfl rfl (by omega) (by omega) hp1
  · refine ⟨fun z => absurd z (by omega), fun z => absurd z (by decide), fun z => absurd z (by decide), fun z => absurd z (by decide), fun z => absurd z (by decide), fun z => absurd z (by decide), fun _ => ⟨vin, ?_⟩, fun z => absurd z (by decide)⟩
    rw [cm, (hL.1 m hm).1]
    exact hp1
  · refine ⟨fun z => absurd z (by omega), fun z => absurd z (by decide), fun z => absurd z (by decide), fun z => absurd z (by decide), fun z => absurd z (by decide), fun z => absurd z (by decide), fun z => absurd z (by decide), fun _ => ⟨vin, ?_⟩⟩
    rw [cm, (hL.2.2 m hm).1]
    exact hp1
  · refine ⟨fun _ => ?_, fun z => absurd z (by decide), fun z => absurd z (by decide), fun z => absurd z (by decide), fun z => absurd z (by decide), fun z => absurd z (by decide), fun z => absurd z (by decide), fun z => absurd z (by decide)⟩
    rw [hD1.2.2.2, show zI ((7 : Nat) : Int) - (6 : Int32) = zI ((1 : Nat) : Int) from rfl]
    refine wM_halvesOf hV (by omega) hD1.1 hD1.2.1 hm hd (by omega) (fun G2 ag2 hl2 => wM_bitsOf (hvS_lt hV) ?_)
    exact hp G2 (agH.tr ag2) (mdH (agH.tr ag2) hl2)
  · refine ⟨fun _ => ?_, fun z => absurd z (by decide), fun z => absurd z (by decide), fun z => absurd z (by decide), fun z => absurd z (by decide), fun z => absurd z (by decide), fun z => absurd z (by decide), fun z => absurd z (by decide)⟩
    rw [hD1.2.2.2, show zI ((8 : Nat) : Int) - (6 : Int32) = zI ((2 : Nat) : Int) from rfl]
    refine wM_halvesOf hV (by omega) hD1.1 hD1.2.1 hm hd (by omega) (fun G2 ag2 hl2 => wM_bitsOf (hvS_lt hV) ?_)
    exact hp G2 (agH.tr ag2) (mdH (agH.tr ag2) hl2)
theorem wM_wordHere {post : Int32 → GH → Prop} (hT : MG b n p G) (hp : post (zI (rlI (vlW b n p))) G) : wp_X8_wordHere post G := by
  unfold wp_X8_wordHere
  unfold vlW at hp
  have stp : ∀ {w w' : Nat} {A B : GH → Prop}, w' < nsx → sxB.getD w' [] = sxB.getD w [] → (wdB b n p w = true → B G) → (¬ wdB b n p w = true → A G) → wp_X8_isWord (fun (x : Bool) (g : GH) => (x = false → A g) ∧ (x = true → B g)) w' G := by
    intro w w' A B hw he h1 h2
    refine wM_isWord hT hw ?_
    rw [wdB_eq he]
    by_cases z : wdB b n p w = true
    · exact br_bt z (h1 z)
    · exact br_bf (by simpa using z) (h2 z)
  refine stp (w := 20) (by decide) rfl (fun z => ?_) (fun z => ?_)
  · rw [if_pos z] at hp
    exact hp
  · rw [if_neg z] at hp
    refine stp (w := 21) (by decide) rfl (fun z => ?_) (fun z => ?_)
    · rw [if_pos z] at hp
      exact hp
    · rw [if_neg z] at hp
      refine stp (w := 22) (by decide) rfl (fun z => ?_) (fun z => ?_)
      · rw [if_pos z] at hp
        exact hp
      · rw [if_neg z] at hp
        refine stp (w := 23) (by decide) rfl (fun z => ?_) (fun z => ?_)
        · rw [if_pos z] at hp
          exact hp
        · rw [if_neg z] at hp
          refine stp (w := 24) (by decide) rfl (fun z => ?_) (fun z => ?_)
          · rw [if_pos z] at hp
            exact hp
          · rw [if_neg z] at hp
            refine stp (w := 25) (by decide) rfl (fun z => ?_) (fun z => ?_)
            · rw [if_pos z] at hp
              exact hp
            · rw [if_neg z] at hp
              refine stp (w := 26) (by decide) rfl (fun z => ?_) (fun z => ?_)
              · rw [if_pos z] at hp
                exact hp
              · rw [if_neg z] at hp
                refine stp (w := 27) (by decide) rfl (fun z => ?_) (fun z => ?_)
                · rw [if_pos z] at hp
                  exact hp
                · rw [if_neg z] at hp
                  refine stp (w := 28) (by decide) rfl (fun z => ?_) (fun z => ?_)
                  · rw [if_pos z] at hp
                    exact hp
                  · rw [if_neg z] at hp
                    exact hp
theorem wM_readValueX {post : Int32 → GH → Prop} (hX : ¬ G 24 0 38 = 0) (hp : post (0 : Int32) G) : wp_X8_readValue post G := by
  unfold wp_X8_readValue
  refine br_f hX ?_
  unfold j_X8_readValue_15
  exact wM_numberX hX hp
theorem wM_readValue {post : Int32 → GH → Prop} (hV : VR 12 R) (hd : day ≤ 9999) (hW : aW R day as_ W) (hD : MD R day as_ G) (h : MG b n p G) (hf : ∀ c s, vlR b n p = .inl (c, s) → ∀ r G', Ag WV G G' → MD R day as_ G' → MX c s G' → post r G') (ht : ∀ v q, vlR b n p = .inr (v, q) → ∀ G', Ag WV G G' → G' 24 0 41 = G 24 0 41 → MD R day as_ G' → MG b n q G' → post (zI (vv v W)) G') : wp_X8_readValue post G := by
  have hm12 := hV.mk
  obtain ⟨⟨hB, ⟨hn, hpn⟩, h33, h34, h35, h36, h37⟩, h38⟩ := id h
  have hr := tk_rg (b := b) hpn
  have aV : ∀ {G'}, Ag WM G G' → Ag WV G G' := fun {G'} ag => ag.mo (fun _ _ _ z => WTk_V (WM_k z))
  have o41 : ∀ {G'}, Ag WM G G' → G' 24 0 41 = G 24 0 41 := fun {G'} ag => ag 24 0 41 (fun w => by unfold WM at w; omega)
  unfold wp_X8_readValue
  unfold vlR at hf ht
  refine br_t h38 ?_
  rw [h35, zl2, zI_eq (by omega)]
  refine br_c (fun w => ?_) (fun w => ?_)
  · have w : tkK b n p = 2 := by omega
    rw [if_pos w] at hf ht
    unfold j_X8_readValue_15
    refine wM_number (lo := 0) (hi := 9999) h (by omega) (by omega) (fun c s e G1 ag1 hX => ?_) (fun v q e G1 ag1 h1 => ?_)
    · refine hf c s ?_ _ G1 (aV ag1) (hD.tm ag1) hX
      unfold numR at e
      rw [if_pos w] at e
      split at e
      · cases e
      · rename_i z
        rw [if_neg (by omega)]
        cases e
        rfl
    · have hv := numR_ok e
      have e2 : vv (v : Int) W = (v : Int) := by
        unfold vv
        rw [if_neg (by omega)]
      rw [← e2]
      refine ht (v : Int) q ?_ G1 (aV ag1) (o41 ag1) (hD.tm ag1) h1
      rw [if_pos (show tkV b n p ≤ 9999 by omega), hv.2.2.2.2.1, hv.2.2.2.2.2]
  · have w : ¬ tkK b n p = 2 := by omega
    rw [if_neg w] at hf ht
    refine wM_wordHere h ?_
    cases hw : vlW b n p with
    | none =>
      rw [hw] at hf
      refine br_t rfl ?_
      refine wM_wrong 1 rfl (by omega) h (fun G1 ag1 hX => ?_)
      unfold j_X8_readValue_39
      refine wM_passX hX.ne (br_f hX.ne ?_)
      unfold j_X8_readValue_58
      exact hf _ _ rfl _ G1 (aV ag1) (hD.tm ag1) hX
    | some i =>
      rw [hw] at ht
      have hi := vlW_lt hw
      rw [show rlI (some i) = (i : Int) from rfl]
      refine br_f (by rw [show (-1 : Int32) = zI (-1) from rfl, zI_eq (by omega)]; omega) ?_
      unfold j_X8_readValue_39
      refine wM_pass h (fun G1 ag1 h1 => br_t h1.2 ?_)
      have hD1 := hD.tm ag1
      have e2 : vv (-(i : Int) - 1) W = W i := by
        unfold vv
        rw [if_pos (by omega)]
        congr 1
        omega
      rw [hD1.2.2.1]
      rcases hW with ⟨rfl, rfl⟩ | ⟨m, hm, rfl, rfl⟩
      · refine br_t rfl ?_
        unfold j_X8_readValue_58
        have := ht (-(i : Int) - 1) (tkE b n p) rfl G1 (aV ag1) (o41 ag1) hD1 h1
        rw [e2] at this
        exact this
      · refine br_f (by rw [show (-1 : Int32) = zI (-1) from rfl, zI_eq (by omega)]; omega) ?_
        refine wM_valueOf hV hd hD1 hm hi (fun G2 ag2 hD2 => ?_)
        have := ht (-(i : Int) - 1) (tkE b n p) rfl G2 ((aV ag1).wk ag2 (fun _ _ _ => WH_V)) (by rw [ag2 24 0 41 (fun w => by unfold WH at w; omega), o41 ag1]) hD2 (h1.wh ag2)
        rw [e2] at this
        exact this
end
