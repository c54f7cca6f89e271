/-! ===== public calls that ask: counts, marks, letters, uses, two, steps ===== -/
/-- the reference has begun: no code is set -/
def S0 (q : Par) (G G1 : GH) : Prop := IR q G1 ∧ Ag W24 G G1 ∧ G1 24 0 5 = 0
section
variable {q : Par} {G G1 G2 : GH} {kc : Nat → Nat} {o : Oc} {i : Nat} {r v : Int32}
theorem S0.I (s : S0 q G G1) : IR q G1 := s.1
theorem S0.st (h : IR q G) (e : G1 = gs G 24 0 (upd (G 24 0) 5 (0 : Int32))) : S0 q G G1 := by
  subst e
  exact ⟨h.c5, ag5, by rw [gs_eq, upd_eq]⟩
theorem S0.h (s : S0 q G G1) (ag : Ag WH G1 G2) (hL : G2 24 0 7 ≠ 0 → LT (qvR q) (G2 24)) : S0 q G G2 := by
  obtain ⟨s1, s2, s3⟩ := s
  refine ⟨s1.h ag hL, AgH s2 ag, ?_⟩
  rw [ag 24 0 5 (fun z => by unfold WH at z; omega)]
  exact s3
theorem S0.l (s : S0 q G G1) (ag : Ag WL G1 G2) (hL : LT (qvR q) (G2 24)) : S0 q G G2 := s.h (ag.mo (fun x c j z => by unfold WL at z; unfold WH; omega)) (fun _ => hL)
theorem S0.no (s : S0 q G G1) (ho : o = .inl i) (hk : v = zI (kc i)) : MO kc o q G r (gs G1 24 0 (upd (G1 24 0) 5 v)) := by
  obtain ⟨s1, s2, s3⟩ := s
  refine MO.no (W := W24) ho (by rw [gs_eq, upd_eq]; exact hk) s1.c5.t (s2.up rfl) (fun x c j z => z)
theorem S0.ok {a : Int} (s : S0 q G G1) (ho : o = .inr (a, q)) (hr : r = zI a) : MO kc o q G r G1 := MO.ok (W := W24) ho hr s.2.2 s.1.t s.2.1 (fun x c j z => z)
theorem S0.f (s : S0 q G G1) (ho : o = .inl i) (hk : v = zI (kc i)) : wp_X8_fail (MO kc o q G) v G1 := by
  unfold wp_X8_fail
  intro G5 e5
  subst e5
  exact s.no ho hk
theorem cd0 {A B : GH → Prop} (h : IR q G) (k : ∀ G1, S0 q G G1 → A G1) : ∀ G1, G1 = gs G 24 0 (upd (G 24 0) 5 (0 : Int32)) → ((G1 24 0 5 ≤ 0 → A G1) ∧ (¬ G1 24 0 5 ≤ 0 → B G1)) := by
  intro G1 e
  have s := S0.st h e
  exact ⟨fun _ => k G1 s, fun z => absurd (by rw [s.2.2]; decide) z⟩
theorem cdN {A : GH → Prop} (h : IR q G) (ho : o = .inl i) (hk : v = zI (kc i)) (hv : ¬ v ≤ 0) : ∀ G1, G1 = gs G 24 0 (upd (G 24 0) 5 v) → ((G1 24 0 5 ≤ 0 → A G1) ∧ (¬ G1 24 0 5 ≤ 0 → MO kc o q G r G1)) := by
  intro G1 e
  subst e
  refine ⟨fun z => absurd (by rw [gs_eq, upd_eq] at z; exact z) hv, fun _ => ?_⟩
  exact MO.no (W := W24) ho (by rw [gs_eq, upd_eq]; exact hk) h.c5.t ag5 (fun x c j z => z)
theorem swk {a : Int} {k : Int} (ha : I32 a) (hk : I32 k) (z : zI a = zI k) : a = k := by
  rw [zI_eq ⟨ha, hk⟩] at z
  exact z
end
/-! fault -/
def o_fault (q : Par) : Oc := .inr (qvf q, q)
/-! count -/
def cnV (q : Par) : Nat → Int
  | 0 => qvR q 0
  | 1 => 2 * qvR q 0
  | 2 => qvR q 1
  | 3 => ((smB (nei (qvR q)) 10 / 2 : Nat) : Int)
  | 4 => ((smB (fun i => qq (qvR q) i 50) (qvR q 1) / 2 : Nat) : Int)
  | 11 => qva q
  | 12 => qvs q
  | 13 => ((smB (alS (qvR q)) (qvR q 1) / 2 : Nat) : Int)
  | w => qvR q (2 + (w - 5))
def o_count (q : Par) (a : Int) : Oc := if 0 ≤ a ∧ a ≤ 13 then .inr (cnV q a.toNat, q) else .inl 0
section
variable {q : Par} {G : GH}
theorem cI_fault (h : IC q G) : wp_X7_fault (CO (o_fault q) G) G := by
  unfold wp_X7_fault
  exact CO.s h rfl h.f
theorem cM_fault (h : IR q G) : wp_X8_fault (MO kc2 (o_fault q) q G) G := by
  unfold wp_X8_fault
  intro G1 e1
  have s := S0.st h e1
  exact s.ok rfl s.I.f
set_option maxHeartbeats 1000000 in
theorem cI_count {a : Int} (ha : I32 a) (h : IC q G) : wp_X7_count (CO (o_count q a) G) (CQ (o_count q a) q G) (zI a) G := by
  have hV := h.V
  have hC := h.C
  have h12 := hV.mk
  have l6 := hV.l6
  have rul : ∀ k : Nat, k < 6 → a = ((5 + k : Nat) : Int) → (vp_in (zI a - (5 : Int32)) 6 ∧ CO (o_count q a) G (G 8 11 (zI a - (5 : Int32)).toNatClampNeg) G) := by
    intro k hk e
    have e2 : zI a - (5 : Int32) = zI (k : Int) := by
      rw [zl5, zI_sub]
      exact zI_cg (by omega)
    rw [e2]
    refine ⟨zI_in (by omega), CO.s h (if_pos (by omega)) ?_⟩
    rw [zI_clN (by omega), hC.rl hk]
    subst e
    have k6 : k = 0 ∨ k = 1 ∨ k = 2 ∨ k = 3 ∨ k = 4 ∨ k = 5 := by omega
    rcases k6 with rfl | rfl | rfl | rfl | rfl | rfl <;> rfl
  have two : ∀ (o c N k : Nat) (f : Nat → Nat) (w : Nat) (G1 : GH), IC q G1 → G1 24 = G 24 → G1 25 = G 25 → k ≤ N → N ≤ 13 → (∀ i, i < k → G1 o c i = zI (f i) ∧ f i < 8192) → a = ((w : Nat) : Int) → w ≤ 13 → cnV q w = ((smB f k / 2 : Nat) : Int) → wp_X7_bitsIn (fun (r_9 : Int32) (G_8 : GH) => CO (o_count q a) G (r_9 / (2 : Int32)) G_8) o c N (zI k) G1 := by
    intro o c N k f w G1 hI e24 e25 hk hN hf e hw hv
    refine wI_bitsIn hk hN hf ?_
    have hl := smB_le f k
    refine CO.mk (v := cnV q w) ?_ ?_ hI e24 e25
    · subst e
      exact if_pos (by omega)
    · rw [hv, zl2, zI_div (by omega)]
      rfl
  unfold wp_X7_count
  refine ⟨fun z => ?_, fun z => ?_, fun z => ?_, fun z => ?_, fun z => ?_, fun z => ?_, fun z => ?_, fun z => ?_, fun z => ?_, fun z => ?_, fun z => ?_, fun z => ?_, fun z => ?_, fun z => ?_, fun z => ?_⟩
  · rw [zI_toInt ha] at z
    exact CQ.s h (if_neg (by omega))
  · have e := swk (k := 0) ha (by unfold I32; omega) z
    subst e
    exact CO.s h (if_pos (by omega)) hC.ld
  · have e := swk (k := 1) ha (by unfold I32; omega) z
    subst e
    rw [wI_halfCount hC]
    exact CO.s h (if_pos (by omega)) rfl
  · have e := swk (k := 2) ha (by unfold I32; omega) z
    subst e
    exact CO.s h (if_pos (by omega)) hC.mk
  · have e := swk (k := 3) ha (by unfold I32; omega) z
    exact two 8 10 10 10 (nei (qvR q)) 3 G h rfl rfl (by omega) (by omega) (fun i hi => ⟨hC.nb hi, by have := hV.nb hi; unfold nei; omega⟩) e (by omega) rfl
  · have e := swk (k := 4) ha (by unfold I32; omega) z
    rw [hC.mk]
    exact two 8 9 13 (qvR q 1) (fun i => qq (qvR q) i 50) 4 G h rfl rfl (by omega) (by omega) (fun i hi => ⟨hC.cn hi, hV.cn hi⟩) e (by omega) rfl
  · exact rul 0 (by omega) (swk (k := 5) ha (by unfold I32; omega) z)
  · exact rul 1 (by omega) (swk (k := 6) ha (by unfold I32; omega) z)
  · exact rul 2 (by omega) (swk (k := 7) ha (by unfold I32; omega) z)
  · exact rul 3 (by omega) (swk (k := 8) ha (by unfold I32; omega) z)
  · exact rul 4 (by omega) (swk (k := 9) ha (by unfold I32; omega) z)
  · exact rul 5 (by omega) (swk (k := 10) ha (by unfold I32; omega) z)
  · have e := swk (k := 11) ha (by unfold I32; omega) z
    subst e
    exact CO.s h (if_pos (by omega)) h.R.2.2.1
  · have e := swk (k := 12) ha (by unfold I32; omega) z
    subst e
    exact CO.s h (if_pos (by omega)) h.s
  · have e := swk (k := 13) ha (by unfold I32; omega) z
    refine wI_likeness h (fun G1 ag h1 k1 k2 k3 => ?_)
    rw [h1.C.mk]
    exact two 6 7 13 (qvR q 1) (alS (qvR q)) 13 G1 h1 (ag.ob 24 (fun c j z => by unfold WLk at z; omega)) (ag.ob 25 (fun c j z => by unfold WLk at z; omega)) (by omega) (by omega) (fun i hi => ⟨(k3 i hi).2, alS_lt hV (by omega) i hi⟩) e (by omega) rfl
set_option maxHeartbeats 1000000 in
theorem cM_count {a : Int} (ha : I32 a) (hP : PV q) (h : IR q G) : wp_X8_count (MO kc2 (o_count q a) q G) (zI a) G := by
  have hV := hP.1
  have h12 := hV.mk
  have l6 := hV.l6
  unfold wp_X8_count
  intro G1 e1
  have s1 := S0.st h e1
  refine wM_lay (n := 12) hV (by omega) s1.I.M s1.I.L (fun G2 ag2 hL2 h72 => ?_)
  have s2 := s1.l ag2 hL2
  have hM := s2.I.M
  have rul : ∀ k : Nat, k < 6 → a = ((5 + k : Nat) : Int) → wp_X8_ruleOf (fun (r_22 : Int32) (G_21 : GH) => MO kc2 (o_count q a) q G r_22 G_21) (zI a - (5 : Int32)) G2 := by
    intro k hk e
    have e2 : zI a - (5 : Int32) = zI (k : Int) := by
      rw [zl5, zI_sub]
      exact zI_cg (by omega)
    refine wM_ruleOf hM k e2 hk ?_
    refine s2.ok (if_pos (by omega)) ?_
    subst e
    have k6 : k = 0 ∨ k = 1 ∨ k = 2 ∨ k = 3 ∨ k = 4 ∨ k = 5 := by omega
    rcases k6 with rfl | rfl | rfl | rfl | rfl | rfl <;> rfl
  refine ⟨fun z => ?_, fun z => ?_, fun z => ?_, fun z => ?_, fun z => ?_, fun z => ?_, fun z => ?_, fun z => ?_, fun z => ?_, fun z => ?_, fun z => ?_, fun z => ?_, fun z => ?_, fun z => ?_, fun z => ?_⟩
  · rw [zI_toInt ha] at z
    exact s2.f (i := 0) (if_neg (by omega)) rfl
  · have e := swk (k := 0) ha (by unfold I32; omega) z
    subst e
    exact s2.ok (if_pos (by omega)) (hM.at (by omega))
  · have e := swk (k := 1) ha (by unfold I32; omega) z
    subst e
    rw [wM_halvesMany hM]
    refine s2.ok (if_pos (by omega)) (zI_cg ?_)
    show ((2 * qvR q 0 : Nat) : Int) = 2 * (qvR q 0 : Int)
    omega
  · have e := swk (k := 2) ha (by unfold I32; omega) z
    subst e
    rw [wM_marks hM]
    exact s2.ok (if_pos (by omega)) rfl
  · have e := swk (k := 3) ha (by unfold I32; omega) z
    subst e
    exact wM_neighbours hV hM (s2.ok (if_pos (by omega)) rfl)
  · have e := swk (k := 4) ha (by unfold I32; omega) z
    subst e
    exact wM_couplesOf (what := 0) (f := fun i => qq (qvR q) i 50) hV (by omega) hM (Or.inl ⟨rfl, fun _ _ => rfl⟩) (s2.ok (if_pos (by omega)) rfl)
  · exact rul 0 (by omega) (swk (k := 5) ha (by unfold I32; omega) z)
  · exact rul 1 (by omega) (swk (k := 6) ha (by unfold I32; omega) z)
  · exact rul 2 (by omega) (swk (k := 7) ha (by unfold I32; omega) z)
  · exact rul 3 (by omega) (swk (k := 8) ha (by unfold I32; omega) z)
  · exact rul 4 (by omega) (swk (k := 9) ha (by unfold I32; omega) z)
  · exact rul 5 (by omega) (swk (k := 10) ha (by unfold I32; omega) z)
  · have e := swk (k := 11) ha (by unfold I32; omega) z
    subst e
    exact s2.ok (if_pos (by omega)) s2.I.a
  · have e := swk (k := 12) ha (by unfold I32; omega) z
    subst e
    exact s2.ok (if_pos (by omega)) s2.I.s
  · have e := swk (k := 13) ha (by unfold I32; omega) z
    subst e
    exact wM_couplesOf (what := 1) (f := alS (qvR q)) hV (by omega) hM (Or.inr ⟨rfl, fun i hi => ⟨(hL2.2.2 i hi).2.2, alS_lt hV (by omega) i hi⟩⟩) (s2.ok (if_pos (by omega)) rfl)
end
