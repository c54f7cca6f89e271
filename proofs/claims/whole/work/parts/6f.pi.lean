/-! ===== acts: file, use, consent, drop, rule, near (and free) ===== -/
def qkp (q : Par) (R' : RR) : Par := (R', qvb q, qvs q, qvf q, (kpA (qva q), (qvx q + 1) % 12, kpP (qva q) (qvp q) (qvR q)), (qvk q, qvK q))
def o_file (q : Par) (n g d : Int) : Oc := if (0 ≤ n ∧ n ≤ qvs q) ∧ (0 ≤ g ∧ g ≤ 1023) ∧ 0 ≤ d ∧ d ≤ 9999 then (if nmB (qvb q) n.toNat = true then (if qvR q 1 < 12 then .inr ((qvR q 1 : Int), qkp (qw0 q) (mkR (qvR q) (qvb q) n.toNat d.toNat g.toNat)) else .inr (-1, qw0 q)) else .inr (-1000000000, qw0 q)) else .inl 1
def o_use (q : Par) (a b f t : Int) : Oc := if 0 ≤ a ∧ a < qvR q 1 then (if 0 ≤ b ∧ b < 2 * qvR q 0 then (if 0 ≤ f ∧ f ≤ 9999 then (if 0 ≤ t ∧ t ≤ 9999 then (if f ≤ t then (if qq (qvR q) a.toNat 13 < 12 then .inr ((qq (qvR q) a.toNat 13 : Int), qkp q (usR (qvR q) a.toNat b.toNat f.toNat t.toNat)) else .inr (-1, q)) else .inl 1) else .inl 1) else .inl 1) else .inl 0) else .inl 0
def o_consent (q : Par) (a b : Int) (y : Bool) : Oc := if (0 ≤ a ∧ a < qvR q 1) ∧ (0 ≤ b ∧ b < qvR q 1) ∧ a ≠ b then .inr ((((qq (qvR q) a.toNat 50).testBit b.toNat).toNat : Int), qkp q (cnR y (qvR q) a.toNat b.toNat)) else .inl 0
def o_drop (q : Par) (a : Int) : Oc := if 0 ≤ a ∧ a < qvR q 1 then .inr (((qvR q 1 - 1 : Nat) : Int), qkp q (drR (qvR q) a.toNat)) else .inl 0
section
variable {q : Par} {G : GH}
theorem IC.kp {G1 : GH} (h : IC q G) (ag : Ag WKc G G1) (hR : RI (kpA (qva q)) ((qvx q + 1) % 12) (kpP (qva q) (qvp q) (qvR q)) G1) : IC (qkp q (qvR q)) G1 := by
  have e : ∀ x, x ≠ 4 → ¬ (12 ≤ x ∧ x ≤ 23) → G1 x = G x := fun x h1 h2 => ag.ob x (fun c j z => by unfold WKc at z; omega)
  obtain ⟨h1, h2, h3, h4, h5, h6, h7, h8⟩ := h
  refine ⟨h1, by rw [e 8 (by omega) (by omega)]; exact h2, h3.cg (e 6 (by omega) (by omega)) (by rw [e 0 (by omega) (by omega)]), ?_, by rw [e 0 (by omega) (by omega)]; exact h5, hR, by rw [e 0 (by omega) (by omega)]; exact h7, by rw [e 11 (by omega) (by omega)]; exact h8⟩
  rw [e 1 (by omega) (by omega)]
  exact h4
def WSe (x c j : Nat) : Prop := x = 8 ∨ x = 0 ∧ c = 0 ∧ j = 12
theorem IC.se {G1 : GH} {R' : RR} (h : IC q G) (ag : Ag WSe G G1) (hV : VR 12 R') (hC : CR R' (G1 8)) (hS : SK R' G1) : IC (qwR q R') G1 := by
  have e : ∀ x, x ≠ 8 → x ≠ 0 → G1 x = G x := fun x h1 h2 => ag.ob x (fun c j z => by unfold WSe at z; omega)
  have e0 : ∀ j, j ≠ 12 → G1 0 0 j = G 0 0 j := fun j hj => ag 0 0 j (fun z => by unfold WSe at z; omega)
  obtain ⟨h1, h2, h3, h4, h5, h6, h7, h8⟩ := h
  refine ⟨hV, hC, hS, ?_, by rw [e0 11 (by omega)]; exact h5, h6.cg (fun x hx => e x (by omega) (by omega)), by rw [e0 10 (by omega)]; exact h7, by rw [e 11 (by omega) (by omega)]; exact h8⟩
  rw [e 1 (by omega) (by omega)]
  exact h4
theorem SK.st {R' : RR} {G1 : GH} (h : G1 0 0 12 = (3 : Int32)) : SK R' G1 := ⟨3, by omega, h, fun z => by omega, fun z => by omega, fun z => by omega⟩
theorem SK.A {R R' : RR} {G1 : GH} (h : SK R G1) (hA : eqA R R') : SK R' G1 := by
  obtain ⟨t, t1, t2, t3, t4, t5⟩ := h
  exact ⟨t, t1, t2, fun z => hA.KN (t3 z), fun z => hA.KG (t4 z), fun z => hA.KJ (t5 z)⟩
theorem WKc.o {G1 : GH} (ag : Ag WKc G G1) {x : Nat} (hx : x = 24 ∨ x = 25) : G1 x = G x := ag.ob x (fun c j z => by unfold WKc at z; omega)
theorem WSe.o {G1 : GH} (ag : Ag WSe G G1) {x : Nat} (hx : x = 24 ∨ x = 25) : G1 x = G x := ag.ob x (fun c j z => by unfold WSe at z; omega)
theorem S0.kp {G1 G2 G3 : GH} {R' : RR} {kc : Nat → Nat} {o : Oc} {v : Int} {r : Int32} {q0 : Par} (s : S0 q G G1) (ag : Ag WKp G1 G2) (h7 : G2 24 0 7 = 0) (h4 : G2 24 0 4 = zI (kpA (qva q))) (hP : PS (kpA (qva q)) (kpP (qva q) (qvp q) (qvR q)) (G2 24 4)) (ag3 : Ag (fun x c _ => x = 24 ∧ c = 1) G2 G3) (hM : MR R' (G3 24 1)) (ho : o = .inr (v, qkp q R')) (hr : r = zI v) : MO kc o q0 G r G3 := by
  obtain ⟨⟨i1, i2, i3, i4, i5, i6, i7⟩, s2, s3⟩ := s
  have f : ∀ c, c ≠ 1 → G3 24 c = G2 24 c := fun c hc => ag3.ce 24 c (fun j z => hc z.2)
  have e : ∀ c, c = 3 ∨ c = 32 → G3 24 c = G1 24 c := fun c hc => (f c (by omega)).trans (ag.ce 24 c (fun j z => by unfold WKp at z; omega))
  have e0 : ∀ j, j ≠ 4 → j ≠ 7 → G3 24 0 j = G1 24 0 j := fun j h1 h2 => by
    rw [f 0 (by omega)]
    exact ag 24 0 j (fun z => by unfold WKp at z; omega)
  have hI : IR (qkp q R') G3 := by
    refine ⟨hM, fun z => absurd (by rw [f 0 (by omega)]; exact h7) z, ?_, by rw [e0 40 (by omega) (by omega)]; exact i4, ?_, by rw [e0 6 (by omega) (by omega)]; exact i6, by rw [e 3 (by omega)]; exact i7⟩
    · rw [e 32 (by omega), e0 32 (by omega) (by omega)]
      exact i3
    · rw [f 0 (by omega), f 4 (by omega)]
      exact ⟨h4, hP⟩
  refine MO.ok (W := W24) ho hr (by rw [e0 5 (by omega) (by omega)]; exact s3) hI.t ((s2.wk ag (fun x c j z => z.1)).wk ag3 (fun x c j z => z.1)) (fun x c j z => z)
theorem cI_free {n d : Int} (hn : I32 n) (hd : I32 d) (h : IC q G) : wp_X7_free (CO (o_free q n d) G) (CQ (o_free q n d) q G) (zI n) (zI d) G := by
  have hV := h.V
  have h12 := hV.mk
  have hs7 := h.s7
  unfold wp_X7_free
  rw [show (0 : Int32) = zI ((0 : Nat) : Int) from rfl]
  refine wI_needFiling hn (by unfold I32; omega) hd h.s h.s7 (fun f1 => ?_) (fun f1 => CQ.s h (o_not f1 rfl))
  obtain ⟨k, rfl⟩ := Int.eq_ofNat_of_zero_le f1.1.1
  obtain ⟨dy, rfl⟩ := Int.eq_ofNat_of_zero_le f1.2.2.1
  refine wI_takeName h.B (by omega) (fun G1 ag1 g1 => ?_)
  have h1 := h.t0 ag1 g1
  have e24 : G1 24 = G 24 := ag1.ob 24 (fun c j z => by omega)
  have e25 : G1 25 = G 25 := ag1.ob 25 (fun c j z => by omega)
  by_cases nm : nmB (qvb q) k = true
  case neg =>
    refine br_bf (Bool.eq_false_iff.mpr nm) ?_
    exact CO.mk (o_yes f1 (o_not (by exact nm) rfl)) rfl h1 e24 e25
  refine br_bt nm ?_
  refine wI_likeness h1 (fun G2 ag2 h2 k1 k2 k3 => ?_)
  refine wI_imagine (b := qvb q) hV h2.C k1 k2 h2.B nm (by omega) (by omega) (fun G3 ag3 hC3 a1 a2 a3 => ?_)
  have h3 : IC (qw0 q) G3 := h2.fr ag3 (fun x c j z => by omega)
  obtain ⟨hn1, hn2, hnl⟩ : 1 ≤ k ∧ k ≤ 10 ∧ ∀ i, i < k → sml (qvb q i) = true := of_decide_eq_true nm
  have V2 : VR 13 (mkR (qvR q) (qvb q) k dy 0) := mkR_V (hV.up (by omega)) (by omega) ⟨hn1, hn2⟩ (fun i hi => of_decide_eq_true (hnl i hi)) (by omega) (by omega)
  refine wI_rankAll V2 (by omega) hC3 (by decide) (by omega) (fun Gr agr hrk => ?_)
  have hrA : RKA (Gr 5) (mkR (qvR q) (qvb q) k dy 0) dy := RKA.of hrk
  have hcr : IC (qw0 q) Gr := h3.f5 agr (fun x c j z => z.1)
  have oR : ∀ {x : Nat}, x ≠ 5 → Gr x = G3 x := fun {x} hx => h5o agr (fun x c j z => z.1) hx
  refine wI_freeL (s0 := 0) hV (by omega) nm (by omega) (by rw [oR (by omega)]; exact hC3) (by rw [oR (by omega)]; exact a1) (by rw [oR (by omega)]; exact a2) hrA (fun G4 ag4 => ?_)
  refine CO.mk (o_yes f1 (o_yes (by exact nm) rfl)) rfl (hcr.fr ag4 (fun x c j z => by omega)) ?_ ?_
  · rw [ag4.ob 24 (fun c j z => by omega), oR (by omega), ag3.ob 24 (fun c j z => by omega), WLk.o ag2 (by omega), e24]
  · rw [ag4.ob 25 (fun c j z => by omega), oR (by omega), ag3.ob 25 (fun c j z => by omega), WLk.o ag2 (by omega), e25]
theorem cM_free {n d : Int} (hn : I32 n) (hd : I32 d) (hP : PV q) (h : IR q G) : wp_X8_free (MO kc1 (o_free q n d) q G) (zI n) (zI d) G := by
  have hV := hP.1
  have hs7 := hP.2.1
  unfold wp_X8_free j_X8_free_20
  have no : ¬ ((0 ≤ n ∧ n ≤ qvs q) ∧ (0 ≤ (0 : Int) ∧ (0 : Int) ≤ 1023) ∧ 0 ≤ d ∧ d ≤ 9999) → j_X8_free_25 (MO kc1 (o_free q n d) q G) (zI n) (zI d) (1 : Int32) G := fun z => cdN (i := 1) h (o_not z rfl) rfl (by decide)
  rw [wM_isDay hd]
  by_cases d1 : 0 ≤ d ∧ d ≤ 9999
  case neg => exact br_bf (decide_eq_false d1) (no (fun z => d1 z.2.2))
  refine br_bt (decide_eq_true d1) ?_
  rw [h.s, show (0 : Int32) = zI 0 from rfl, wM_within ⟨hn, by omega⟩]
  by_cases n1 : 0 ≤ n ∧ n ≤ qvs q
  case neg => exact br_bf (decide_eq_false n1) (no (fun z => n1 z.1))
  refine br_bt (decide_eq_true n1) (cd0 h (fun G1 s1 => ?_))
  have f1 : (0 ≤ n ∧ n ≤ qvs q) ∧ (0 ≤ (0 : Int) ∧ (0 : Int) ≤ 1023) ∧ 0 ≤ d ∧ d ≤ 9999 := ⟨n1, by omega, d1⟩
  obtain ⟨k, rfl⟩ := Int.eq_ofNat_of_zero_le n1.1
  obtain ⟨dy, rfl⟩ := Int.eq_ofNat_of_zero_le d1.1
  refine wM_takesName s1.I.B (by omega) (fun G2 ag2 g32 g30 hl => ?_)
  have s2 := s1.tn ag2 g32
  by_cases nm : nmB (qvb q) k = true
  case neg =>
    refine br_bf (Bool.eq_false_iff.mpr nm) ?_
    exact MO.ok (W := W24) (o_yes f1 (o_not (by exact nm) rfl)) rfl s2.2.2 s2.1.t s2.2.1 (fun x c j z => z)
  refine br_bt nm ?_
  refine wM_freeL (R := qvR q) hV nm (by omega) s2.I.M g30 (hl nm) (fun R' G3 ht ag3 hM3 h73 => ?_)
  obtain ⟨t1, t2, t3⟩ := s2.et (ag3.mo (fun x c j z => Or.inl z)) ht hM3 h73
  exact MO.ok (W := W24) (o_yes f1 (o_yes (by exact nm) rfl)) rfl t1 t2 t3 (fun x c j z => z)
set_option maxHeartbeats 1000000 in
theorem cI_file {n g d : Int} (hn : I32 n) (hg : I32 g) (hd : I32 d) (h : IC q G) : wp_X7_file (CO (o_file q n g d) G) (CQ (o_file q n g d) q G) (zI n) (zI g) (zI d) G := by
  have hV := h.V
  have h12 := hV.mk
  have hs7 := h.s7
  unfold wp_X7_file
  refine wI_needFiling hn hg hd h.s h.s7 (fun f1 => ?_) (fun f1 => CQ.s h (o_not f1 rfl))
  obtain ⟨k, rfl⟩ := Int.eq_ofNat_of_zero_le f1.1.1
  obtain ⟨gd, rfl⟩ := Int.eq_ofNat_of_zero_le f1.2.1.1
  obtain ⟨dy, rfl⟩ := Int.eq_ofNat_of_zero_le f1.2.2.1
  refine wI_takeName h.B (by omega) (fun G1 ag1 g1 => ?_)
  have h1 := h.t0 ag1 g1
  have e24 : G1 24 = G 24 := ag1.ob 24 (fun c j z => by omega)
  have e25 : G1 25 = G 25 := ag1.ob 25 (fun c j z => by omega)
  by_cases nm : nmB (qvb q) k = true
  case neg =>
    refine br_bf (Bool.eq_false_iff.mpr nm) ?_
    exact CO.mk (o_yes f1 (o_not (by exact nm) rfl)) rfl h1 e24 e25
  refine br_bt nm ?_
  have hC1 : CR (qvR q) (G1 8) := h1.C
  rw [hC1.mk, zl12, zI_lt (by omega)]
  refine br_c (fun z => ?_) (fun z => CO.mk (o_yes f1 (o_yes (by exact nm) (o_not (by omega) rfl))) rfl h1 e24 e25)
  obtain ⟨hn1, hn2, hnl⟩ : 1 ≤ k ∧ k ≤ 10 ∧ ∀ i, i < k → sml (qvb q i) = true := of_decide_eq_true nm
  have hlet : ∀ i, i < k → 97 ≤ qvb q i ∧ qvb q i ≤ 122 := fun i hi => of_decide_eq_true (hnl i hi)
  refine wI_keep hV hC1 h1.R (fun G2 ag2 hR2 => ?_)
  have h2 := h1.kp ag2 hR2
  intro G3 e3
  have a3 : Ag WSe G2 G3 := by
    rw [e3]
    exact (Ag.rf G2).up (Or.inr ⟨rfl, rfl, rfl⟩)
  have g3 : G3 0 0 12 = (3 : Int32) := by rw [e3, gs_eq, upd_eq]
  have h3 : IC (qkp (qw0 q) (qvR q)) G3 := h2.se a3 hV (by
    have : G3 8 = G2 8 := by
      funext c
      rw [e3, gs_ne (by omega)]
    rw [this]
    exact h2.C) (SK.st g3)
  rw [show (0 : Int32) = zI ((0 : Nat) : Int) from rfl]
  refine wI_addMark (s := 0) (R := qvR q) hV (by omega) h3.C (by decide) (b := qvb q) h3.B ⟨hn1, hn2⟩ (by omega) (fun k hk => by rw [Nat.zero_add]; exact hlet k hk) (fun G4 ag4 hC4 => ⟨zI_in (by omega), ?_⟩)
  rw [show (fun k => qvb q (0 + k)) = qvb q from funext (fun k => by rw [Nat.zero_add])] at hC4
  intro G5 e5
  rw [zI_clN (by omega)] at e5
  have hC5 : CR (mkR (qvR q) (qvb q) k dy gd) (G5 8) := hC4.cls (hV.up (show 12 ≤ 13 by omega)) hn2 (by rw [e5, gs_eq]) (fun c hc => by rw [e5, gs_ne (by omega)])
  have a5 : Ag WSe G3 G5 := by
    rw [e5]
    exact (ag4.mo (fun x c j z => Or.inl z)).up (Or.inl rfl)
  have h5 := h3.se a5 (mkR_V hV (by omega) ⟨hn1, hn2⟩ hlet (by omega) (by omega)) hC5 (SK.st (by rw [e5, gs_ne (by omega), ag4 0 0 12 (by omega)]; exact g3))
  refine CO.mk (o_yes f1 (o_yes (by exact nm) (o_yes (by omega) rfl))) rfl h5 ?_ ?_
  · rw [WSe.o a5 (by omega), WSe.o a3 (by omega), WKc.o ag2 (by omega), e24]
  · rw [WSe.o a5 (by omega), WSe.o a3 (by omega), WKc.o ag2 (by omega), e25]
theorem cM_file {n g d : Int} (hn : I32 n) (hg : I32 g) (hd : I32 d) (hP : PV q) (h : IR q G) : wp_X8_file (MO kc1 (o_file q n g d) q G) (zI n) (zI g) (zI d) G := by
  have hV := hP.1
  have h12 := hV.mk
  have hs7 := hP.2.1
  unfold wp_X8_file j_X8_file_31
  have no : ¬ ((0 ≤ n ∧ n ≤ qvs q) ∧ (0 ≤ g ∧ g ≤ 1023) ∧ 0 ≤ d ∧ d ≤ 9999) → j_X8_file_36 (MO kc1 (o_file q n g d) q G) (zI n) (zI g) (zI d) (1 : Int32) G := fun z => cdN (i := 1) h (o_not z rfl) rfl (by decide)
  rw [show (0 : Int32) = zI 0 from rfl, zl1023, wM_within ⟨hg, by omega⟩]
  by_cases g1 : 0 ≤ g ∧ g ≤ 1023
  case neg => exact br_bf (decide_eq_false g1) (no (fun z => g1 z.2.1))
  refine br_bt (decide_eq_true g1) ?_
  rw [wM_isDay hd]
  by_cases d1 : 0 ≤ d ∧ d ≤ 9999
  case neg => exact br_bf (decide_eq_false d1) (no (fun z => d1 z.2.2))
  refine br_bt (decide_eq_true d1) ?_
  rw [h.s, wM_within ⟨hn, by omega⟩]
  by_cases n1 : 0 ≤ n ∧ n ≤ qvs q
  case neg => exact br_bf (decide_eq_false n1) (no (fun z => n1 z.1))
  refine br_bt (decide_eq_true n1) (cd0 h (fun G1 s1 => ?_))
  have f1 := And.intro n1 (And.intro g1 d1)
  obtain ⟨k, rfl⟩ := Int.eq_ofNat_of_zero_le n1.1
  obtain ⟨gd, rfl⟩ := Int.eq_ofNat_of_zero_le g1.1
  obtain ⟨dy, rfl⟩ := Int.eq_ofNat_of_zero_le d1.1
  refine wM_takesName s1.I.B (by omega) (fun G2 ag2 g32 g30 hl => ?_)
  have s2 := s1.tn ag2 g32
  by_cases nm : nmB (qvb q) k = true
  case neg =>
    refine br_bf (Bool.eq_false_iff.mpr nm) ?_
    exact MO.ok (W := W24) (o_yes f1 (o_not (by exact nm) rfl)) rfl s2.2.2 s2.1.t s2.2.1 (fun x c j z => z)
  refine br_bt nm ?_
  obtain ⟨hn1, hn2, hnl⟩ : 1 ≤ k ∧ k ≤ 10 ∧ ∀ i, i < k → sml (qvb q i) = true := of_decide_eq_true nm
  have hM2 : MR (qvR q) (G2 24 1) := s2.I.M
  rw [wM_marks hM2, zl12, zI_eq (by omega)]
  refine br_c (fun z => MO.ok (W := W24) (o_yes f1 (o_yes (by exact nm) (o_not (by omega) rfl))) rfl s2.2.2 s2.1.t s2.2.1 (fun x c j z => z)) (fun z => ?_)
  refine wM_keep hM2 hP.2.2 s2.I.a s2.I.P (fun G3 ag3 h73 h43 hP3 => ?_)
  have w3 : ∀ c j, WKp 24 c j → (c = 4 ∨ c = 0 ∧ (j = 4 ∨ j = 7)) := fun c j z => z.2
  have hM3 : MR (qvR q) (G3 24 1) := hM2.fr ag3 (fun j w => by have := w3 _ _ w; omega)
  refine wM_adds (R := qvR q) (g := qvb q) (len := k) (by omega) ⟨hn1, hn2⟩ hM3 (by rw [ag3 24 0 30 (fun w => by have := w3 _ _ w; omega)]; exact g30) (fun i hi => by rw [ag3 24 30 i (fun w => by have := w3 _ _ w; omega)]; exact hl nm i hi) (fun G4 ag4 hM4 h74 => ?_)
  have ho : o_file q (k : Int) (gd : Int) (dy : Int) = .inr ((qvR q 1 : Int), qkp (qw0 q) (mkR (qvR q) (qvb q) k dy gd)) := o_yes f1 (o_yes (by exact nm) (o_yes (by omega) rfl))
  have c4 : ∀ c, c ≠ 1 → c ≠ 0 → G4 24 c = G3 24 c := fun c h1 h2 => ag4.ce 24 c (fun j z => by unfold WAd at z; omega)
  have c0 : ∀ j, G4 24 0 j = G3 24 0 j := fun j => by
    by_cases e : j = 7
    · subst e
      rw [h74, h73]
    · exact ag4 24 0 j (fun z => by unfold WAd at z; omega)
  refine s2.kp ag3 h73 h43 hP3 (G3 := G4) (fun x c j z => ?_) hM4 ho rfl
  by_cases e : x = 24
  · subst e
    by_cases e0 : c = 0
    · subst e0
      exact c0 j
    · rw [c4 c (fun e1 => z ⟨rfl, e1⟩) e0]
  · rw [ag4.ob x (fun c j y => e y.1)]
end
