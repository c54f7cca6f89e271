/-! ===== feed, would, free ===== -/
def qwT (q : Par) (b : Nat → Nat) (s : Nat) : Par := (q.1, b, s, q.2.2.2)
def o_feed (q : Par) (x1 x2 x3 x4 x5 : Int32) : Oc := if qvs q ≤ 680 then .inr (((qvs q + 20 : Nat) : Int), qwT q (fdB (qvb q) (qvs q) x1 x2 x3 x4 x5) (qvs q + 20)) else .inr (-1, q)
def wdV (R : RR) (b : Nat → Nat) (n g d w : Nat) : Int := if w = 0 then (hvS (mkR R b n d g) d (R 1) 1 : Int) else if w = 1 then lsI (mkR R b n d g) d (R 1) (2 * mkR R b n d g 0) else if w = 2 then (fnS (mkR R b n d g) (R 1) : Int) else ffI (mkR R b n d g) (R 1) d
theorem wdV0 {R : RR} {b : Nat → Nat} {n g d : Nat} : wdV R b n g d 0 = (hvS (mkR R b n d g) d (R 1) 1 : Int) := by
  unfold wdV
  rw [if_pos rfl]
theorem wdV1 {R : RR} {b : Nat → Nat} {n g d : Nat} : wdV R b n g d 1 = lsI (mkR R b n d g) d (R 1) (2 * mkR R b n d g 0) := by
  unfold wdV
  rw [if_neg (by decide), if_pos rfl]
theorem wdV2 {R : RR} {b : Nat → Nat} {n g d : Nat} : wdV R b n g d 2 = (fnS (mkR R b n d g) (R 1) : Int) := by
  unfold wdV
  rw [if_neg (by decide), if_neg (by decide), if_pos rfl]
theorem wdV3 {R : RR} {b : Nat → Nat} {n g d : Nat} : wdV R b n g d 3 = ffI (mkR R b n d g) (R 1) d := by
  unfold wdV
  rw [if_neg (by decide), if_neg (by decide), if_neg (by decide)]
def o_would (q : Par) (n g d w : Int) : Oc := if 0 ≤ w ∧ w ≤ 3 then (if (0 ≤ n ∧ n ≤ qvs q) ∧ (0 ≤ g ∧ g ≤ 1023) ∧ 0 ≤ d ∧ d ≤ 9999 then (if nmB (qvb q) n.toNat = true then .inr (wdV (qvR q) (qvb q) n.toNat g.toNat d.toNat w.toNat, qw0 q) else .inr (-1000000000, qw0 q)) else .inl 1) else .inl 0
def o_free (q : Par) (n d : Int) : Oc := if (0 ≤ n ∧ n ≤ qvs q) ∧ (0 ≤ (0 : Int) ∧ (0 : Int) ≤ 1023) ∧ 0 ≤ d ∧ d ≤ 9999 then (if nmB (qvb q) n.toNat = true then .inr ((frI (qvR q) (qvb q) n.toNat d.toNat : Int), qw0 q) else .inr (-1000000000, qw0 q)) else .inl 1
section
variable {q : Par} {G : GH}
theorem IC.tp {G1 : GH} {b : Nat → Nat} {s : Nat} (h : IC q G) (ag : Ag (fun y c j => y = 1 ∧ (c = 1 ∨ c = 0 ∧ j = 1)) G G1) (hB : TB b (G1 1 1)) (h1 : G1 1 0 1 = zI s) (hs : s ≤ 700) : IC (qwT q b s) G1 := by
  have e : ∀ x, x ≠ 1 → G1 x = G x := fun x hx => ag.ob x (fun c j z => hx z.1)
  obtain ⟨h1', h2, h3, h4, h5, h6, h7, h8⟩ := h
  exact ⟨h1', by rw [e 8 (by omega)]; exact h2, h3.cg (e 6 (by omega)) (by rw [e 0 (by omega)]), ⟨hB, h1, hs⟩, by rw [e 0 (by omega)]; exact h5, h6.cg (fun x hx => e x (by omega)), by rw [e 0 (by omega)]; exact h7, by rw [e 11 (by omega)]; exact h8⟩
theorem IC.t0 {G1 : GH} (h : IC q G) (ag : Ag (fun x c j => x = 1 ∧ c = 0 ∧ j = 1) G G1) (h1 : G1 1 0 1 = zI 0) : IC (qw0 q) G1 := by
  have hB : TB (qvb q) (G1 1 1) := by
    rw [ag.ce 1 1 (fun j z => by omega)]
    exact h.B
  exact h.tp (ag.mo (fun x c j z => ⟨z.1, Or.inr z.2⟩)) hB h1 (by omega)
theorem cI_feed {x1 x2 x3 x4 x5 : Int32} (h : IC q G) : wp_X7_feed (CO (o_feed q x1 x2 x3 x4 x5) G) x1 x2 x3 x4 x5 G := by
  refine wI_feed h.B h.s h.s7 (fun z => CO.s h (o_not (by omega) rfl) rfl) (fun z G1 ag hB h1 => ?_)
  exact CO.ag (o_yes z rfl) rfl (h.tp ag hB h1 (by omega)) ag (fun x c j y => by omega)
theorem IR.tp {G1 : GH} {b : Nat → Nat} {s : Nat} (h : IR q G) (ag : Ag (fun y c j => y = 24 ∧ (c = 32 ∨ c = 0 ∧ (j = 5 ∨ j = 32))) G G1) (hB : MB b (G1 24 32)) (h1 : G1 24 0 32 = zI s) : IR (qwT q b s) G1 := by
  have e : ∀ c, c ≠ 0 → c ≠ 32 → G1 24 c = G 24 c := fun c h1 h2 => ag.ce 24 c (fun j z => by omega)
  have e0 : ∀ j, j ≠ 5 → j ≠ 32 → G1 24 0 j = G 24 0 j := fun j h1 h2 => ag 24 0 j (fun z => by omega)
  obtain ⟨i1, i2, i3, i4, i5, i6, i7⟩ := h
  refine ⟨by rw [e 1 (by omega) (by omega)]; exact i1, fun z => ?_, ⟨hB, h1⟩, by rw [e0 40 (by omega) (by omega)]; exact i4, ?_, by rw [e0 6 (by omega) (by omega)]; exact i6, by rw [e 3 (by omega) (by omega)]; exact i7⟩
  · rw [e0 7 (by omega) (by omega)] at z
    have hL := i2 z
    unfold LT HS at hL ⊢
    rw [e 9 (by omega) (by omega), e 10 (by omega) (by omega), e 14 (by omega) (by omega), e 15 (by omega) (by omega), e 16 (by omega) (by omega), e 17 (by omega) (by omega), e 18 (by omega) (by omega), e 19 (by omega) (by omega), e 20 (by omega) (by omega)]
    exact hL
  · rw [e0 4 (by omega) (by omega), e 4 (by omega) (by omega)]
    exact i5
theorem cM_feed {x1 x2 x3 x4 x5 : Int32} (hP : PV q) (h : IR q G) : wp_X8_feed (MO kc2 (o_feed q x1 x2 x3 x4 x5) q G) x1 x2 x3 x4 x5 G := by
  refine wM_feed h.B h.s hP.2.1 (fun z G1 ag hB h1 h5 => ?_) (fun z G1 ag hB h1 h5 => ?_)
  · exact MO.ok (q' := q) (o_not (by omega) rfl) rfl h5 (h.tp ag hB h1).t ag (fun x c j y => y.1)
  · exact MO.ok (o_yes z rfl) rfl h5 (h.tp ag hB h1).t ag (fun x c j y => y.1)
/-- a name is taken off the reference's tape -/
theorem S0.tn {G1 G2 : GH} (s : S0 q G G1) (ag : Ag WTN G1 G2) (h1 : G2 24 0 32 = zI 0) : S0 (qw0 q) G G2 := by
  obtain ⟨⟨i1, i2, i3, i4, i5, i6, i7⟩, s2, s3⟩ := s
  have e : ∀ c, c ≠ 0 → c ≠ 30 → G2 24 c = G1 24 c := fun c h1 h2 => ag.ce 24 c (fun j z => by unfold WTN at z; omega)
  have e0 : ∀ j, j ≠ 30 → j ≠ 32 → G2 24 0 j = G1 24 0 j := fun j h1 h2 => ag 24 0 j (fun z => by unfold WTN at z; omega)
  refine ⟨⟨by rw [e 1 (by omega) (by omega)]; exact i1, fun z => ?_, ⟨by rw [e 32 (by omega) (by omega)]; exact i3.1, h1⟩, by rw [e0 40 (by omega) (by omega)]; exact i4, ?_, by rw [e0 6 (by omega) (by omega)]; exact i6, by rw [e 3 (by omega) (by omega)]; exact i7⟩, s2.wk ag (fun x c j z => z.1), by rw [e0 5 (by omega) (by omega)]; exact s3⟩
  · rw [e0 7 (by omega) (by omega)] at z
    have hL := i2 z
    unfold LT HS at hL ⊢
    rw [e 9 (by omega) (by omega), e 10 (by omega) (by omega), e 14 (by omega) (by omega), e 15 (by omega) (by omega), e 16 (by omega) (by omega), e 17 (by omega) (by omega), e 18 (by omega) (by omega), e 19 (by omega) (by omega), e 20 (by omega) (by omega)]
    exact hL
  · rw [e0 4 (by omega) (by omega), e 4 (by omega) (by omega)]
    exact i5
/-- the reference's row has changed behind its last mark, and its tables are no longer told -/
def WEt (x c j : Nat) : Prop := WHa x c j ∨ WT x c j
theorem S0.et {G1 G2 : GH} {R' : RR} (s : S0 q G G1) (ag : Ag WEt G1 G2) (ht : eqT (qvR q) R') (hM : MR R' (G2 24 1)) (h7 : G2 24 0 7 = 0) : G2 24 0 5 = 0 ∧ IRt q G2 ∧ Ag W24 G G2 := by
  obtain ⟨⟨i1, i2, i3, i4, i5, i6, i7⟩, s2, s3⟩ := s
  have w : ∀ c j, WEt 24 c j → (c = 1 ∨ c = 28 ∨ 9 ≤ c ∧ c ≤ 24 ∨ c = 0 ∧ (j = 7 ∨ j = 28 ∨ 24 ≤ j ∧ j ≤ 26)) := fun c j z => by unfold WEt WHa WH WT at z; omega
  have e : ∀ c, c = 3 ∨ c = 4 ∨ c = 32 → G2 24 c = G1 24 c := fun c hc => ag.ce 24 c (fun j z => by have := w c j z; omega)
  have e0 : ∀ j, j = 4 ∨ j = 5 ∨ j = 6 ∨ j = 32 ∨ j = 40 → G2 24 0 j = G1 24 0 j := fun j hj => ag 24 0 j (fun z => by have := w 0 j z; omega)
  refine ⟨by rw [e0 5 (by omega)]; exact s3, ⟨R', ht, hM, fun z => absurd h7 z, ?_, by rw [e0 40 (by omega)]; exact i4, ?_, by rw [e0 6 (by omega)]; exact i6, by rw [e 3 (by omega)]; exact i7⟩, s2.wk ag (fun x c j z => by unfold WEt WHa WH WT at z; unfold W24; omega)⟩
  · rw [e 32 (by omega), e0 32 (by omega)]
    exact i3
  · rw [e0 4 (by omega), e 4 (by omega)]
    exact i5
set_option maxHeartbeats 1000000 in
theorem cI_would {n g d w : Int} (hn : I32 n) (hg : I32 g) (hd : I32 d) (hw : I32 w) (h : IC q G) : wp_X7_would (CO (o_would q n g d w) G) (CQ (o_would q n g d w) q G) (zI n) (zI g) (zI d) (zI w) G := by
  have hV := h.V
  have h12 := hV.mk
  have l6 := hV.l6
  have hs7 := h.s7
  unfold wp_X7_would
  rw [zl3]
  refine wI_needWhat hw (by unfold I32; omega) (fun w1 => ?_) (fun w1 => CQ.s h (o_not w1 rfl))
  refine wI_needFiling hn hg hd h.s h.s7 (fun f1 => ?_) (fun f1 => CQ.s h (o_yes w1 (o_not f1 rfl)))
  obtain ⟨k, rfl⟩ := Int.eq_ofNat_of_zero_le f1.1.1
  obtain ⟨gd, rfl⟩ := Int.eq_ofNat_of_zero_le f1.2.1.1
  obtain ⟨dy, rfl⟩ := Int.eq_ofNat_of_zero_le f1.2.2.1
  obtain ⟨j, rfl⟩ := Int.eq_ofNat_of_zero_le w1.1
  refine wI_takeName h.B (by omega) (fun G1 ag1 g1 => ?_)
  have h1 := h.t0 ag1 g1
  have e24 : G1 24 = G 24 := ag1.ob 24 (fun c j z => by omega)
  have e25 : G1 25 = G 25 := ag1.ob 25 (fun c j z => by omega)
  by_cases nm : nmB (qvb q) k = true
  case neg =>
    refine br_bf (Bool.eq_false_iff.mpr nm) ?_
    exact CO.mk (o_yes w1 (o_yes f1 (o_not (by exact nm) rfl))) rfl h1 e24 e25
  refine br_bt nm ?_
  refine wI_likeness h1 (fun G2 ag2 h2 k1 k2 k3 => ?_)
  obtain ⟨hn1, hn2, hnl⟩ : 1 ≤ k ∧ k ≤ 10 ∧ ∀ i, i < k → sml (qvb q i) = true := of_decide_eq_true nm
  have hlet : ∀ i, i < k → 97 ≤ qvb q i ∧ qvb q i ≤ 122 := fun i hi => of_decide_eq_true (hnl i hi)
  have V2 : VR 13 (mkR (qvR q) (qvb q) k dy gd) := mkR_V (hV.up (by omega)) (by omega) ⟨hn1, hn2⟩ hlet (by omega) (by omega)
  have r0 : mkR (qvR q) (qvb q) k dy gd 0 = qvR q 0 := mkR_lo (by decide) (by decide)
  have r1 : mkR (qvR q) (qvb q) k dy gd 1 = qvR q 1 + 1 := mkR_1
  refine wI_imagine (b := qvb q) hV h2.C k1 k2 h2.B nm (by omega) (by omega) (fun G3 ag3 hC3 a1 a2 a3 => ?_)
  have h3 : IC (qw0 q) G3 := h2.fr ag3 (fun x c j z => by omega)
  have e24' : G3 24 = G 24 := by rw [ag3.ob 24 (fun c j z => by omega), WLk.o ag2 (by omega), e24]
  have e25' : G3 25 = G 25 := by rw [ag3.ob 25 (fun c j z => by omega), WLk.o ag2 (by omega), e25]
  have dn : ∀ (r : Int32) (G4 : GH), r = zI (wdV (qvR q) (qvb q) k gd dy j) → IC (qw0 q) G4 → G4 24 = G3 24 → G4 25 = G3 25 → CO (o_would q (k : Int) (gd : Int) (dy : Int) (j : Int)) G r G4 := by
    intro r G4 hr hI e1 e2
    exact CO.mk (o_yes w1 (o_yes f1 (o_yes (by exact nm) rfl))) hr hI (e1.trans e24') (e2.trans e25')
  have hm : qvR q 1 < mkR (qvR q) (qvb q) k dy gd 1 := by omega
  rw [zl2, zl0, zI_eq (by omega), zI_eq (by omega), zI_eq (by omega)]
  refine br_c (fun z => ?_) (fun z => br_c (fun z1 => ?_) (fun z1 => ?_))
  · have e : j = 2 := by omega
    subst e
    exact wI_fieldOf V2 (by omega) hm (a3 _ hm).1 (dn _ _ (by rw [wdV2]) h3 rfl rfl)
  · have e : j = 3 := by omega
    subst e
    refine wI_firstFreeDay V2 (by omega) hC3 (fun i hi => (a3 i hi).2) (by omega) (mkR_z hn2 (by omega) (by omega)) (by omega) (fun G4 ag4 => ?_)
    exact dn _ _ (by rw [wdV3]) (h3.fr ag4 (fun x c j z => by unfold WFf at z; omega)) (ag4.ob 24 (fun c j z => by unfold WFf at z; omega)) (ag4.ob 25 (fun c j z => by unfold WFf at z; omega))
  · refine wI_groupOf V2 (by omega) hC3 hm (fun i hi => (a3 i hi).2) ?_
    refine wI_settleAll V2 (by omega) hC3 (by decide) (by decide) (fun i hi => (a3 i hi).2) (by omega) (gp_lt V2 (by omega) hm) (gp_clo V2 (by omega) hm) (fun G4 ag4 hS => ?_)
    have h5 : ∀ (x : Nat) (_c _j : Nat), x = 5 → x = 5 := fun x c j z => z
    obtain ⟨g3, g4, g5⟩ := hS _ hm gp_self
    refine br_c (fun z2 => ?_) (fun z2 => ?_)
    · have e : j = 0 := by omega
      subst e
      refine ⟨zI_in (by omega), ?_⟩
      rw [zI_clN (by omega), g4]
      refine dn _ _ ?_ (h3.f5 ag4 h5) (h5o ag4 h5 (by omega)) (h5o ag4 h5 (by omega))
      rw [← hvS_1, wdV0]
    · have e : j = 1 := by omega
      subst e
      refine ⟨zI_in (by omega), ?_⟩
      rw [zI_clN (by omega), g5]
      exact dn _ _ (by rw [wdV1]) (h3.f5 ag4 h5) (h5o ag4 h5 (by omega)) (h5o ag4 h5 (by omega))
set_option maxHeartbeats 1000000 in
theorem cM_would {n g d w : Int} (hn : I32 n) (hg : I32 g) (hd : I32 d) (hw : I32 w) (hP : PV q) (h : IR q G) : wp_X8_would (MO kc2 (o_would q n g d w) q G) (zI n) (zI g) (zI d) (zI w) G := by
  have hV := hP.1
  have h12 := hV.mk
  have l6 := hV.l6
  have hs7 := hP.2.1
  unfold wp_X8_would j_X8_would_45
  rw [show (0 : Int32) = zI 0 from rfl, zl3, wM_within ⟨hw, by omega⟩]
  by_cases w1 : 0 ≤ w ∧ w ≤ 3
  case neg => exact br_bf (decide_eq_false w1) (cdN (i := 0) h (o_not w1 rfl) rfl (by decide))
  refine br_bt (decide_eq_true w1) ?_
  have no : ¬ ((0 ≤ n ∧ n ≤ qvs q) ∧ (0 ≤ g ∧ g ≤ 1023) ∧ 0 ≤ d ∧ d ≤ 9999) → j_X8_would_50 (MO kc2 (o_would q n g d w) q G) (zI n) (zI g) (zI d) (zI w) (2 : Int32) G := fun z => cdN (i := 1) h (o_yes w1 (o_not z rfl)) rfl (by decide)
  rw [zl1023, wM_within ⟨hg, by omega⟩]
  by_cases g1 : 0 ≤ g ∧ g ≤ 1023
  case neg => exact br_bf (decide_eq_false g1) (no (fun z => g1 z.2.1))
  refine br_bt (decide_eq_true g1) ?_
  rw [wM_isDay hd]
  by_cases d1 : 0 ≤ d ∧ d ≤ 9999
  case neg => exact br_bf (decide_eq_false d1) (no (fun z => d1 z.2.2))
  refine br_bt (decide_eq_true d1) ?_
  rw [h.s, wM_within ⟨hn, by omega⟩]
  by_cases n1 : 0 ≤ n ∧ n ≤ qvs q
  case neg => exact br_bf (decide_eq_false n1) (no (fun z => n1 z.1))
  refine br_bt (decide_eq_true n1) (cd0 h (fun G1 s1 => ?_))
  have f1 := And.intro n1 (And.intro g1 d1)
  obtain ⟨k, rfl⟩ := Int.eq_ofNat_of_zero_le n1.1
  obtain ⟨gd, rfl⟩ := Int.eq_ofNat_of_zero_le g1.1
  obtain ⟨dy, rfl⟩ := Int.eq_ofNat_of_zero_le d1.1
  obtain ⟨j, rfl⟩ := Int.eq_ofNat_of_zero_le w1.1
  refine wM_takesName s1.I.B (by omega) (fun G2 ag2 g32 g30 hl => ?_)
  have s2 := s1.tn ag2 g32
  by_cases nm : nmB (qvb q) k = true
  case neg =>
    refine br_bf (Bool.eq_false_iff.mpr nm) ?_
    exact MO.ok (W := W24) (o_yes w1 (o_yes f1 (o_not (by exact nm) rfl))) rfl s2.2.2 s2.1.t s2.2.1 (fun x c j z => z)
  refine br_bt nm ?_
  obtain ⟨hn1, hn2, hnl⟩ : 1 ≤ k ∧ k ≤ 10 ∧ ∀ i, i < k → sml (qvb q i) = true := of_decide_eq_true nm
  have hlet : ∀ i, i < k → 97 ≤ qvb q i ∧ qvb q i ≤ 122 := fun i hi => of_decide_eq_true (hnl i hi)
  have V2 : VR 13 (mkR (qvR q) (qvb q) k dy gd) := mkR_V (hV.up (by omega)) (by omega) ⟨hn1, hn2⟩ hlet (by omega) (by omega)
  have r0 : mkR (qvR q) (qvb q) k dy gd 0 = qvR q 0 := mkR_lo (by decide) (by decide)
  have r1 : mkR (qvR q) (qvb q) k dy gd 1 = qvR q 1 + 1 := mkR_1
  have aA : ∀ {G1 G2 : GH}, Ag WAd G1 G2 → Ag WEt G1 G2 := fun {G1 G2} ag => ag.mo (fun x c j z => by unfold WAd at z; unfold WEt WHa WH; omega)
  have aH : ∀ {G1 G2 : GH}, Ag WH G1 G2 → Ag WEt G1 G2 := fun {G1 G2} ag => ag.mo (fun x c j z => Or.inl (Or.inl z))
  refine wM_adds (R := qvR q) (g := qvb q) (len := k) (by omega) ⟨hn1, hn2⟩ s2.I.M g30 (hl nm) (fun G3 ag3 hM3 h73 => ?_)
  have hm : qvR q 1 < mkR (qvR q) (qvb q) k dy gd 1 := by omega
  have dn : ∀ (v : Int) (x : Nat) (G4 : GH), v = wdV (qvR q) (qvb q) k gd dy j → Ag WEt G3 G4 → MR (flR (mkR (qvR q) (qvb q) k dy gd) (qvR q 1) x) (G4 24 1) → j_X8_would_162 (MO kc2 (o_would q (k : Int) (gd : Int) (dy : Int) (j : Int)) q G) (zI v) G4 := by
    intro v x G4 hv ag4 hM4
    unfold j_X8_would_162
    refine wM_goesAway hM4 (by rw [flR_lo (by omega), r1]; omega) (fun G5 ag5 hM5 h75 => ?_)
    obtain ⟨t1, t2, t3⟩ := s2.et (((aA ag3).tr ag4).tr (aA ag5)) (eqT.ga hn2 x) hM5 h75
    exact MO.ok (W := W24) (o_yes w1 (o_yes f1 (o_yes (by exact nm) (by rw [hv]; rfl)))) rfl t1 t2 t3 (fun x c j z => z)
  have ds : ∀ (v : Int) (G4 : GH), v = wdV (qvR q) (qvb q) k gd dy j → Ag WH G3 G4 → j_X8_would_162 (MO kc2 (o_would q (k : Int) (gd : Int) (dy : Int) (j : Int)) q G) (zI v) G4 := by
    intro v G4 hv ag4
    refine dn v (qq (mkR (qvR q) (qvb q) k dy gd) (qvR q 1) 12) G4 hv (aH ag4) ?_
    rw [flR_self]
    exact hM3.fr ag4 (fun j w => by unfold WH at w; omega)
  refine ⟨fun z => ?_, fun z => ?_, fun z => ?_, fun z => ?_⟩
  · rw [zI_toInt hw] at z
    have e : j = 3 := by omega
    subst e
    refine wM_firstFree V2 (by omega) (by omega) (mkR_z hn2 (by omega) (by omega)) (mkR_n12 hn2) hM3 (fun z => absurd h73 z) (fun x0 G4 hx ag4 hM4 => ?_)
    exact dn _ x0 G4 wdV3.symm ag4 hM4
  · have e : j = 0 := by
      have := swk (k := 0) hw (by unfold I32; omega) z
      omega
    subst e
    exact wM_halvesOf (what := 1) V2 (by omega) hM3 (fun z => absurd h73 z) hm (by omega) (by omega) (fun G4 ag4 _ => ds _ G4 wdV0.symm ag4)
  · have e : j = 1 := by
      have := swk (k := 1) hw (by unfold I32; omega) z
      omega
    subst e
    exact wM_leastReason V2 (by omega) hM3 (fun z => absurd h73 z) hm (by omega) (fun G4 ag4 _ => ds _ G4 wdV1.symm ag4)
  · have e : j = 2 := by
      have := swk (k := 2) hw (by unfold I32; omega) z
      omega
    subst e
    refine wM_lay V2 (by omega) hM3 (fun z => absurd h73 z) (fun G4 ag4 hL4 h74 => ⟨zI_in (by omega), ?_⟩)
    intro y ey
    rw [zI_clN (by omega), (hL4.2.2 _ hm).1] at ey
    subst ey
    exact ds _ G4 wdV2.symm (ag4.mo (fun x c j z => by unfold WL at z; unfold WH; omega))
end
