/-! ===== what holds between calls ===== -/
/-- the register, the tape and its size, the place of the fault, the acts (how many, the ring's next, what was ahead of each), the image -/
abbrev Par : Type := RR × (Nat → Nat) × Nat × Int × (Nat × Nat × (Nat → RR)) × (Bool × RR)
def qvR (q : Par) : RR := q.1
def qvb (q : Par) : Nat → Nat := q.2.1
def qvs (q : Par) : Nat := q.2.2.1
def qvf (q : Par) : Int := q.2.2.2.1
def qva (q : Par) : Nat := q.2.2.2.2.1.1
def qvx (q : Par) : Nat := q.2.2.2.2.1.2.1
def qvp (q : Par) : Nat → RR := q.2.2.2.2.1.2.2
def qvk (q : Par) : Bool := q.2.2.2.2.2.1
def qvK (q : Par) : RR := q.2.2.2.2.2.2
def qwR (q : Par) (R : RR) : Par := (R, q.2)
def qw0 (q : Par) : Par := (q.1, q.2.1, 0, q.2.2.2)
/-- what is known of likeness is right as far as it isn't stale -/
def SK (R : RR) (G : GH) : Prop := ∃ t : Nat, t ≤ 3 ∧ G 0 0 12 = zI t ∧ (t ≤ 2 → KN R (G 6)) ∧ (t ≤ 1 → KG R (G 6)) ∧ (t = 0 → KJ R (G 6))
def IC (q : Par) (G : GH) : Prop := VR 12 (qvR q) ∧ CR (qvR q) (G 8) ∧ SK (qvR q) G ∧ (TB (qvb q) (G 1 1) ∧ G 1 0 1 = zI (qvs q) ∧ qvs q ≤ 700) ∧ G 0 0 11 = zI (qvf q) ∧ RI (qva q) (qvx q) (qvp q) G ∧ (qvk q = true ↔ G 0 0 10 ≠ 0) ∧ (qvk q = true → VR 12 (qvK q) ∧ CR (qvK q) (G 11))
def IR (q : Par) (G : GH) : Prop := MR (qvR q) (G 24 1) ∧ (G 24 0 7 ≠ 0 → LT (qvR q) (G 24)) ∧ (MB (qvb q) (G 24 32) ∧ G 24 0 32 = zI (qvs q)) ∧ G 24 0 40 = zI (qvf q) ∧ (G 24 0 4 = zI (qva q) ∧ PS (qva q) (qvp q) (G 24 4)) ∧ (qvk q = true ↔ G 24 0 6 ≠ 0) ∧ (qvk q = true → MR (qvK q) (G 24 3))
def IRt (q : Par) (G : GH) : Prop := ∃ R'', eqT (qvR q) R'' ∧ IR (qwR q R'') G
def Inv (G : GH) : Prop := ∃ q, IC q G ∧ IR q G
section
variable {q : Par} {G G' : GH} {W : Nat → Nat → Nat → Prop}
theorem SK.cg {R : RR} (h : SK R G) (e6 : G' 6 = G 6) (e0 : G' 0 0 12 = G 0 0 12) : SK R G' := by
  unfold SK
  rw [e6, e0]
  exact h
theorem RI.cg {a nx : Nat} {Rp : Nat → RR} (h : RI a nx Rp G) (e : ∀ x, x = 4 ∨ 12 ≤ x ∧ x ≤ 23 → G' x = G x) : RI a nx Rp G' := by
  obtain ⟨h0, h1, h2, h3⟩ := h
  refine ⟨h0, by rw [e 4 (by omega)]; exact h1, by rw [e 4 (by omega)]; exact h2, fun i hi => ?_⟩
  have : slo a nx i < 12 := Nat.mod_lt _ (by omega)
  rw [e 4 (by omega), e (12 + slo a nx i) (by omega)]
  exact h3 i hi
theorem IC.fr (h : IC q G) (ag : Ag W G G') (hw : ∀ x c j, W x c j → x = 2 ∨ x = 3 ∨ x = 5 ∨ x = 7 ∨ x = 9 ∨ x = 10 ∨ x = 24 ∨ x = 25 ∨ x = 1 ∧ c = 0 ∧ j ≠ 1) : IC q G' := by
  have e : ∀ x, x = 0 ∨ x = 4 ∨ x = 6 ∨ x = 8 ∨ x = 11 ∨ 12 ≤ x ∧ x ≤ 23 → G' x = G x := fun x hx => ag.ob x (fun c j z => by have := hw x c j z; omega)
  have e11 : G' 1 1 = G 1 1 := ag.ce 1 1 (fun j z => by have := hw 1 1 j z; omega)
  have e101 : G' 1 0 1 = G 1 0 1 := ag 1 0 1 (fun z => by have := hw 1 0 1 z; omega)
  obtain ⟨h1, h2, h3, h4, h5, h6, h7, h8⟩ := h
  refine ⟨h1, by rw [e 8 (by omega)]; exact h2, h3.cg (e 6 (by omega)) (by rw [e 0 (by omega)]), ?_, by rw [e 0 (by omega)]; exact h5, h6.cg (fun x hx => e x (by omega)), by rw [e 0 (by omega)]; exact h7, by rw [e 11 (by omega)]; exact h8⟩
  rw [e11, e101]
  exact h4
theorem IR.cg (h : IR q G) (e : G' 24 = G 24) : IR q G' := by
  unfold IR
  rw [e]
  exact h
theorem IC.T {R'' : RR} (h : IC q G) (ht : eqT (qvR q) R'') : IC (qwR q R'') G := by
  obtain ⟨h1, h2, h3, h4⟩ := h
  have hA := ht.A h1
  refine ⟨ht.V h1, ht.C h1 h2, ?_, h4⟩
  obtain ⟨t, t1, t2, t3, t4, t5⟩ := h3
  exact ⟨t, t1, t2, fun z => hA.KN (t3 z), fun z => hA.KG (t4 z), fun z => hA.KJ (t5 z)⟩
theorem IR.t (h : IR q G) : IRt q G := ⟨qvR q, eqT.rf _, h⟩
theorem IC.inv (h : IC q G) (h2 : IRt q G) : Inv G := by
  obtain ⟨R'', ht, hr⟩ := h2
  exact ⟨_, h.T ht, hr⟩
theorem IC.V (h : IC q G) : VR 12 (qvR q) := h.1
theorem IC.C (h : IC q G) : CR (qvR q) (G 8) := h.2.1
theorem IC.S (h : IC q G) : SK (qvR q) G := h.2.2.1
theorem IC.B (h : IC q G) : TB (qvb q) (G 1 1) := h.2.2.2.1.1
theorem IC.s (h : IC q G) : G 1 0 1 = zI (qvs q) := h.2.2.2.1.2.1
theorem IC.s7 (h : IC q G) : qvs q ≤ 700 := h.2.2.2.1.2.2
theorem IC.f (h : IC q G) : G 0 0 11 = zI (qvf q) := h.2.2.2.2.1
theorem IC.R (h : IC q G) : RI (qva q) (qvx q) (qvp q) G := h.2.2.2.2.2.1
theorem IC.k (h : IC q G) : qvk q = true ↔ G 0 0 10 ≠ 0 := h.2.2.2.2.2.2.1
theorem IC.K (h : IC q G) : qvk q = true → VR 12 (qvK q) ∧ CR (qvK q) (G 11) := h.2.2.2.2.2.2.2
theorem IR.M (h : IR q G) : MR (qvR q) (G 24 1) := h.1
theorem IR.L (h : IR q G) : G 24 0 7 ≠ 0 → LT (qvR q) (G 24) := h.2.1
theorem IR.B (h : IR q G) : MB (qvb q) (G 24 32) := h.2.2.1.1
theorem IR.s (h : IR q G) : G 24 0 32 = zI (qvs q) := h.2.2.1.2
theorem IR.f (h : IR q G) : G 24 0 40 = zI (qvf q) := h.2.2.2.1
theorem IR.a (h : IR q G) : G 24 0 4 = zI (qva q) := h.2.2.2.2.1.1
theorem IR.P (h : IR q G) : PS (qva q) (qvp q) (G 24 4) := h.2.2.2.2.1.2
theorem IR.k (h : IR q G) : qvk q = true ↔ G 24 0 6 ≠ 0 := h.2.2.2.2.2.1
theorem IR.K (h : IR q G) : qvk q = true → MR (qvK q) (G 24 3) := h.2.2.2.2.2.2
/-- the tables of the reference, and its code, may change -/
theorem IR.fr (h : IR q G) (ag : Ag W G G') (hw : ∀ c j, W 24 c j → (9 ≤ c ∧ c ≤ 24 ∨ c = 28 ∨ c = 30 ∨ c = 0 ∧ (j = 5 ∨ j = 7 ∨ 24 ≤ j ∧ j ≤ 31 ∨ 33 ≤ j ∧ j ≤ 39 ∨ 41 ≤ j))) (hL : G' 24 0 7 ≠ 0 → LT (qvR q) (G' 24)) : IR q G' := by
  have e : ∀ c, c = 1 ∨ c = 3 ∨ c = 4 ∨ c = 32 → G' 24 c = G 24 c := fun c hc => ag.ce 24 c (fun j z => by have := hw c j z; omega)
  have e0 : ∀ j, j = 4 ∨ j = 6 ∨ j = 32 ∨ j = 40 → G' 24 0 j = G 24 0 j := fun j hj => ag 24 0 j (fun z => by have := hw 0 j z; omega)
  obtain ⟨h1, h2, h3, h4, h5, h6, h7⟩ := h
  refine ⟨by rw [e 1 (by omega)]; exact h1, hL, ?_, by rw [e0 40 (by omega)]; exact h4, ?_, by rw [e0 6 (by omega)]; exact h6, by rw [e 3 (by omega)]; exact h7⟩
  · rw [e 32 (by omega), e0 32 (by omega)]
    exact h3
  · rw [e0 4 (by omega), e 4 (by omega)]
    exact h5
/-- a code is set -/
theorem IR.c5 {v : Int32} (h : IR q G) : IR q (gs G 24 0 (upd (G 24 0) 5 v)) := by
  refine h.fr (W := fun x c j => x = 24 ∧ c = 0 ∧ j = 5) ((Ag.rf G).up ⟨rfl, rfl, rfl⟩) (fun c j z => by omega) (fun z => ?_)
  rw [gs_eq, upd_ne (by decide)] at z
  exact (h.L z).cg (fun c hc => by rw [gs_ne (by omega)])
theorem IR.h (h : IR q G) (ag : Ag WH G G') (hL : G' 24 0 7 ≠ 0 → LT (qvR q) (G' 24)) : IR q G' := h.fr ag (fun c j z => by unfold WH at z; omega) hL
def WLk (x c j : Nat) : Prop := x = 6 ∨ x = 0 ∧ c = 0 ∧ j = 12
theorem wI_likeness {post : GH → Prop} (h : IC q G) (hp : ∀ G', Ag WLk G G' → IC q G' → KN (qvR q) (G' 6) → KG (qvR q) (G' 6) → KJ (qvR q) (G' 6) → post G') : wp_X7_likeness post G := by
  have hV := h.V
  obtain ⟨t, t1, t2, t3, t4, t5⟩ := h.S
  have icL : ∀ {G2}, Ag WLk G G2 → G2 0 0 12 = zI 0 → KN (qvR q) (G2 6) → KG (qvR q) (G2 6) → KJ (qvR q) (G2 6) → IC q G2 := fun {G2} ag e0 k1 k2 k3 => by
    have e : ∀ x, x ≠ 6 → x ≠ 0 → G2 x = G x := fun x h1 h2 => ag.ob x (fun c j z => by unfold WLk at z; omega)
    have e00 : ∀ j, j ≠ 12 → G2 0 0 j = G 0 0 j := fun j hj => ag 0 0 j (fun z => by unfold WLk at z; omega)
    obtain ⟨h1, h2, h3, h4, h5, h6, h7, h8⟩ := h
    refine ⟨h1, by rw [e 8 (by omega) (by omega)]; exact h2, ⟨0, by omega, e0, fun _ => k1, fun _ => k2, fun _ => k3⟩, by rw [e 1 (by omega) (by omega)]; exact h4, by rw [e00 11 (by omega)]; exact h5, h6.cg (fun x hx => e x (by omega) (by omega)), by rw [e00 10 (by omega)]; exact h7, by rw [e 11 (by omega) (by omega)]; exact h8⟩
  have j56 : ∀ {G2}, Ag WLk G G2 → KN (qvR q) (G2 6) → KG (qvR q) (G2 6) → KJ (qvR q) (G2 6) → j_X7_likeness_56 post G2 := fun {G2} ag k1 k2 k3 => by
    unfold j_X7_likeness_56
    intro G4 e4
    have k6 : G4 6 = G2 6 := by
      funext c
      rw [e4, gs_ne (by omega)]
    have ag4 : Ag WLk G G4 := by
      rw [e4]
      exact ag.up (Or.inr ⟨rfl, rfl, rfl⟩)
    have e0 : G4 0 0 12 = zI 0 := by
      rw [e4, gs_eq, upd_eq]
      rfl
    rw [← k6] at k1 k2 k3
    exact hp G4 ag4 (icL ag4 e0 k1 k2 k3) k1 k2 k3
  have j38 : ∀ {G2}, Ag WLk G G2 → G2 0 0 12 = zI t → KN (qvR q) (G2 6) → KG (qvR q) (G2 6) → (t = 0 → KJ (qvR q) (G2 6)) → j_X7_likeness_38 post G2 := fun {G2} ag et k1 k2 k3 => by
    unfold j_X7_likeness_38
    rw [et, zl0, zI_eq (by omega)]
    refine br_c (fun w => j56 ag k1 k2 (k3 (by omega))) (fun w => ?_)
    have hC2 : CR (qvR q) (G2 8) := h.C.fr ag (fun c j z => by unfold WLk at z; omega)
    refine wI_judge hV (by omega) hC2 (by decide) k1.n k2 (fun G3 ag3 k3' => ?_)
    have c3 : ∀ c, c ≠ 6 → c ≠ 7 → G3 6 c = G2 6 c := fun c h1 h2 => ag3.ce 6 c (fun j z => by omega)
    refine j56 (ag.wk ag3 (fun x c j z => Or.inl z.1)) ?_ ?_ k3'
    · unfold KN HS
      rw [c3 1 (by decide) (by decide), c3 2 (by decide) (by decide), c3 3 (by decide) (by decide), c3 4 (by decide) (by decide)]
      exact k1
    · unfold KG
      rw [c3 5 (by decide) (by decide)]
      exact k2
  have j19 : ∀ {G2}, Ag WLk G G2 → G2 0 0 12 = zI t → KN (qvR q) (G2 6) → (t ≤ 1 → KG (qvR q) (G2 6)) → (t = 0 → KJ (qvR q) (G2 6)) → j_X7_likeness_19 post G2 := fun {G2} ag et k1 k2 k3 => by
    unfold j_X7_likeness_19
    rw [et, zl2, zI_lt (by omega)]
    refine br_c (fun w => j38 ag et k1 (k2 (by omega)) k3) (fun w => ?_)
    have hC2 : CR (qvR q) (G2 8) := h.C.fr ag (fun c j z => by unfold WLk at z; omega)
    refine wI_learnGoods hV (by omega) hC2 (by decide) (fun G3 ag3 k2' => ?_)
    have c3 : ∀ c, c ≠ 5 → G3 6 c = G2 6 c := fun c h1 => ag3.ce 6 c (fun j z => by unfold W8 at z; omega)
    refine j38 (ag.wk ag3 (fun x c j z => Or.inl z.1)) ?_ ?_ k2' (fun z => by omega)
    · rw [ag3 0 0 12 (fun z => by unfold W8 at z; omega)]
      exact et
    · unfold KN HS
      rw [c3 1 (by decide), c3 2 (by decide), c3 3 (by decide), c3 4 (by decide)]
      exact k1
  unfold wp_X7_likeness
  rw [t2, zl3, zI_eq (by omega)]
  refine br_c (fun w => ?_) (fun w => j19 (Ag.rf G) t2 (t3 (by omega)) t4 t5)
  refine wI_learnNames hV (by omega) h.C (by decide) (fun G3 ag3 k1' => ?_)
  refine j19 (ag3.mo (fun x c j z => Or.inl z.1)) ?_ k1' (fun z => by omega) (fun z => by omega)
  rw [ag3 0 0 12 (by omega)]
  exact t2
end
