/-! ===== what is kept ahead of acts, images: in the class ===== -/
def gKp (G : GH) : GH := fun o k => if o = 11 then rI k else if o = 0 ∧ k = 0 then upd (G 0 0) 10 1 else G o k
def wp_X7_image (post : GH → Prop) (G : GH) : Prop := ∀ G1 : GH, G1 = (if G 0 0 10 = 0 then gKp G else G) → wp_X4_copy (fun (G2 : GH) => post G2) 11 8 G1
def wp_X7_back (post : Bool → GH → Prop) (G : GH) : Prop := ((G 0 0 10 = 0 → post false G) ∧ (¬ G 0 0 10 = 0 → wp_X4_copy (fun (G1 : GH) => wp_X0_clear (fun (G2 : GH) => ∀ G3 : GH, G3 = gs G2 0 0 (upd (G2 0 0) 12 (3 : Int32)) → post true G3) G1) 8 11 G))
def slo (a nx i : Nat) : Nat := (nx + 12 - a + i) % 12
def RI (a nx : Nat) (Rp : Nat → RR) (G : GH) : Prop := (nx < 12 ∧ a ≤ 12) ∧ G 4 0 1 = zI nx ∧ G 4 0 2 = zI a ∧ ∀ i, i < a → G 4 1 (slo a nx i) ≠ 0 ∧ CR (Rp i) (G (12 + slo a nx i)) ∧ VR 12 (Rp i)
def WKc (x _c _j : Nat) : Prop := x = 4 ∨ 12 ≤ x ∧ x ≤ 23
section
variable {R : RR} {G : GH} {a nx : Nat} {Rp : Nat → RR} {post : GH → Prop}
theorem mod12 {x : Nat} (h : x ≤ 40) : zI (x : Int) - zI (x : Int) / (12 : Int32) * (12 : Int32) = zI ((x % 12 : Nat) : Int) := by
  rw [zl12, zI_div (by omega), zI_mul, zI_sub]
  exact zI_cg (by omega)
theorem wI_keep (hV : VR 12 R) (hC : CR R (G 8)) (hR : RI a nx Rp G) (hp : ∀ G', Ag WKc G G' → RI (kpA a) ((nx + 1) % 12) (kpP a Rp R) G' → post G') : wp_X0_keep post 8 G := by
  obtain ⟨⟨hnx, ha⟩, h1, h2, hs⟩ := hR
  have slt : ∀ b y i, slo b y i < 12 := fun b y i => Nat.mod_lt _ (by omega)
  unfold wp_X0_keep
  rw [h1, zI_clN (by omega)]
  refine ⟨zI_in (by omega), ?_⟩
  intro G1 e1
  have k8 : G1 8 = G 8 := by
    rw [e1]
    split
    · funext k
      unfold gNew
      rw [if_neg (by omega), if_neg (by omega)]
    · rfl
  have k40 : G1 4 0 = G 4 0 := by
    rw [e1]
    split
    · unfold gNew
      rw [if_neg (by omega), if_neg (by omega)]
    · rfl
  have kb : ∀ t, t < 12 → t ≠ nx → G1 (12 + t) = G (12 + t) := fun t ht hne => by
    rw [e1]
    split
    · funext k
      unfold gNew
      rw [if_neg (by omega), if_neg (by omega)]
    · rfl
  have k41 : ∀ j, (j = nx ∨ G 4 1 j ≠ 0) → G1 4 1 j ≠ 0 := fun j hj => by
    rw [e1]
    split
    · rename_i z
      unfold gNew
      rw [if_neg (by omega), if_pos ⟨rfl, rfl⟩]
      by_cases w : j = nx
      · rw [w, upd_eq]
        decide
      · rw [upd_ne w]
        exact hj.resolve_left w
    · rename_i z
      by_cases w : j = nx
      · rw [w]
        exact z
      · exact hj.resolve_left w
  have a1 : Ag WKc G G1 := by
    intro x k j hw
    rw [e1]
    split
    · unfold gNew
      rw [if_neg (fun z => hw (Or.inr (by omega))), if_neg (fun z => hw (Or.inl z.1))]
    · rfl
  clear e1
  refine wI_copyR hV (by omega) (by rw [k8]; exact hC) (by omega) (fun G2 ag2 hC2 => ?_)
  intro G3 e3 G4 e4
  have q1 : G2 4 0 1 = zI nx := by
    rw [ag2 4 0 1 (by omega), k40]
    exact h1
  have q2 : G2 4 0 2 = zI a := by
    rw [ag2 4 0 2 (by omega), k40]
    exact h2
  rw [q1, show zI (nx : Int) + (1 : Int32) = zI ((nx + 1 : Nat) : Int) from zI_add _ 1, mod12 (by omega)] at e3
  have p1 : G4 4 0 1 = zI (((nx + 1) % 12 : Nat) : Int) := by rw [e4, gs_eq, upd_ne (by decide), e3, gs_eq, upd_eq]
  have p2 : G4 4 0 2 = zI (kpA a) := by
    have r2 : G3 4 0 2 = zI a := by
      rw [e3, gs_eq, upd_ne (by decide)]
      exact q2
    rw [e4, gs_eq, upd_eq, r2, zl1, zI_add, zl12, zI_min (by omega)]
    unfold kpA
    apply zI_cg
    split <;> omega
  have p41 : G4 4 1 = G2 4 1 := by rw [e4, gs_ne (by decide), e3, gs_ne (by decide)]
  have pb : ∀ t, G4 (12 + t) = G2 (12 + t) := fun t => by
    funext k
    rw [e4, gs_ne (by omega), e3, gs_ne (by omega)]
  have p412 : ∀ j, (j = nx ∨ G 4 1 j ≠ 0) → G4 4 1 j ≠ 0 := fun j hj => by
    rw [p41, ag2 4 1 j (by omega)]
    exact k41 j hj
  have pnx : CR R (G4 (12 + nx)) := by
    rw [pb]
    exact hC2
  have pot : ∀ t, t < 12 → t ≠ nx → G4 (12 + t) = G (12 + t) := fun t ht hne => by
    rw [pb, ag2.ob (12 + t) (fun c j z => by omega), kb t ht hne]
  refine hp G4 ?_ ⟨⟨Nat.mod_lt _ (by omega), by unfold kpA; split <;> omega⟩, p1, p2, fun i hi => ?_⟩
  · rw [e4, e3]
    exact ((a1.wk ag2 (fun x c j z => Or.inr (by omega))).up (Or.inl rfl)).up (Or.inl rfl)
  · unfold kpA at hi ⊢
    unfold kpP
    by_cases w : a = 12
    · rw [if_pos w] at hi ⊢
      rw [if_pos w]
      by_cases u : i = 11
      · rw [if_pos u]
        have es : slo 12 ((nx + 1) % 12) i = nx := by
          unfold slo
          omega
        rw [es]
        exact ⟨p412 nx (Or.inl rfl), pnx, hV⟩
      · rw [if_neg u]
        have es : slo 12 ((nx + 1) % 12) i = slo a nx (i + 1) := by
          unfold slo
          omega
        have hne : slo a nx (i + 1) ≠ nx := by
          unfold slo
          omega
        obtain ⟨x1, x2, x3⟩ := hs (i + 1) (by omega)
        rw [es, pot _ (slt _ _ _) hne]
        exact ⟨p412 _ (Or.inr x1), x2, x3⟩
    · rw [if_neg w] at hi ⊢
      rw [if_neg w]
      by_cases u : i = a
      · rw [if_pos u]
        have es : slo (a + 1) ((nx + 1) % 12) i = nx := by
          unfold slo
          omega
        rw [es]
        exact ⟨p412 nx (Or.inl rfl), pnx, hV⟩
      · rw [if_neg u]
        have es : slo (a + 1) ((nx + 1) % 12) i = slo a nx i := by
          unfold slo
          omega
        have hne : slo a nx i ≠ nx := by
          unfold slo
          omega
        obtain ⟨x1, x2, x3⟩ := hs i (by omega)
        rw [es, pot _ (slt _ _ _) hne]
        exact ⟨p412 _ (Or.inr x1), x2, x3⟩
theorem wI_takeBack {b : Nat} (hR : RI (b + 1) nx Rp G) (hp : ∀ G', Ag (fun x _ _ => x = 4 ∨ x = 8) G G' → CR (Rp b) (G' 8) → RI b ((nx + 11) % 12) Rp G' → post G') : wp_X0_takeBack post 8 G := by
  obtain ⟨⟨hnx, ha⟩, h1, h2, hs⟩ := hR
  have slt : ∀ b y i, slo b y i < 12 := fun b y i => Nat.mod_lt _ (by omega)
  unfold wp_X0_takeBack
  intro x ex
  rw [h1, zl12, zI_add, zl1, zI_sub, show ((nx : Int) + 12 - 1) = ((nx + 11 : Nat) : Int) by omega, show (zI 12 : Int32) = (12 : Int32) from rfl, mod12 (by omega)] at ex
  subst ex
  obtain ⟨x1, x2, x3⟩ := hs b (by omega)
  have es : slo (b + 1) nx b = (nx + 11) % 12 := by
    unfold slo
    omega
  rw [es] at x1 x2
  have hlt : (nx + 11) % 12 < 12 := Nat.mod_lt _ (by omega)
  rw [h2]
  refine br_f (by rw [zl0, zI_le (by omega)]; omega) ⟨zI_in (by omega), ?_⟩
  rw [zI_clN (by omega)]
  refine br_f x1 ?_
  refine wI_copyR x3 (by omega) x2 (by omega) (fun G2 ag2 hC2 => ?_)
  intro G3 e3 G4 e4
  have q2 : G3 4 0 2 = zI ((b + 1 : Nat) : Int) := by
    rw [e3, gs_eq, upd_ne (by decide), ag2 4 0 2 (by omega)]
    exact h2
  have p8 : G4 8 = G2 8 := by
    funext k
    rw [e4, gs_ne (by omega), e3, gs_ne (by omega)]
  have p41 : G4 4 1 = G 4 1 := by
    rw [e4, gs_ne (by decide), e3, gs_ne (by decide)]
    exact ag2.ce 4 1 (fun j z => by omega)
  have pb : ∀ t, G4 (12 + t) = G (12 + t) := fun t => by
    have : G4 (12 + t) = G2 (12 + t) := by
      funext k
      rw [e4, gs_ne (by omega), e3, gs_ne (by omega)]
    rw [this]
    exact ag2.ob (12 + t) (fun c j z => by omega)
  refine hp G4 ?_ (by rw [p8]; exact hC2) ⟨⟨hlt, by omega⟩, ?_, ?_, fun i hi => ?_⟩
  · have ag2' : Ag (fun x _ _ => x = 4 ∨ x = 8) G G2 := ag2.mo (fun x c j z => Or.inr z)
    rw [e4, e3]
    exact (ag2'.up (Or.inl rfl)).up (Or.inl rfl)
  · rw [e4, gs_eq, upd_ne (by decide), e3, gs_eq, upd_eq]
  · rw [e4, gs_eq, upd_eq, q2, zl1, zI_sub]
    exact zI_cg (by omega)
  · obtain ⟨y1, y2, y3⟩ := hs i (by omega)
    have ei : slo b ((nx + 11) % 12) i = slo (b + 1) nx i := by
      unfold slo
      omega
    rw [ei, p41, pb]
    exact ⟨y1, y2, y3⟩
theorem wI_image (hV : VR 12 R) (hC : CR R (G 8)) (hp : ∀ G', Ag (fun x c j => x = 11 ∨ x = 0 ∧ c = 0 ∧ j = 10) G G' → G' 0 0 10 ≠ 0 → CR R (G' 11) → post G') : wp_X7_image post G := by
  unfold wp_X7_image
  intro G1 e1
  have k8 : G1 8 = G 8 := by
    rw [e1]
    split
    · funext k
      unfold gKp
      rw [if_neg (by omega), if_neg (by omega)]
    · rfl
  have k10 : G1 0 0 10 ≠ 0 := by
    rw [e1]
    split
    · unfold gKp
      rw [if_neg (by omega), if_pos ⟨rfl, rfl⟩, upd_eq]
      decide
    · rename_i z
      exact z
  have a1 : Ag (fun x c j => x = 11 ∨ x = 0 ∧ c = 0 ∧ j = 10) G G1 := by
    intro x k j hw
    rw [e1]
    split
    · unfold gKp
      rw [if_neg (fun z => hw (Or.inl z))]
      by_cases w : x = 0 ∧ k = 0
      · rw [if_pos w, upd_ne (fun z => hw (Or.inr ⟨w.1, w.2, z⟩)), w.1, w.2]
      · rw [if_neg w]
    · rfl
  refine wI_copyR hV (by omega) (by rw [k8]; exact hC) (by omega) (fun G2 ag2 hC2 => ?_)
  refine hp G2 (a1.wk ag2 (fun x c j z => Or.inl z)) ?_ hC2
  rw [ag2 0 0 10 (by omega)]
  exact k10
theorem wI_back {post : Bool → GH → Prop} (hf : G 0 0 10 = 0 → post false G) (hk : G 0 0 10 ≠ 0 → VR 12 R ∧ CR R (G 11)) (ht : G 0 0 10 ≠ 0 → ∀ G', Ag (fun x c j => x = 8 ∨ x = 4 ∧ c = 0 ∧ j = 2 ∨ x = 0 ∧ c = 0 ∧ j = 12) G G' → CR R (G' 8) → G' 4 0 2 = zI 0 → G' 0 0 12 = zI 3 → post true G') : wp_X7_back post G := by
  unfold wp_X7_back
  refine br_c hf (fun w => ?_)
  obtain ⟨hV, hC⟩ := hk w
  refine wI_copyR hV (by omega) hC (by omega) (fun G1 ag1 hC1 => ?_)
  unfold wp_X0_clear
  intro G2 e2 G3 e3
  have k8 : G3 8 = G1 8 := by
    funext k
    rw [e3, gs_ne (by omega), e2, gs_ne (by omega)]
  refine ht w G3 ?_ (by rw [k8]; exact hC1) ?_ (by rw [e3, gs_eq, upd_eq]; rfl)
  · have ag1' : Ag (fun x c j => x = 8 ∨ x = 4 ∧ c = 0 ∧ j = 2 ∨ x = 0 ∧ c = 0 ∧ j = 12) G G1 := ag1.mo (fun x c j z => Or.inl z)
    rw [e3, e2]
    exact (ag1'.up (Or.inr (Or.inl ⟨rfl, rfl, rfl⟩))).up (Or.inr (Or.inr ⟨rfl, rfl, rfl⟩))
  · rw [e3, gs_ne (by decide), e2, gs_eq, upd_eq]
    rfl
end
