/-- a new register, place by place -/
def rI : Nat → Nat → Int32
  | 0, 0 => 1
  | 11, j => (sTb 0).getD j 0
  | _, _ => 0
/-- a new register is the i-th of acts -/
def gNew (G : GH) (i : Nat) : GH := fun o k => if o = 12 + i then rI k else if o = 4 ∧ k = 1 then upd (G 4 1) i 1 else G o k
def wp_X0_keep (post : GH → Prop) (o1 : Nat) (G : GH) : Prop :=
  vp_in (G 4 0 1) 12 ∧ ∀ G1 : GH, G1 = (if G 4 1 (G 4 0 1).toNatClampNeg = 0 then gNew G (G 4 0 1).toNatClampNeg else G) →
    wp_X4_copy (fun (G2 : GH) => ∀ G3 : GH, G3 = gs G2 4 0 (upd (G2 4 0) 1 ((G2 4 0 1 + (1 : Int32)) - (G2 4 0 1 + (1 : Int32)) / (12 : Int32) * (12 : Int32))) → ∀ G4 : GH, G4 = gs G3 4 0 (upd (G3 4 0) 2 (imin (G3 4 0 2 + (1 : Int32)) (12 : Int32))) → post G4) (12 + (G 4 0 1).toNatClampNeg) o1 G1
def wp_X0_takeBack (post : GH → Prop) (o1 : Nat) (G : GH) : Prop :=
  ∀ x : Int32, x = (G 4 0 1 + (12 : Int32) - (1 : Int32)) - (G 4 0 1 + (12 : Int32) - (1 : Int32)) / (12 : Int32) * (12 : Int32) →
    ((G 4 0 2 ≤ 0 → post G) ∧ (¬ G 4 0 2 ≤ 0 → vp_in x 12 ∧ ((G 4 1 x.toNatClampNeg = 0 → post G) ∧ (¬ G 4 1 x.toNatClampNeg = 0 →
      wp_X4_copy (fun (G2 : GH) => ∀ G3 : GH, G3 = gs G2 4 0 (upd (G2 4 0) 1 x) → ∀ G4 : GH, G4 = gs G3 4 0 (upd (G3 4 0) 2 (G3 4 0 2 - (1 : Int32))) → post G4) o1 (12 + x.toNatClampNeg) G))))
