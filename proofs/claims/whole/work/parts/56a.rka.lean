/-! ===== all halves ranked ===== -/
def RKA (A : Nat → Nat → Int32) (R : RR) (day : Nat) : Prop := ∀ h, h < 2 * R 0 → RKd A h (orL R h day)
theorem RKA.fr {R : RR} {G G' : GH} {day : Nat} (hr : RKA (G 5) R day) (h13 : R 1 ≤ 13) (ag : Ag WSt G G') : RKA (G' 5) R day := fun h hh => (hr h hh).fr (Nat.le_trans (orS_len _ _ _ _ _) h13) ag (fun j _ _ w => by unfold WSt at w; omega) (fun w => by unfold WSt at w; omega)
theorem RKA.cg {R R' : RR} {A : Nat → Nat → Int32} {day : Nat} (hr : RKA A R day) (e0 : R 0 = R' 0) (e1 : R 1 = R' 1) (hp : ∀ x h, x < R 1 → pri R x h day = pri R' x h day) : RKA A R' day := by
  intro h hh
  rw [← e0] at hh
  have e : orL R' h day = orL R h day := by
    unfold orL
    rw [← e1]
    exact (orS_g (R 1) (fun x hx _ => hp x h hx)).symm
  rw [e]
  exact hr h hh
theorem RKA.of {R : RR} {A : Nat → Nat → Int32} {day : Nat} (hr : ∀ h, h < 2 * R 0 → RKd A h (orS R h day (2 ^ R 1 - 1).testBit (R 1))) : RKA A R day := by
  intro h hh
  have := hr h hh
  rw [orS_all] at this
  exact this
