/-! ===== copies; groups ===== -/
theorem Ag.cel {W : Nat → Nat → Nat → Prop} {G G' : GH} {o k : Nat} {f : Nat → Int32} (h : Ag W G G') (hw : ∀ j, W o k j) : Ag W G (gs G' o k f) := by
  intro a b j q
  unfold gs
  split
  · rename_i z
    obtain ⟨rfl, rfl⟩ := z
    exact absurd (hw j) q
  · exact h a b j q
section
variable {R : RR} {G : GH} {n o o1 : Nat} {post : GH → Prop}
theorem cp_key {Gi : GH} (c L N : Nat) {x : Int32} (hN : N ≤ L) (hL : L ≤ 1000) (hx : x = zI N) (h1 : Gi o1 c = G o1 c) {Q : GH → Prop} (h : Q (gs Gi o c (va_cpy (G o1 c) (Gi o c) 0 0 N))) :
    (¬ (0 : Int32) < 0 ∧ ¬ (0 : Int32) < 0 ∧ ¬ x < 0 ∧ (0 : Int32).toNatClampNeg + x.toNatClampNeg ≤ L ∧ (0 : Int32).toNatClampNeg + x.toNatClampNeg ≤ L) ∧ (∀ G', G' = gs Gi o c (va_cpy (Gi o1 c) (Gi o c) (0 : Int32).toNatClampNeg (0 : Int32).toNatClampNeg x.toNatClampNeg) → Q G') := by
  subst hx
  have z0 : (0 : Int32).toNatClampNeg = 0 := rfl
  rw [zI_clN (by omega), z0, h1]
  refine ⟨⟨by decide, by decide, by rw [zl0, zI_lt (by omega)]; omega, by omega, by omega⟩, ?_⟩
  rintro _ rfl
  exact h
set_option maxHeartbeats 2000000 in
theorem wI_copyR (hV : VR n R) (hn : n ≤ 13) (hC : CR R (G o1)) (ho : o1 ≠ o) (hp : ∀ G', Ag (fun x _ _ => x = o) G G' → CR R (G' o) → post G') : wp_X4_copy post o o1 G := by
  have h13 := Nat.le_trans hV.mk hn
  unfold wp_X4_copy
  rintro _ rfl _ rfl
  generalize hG2 : gs (gs G o 0 (upd (G o 0) 0 (G o1 0 0))) o 0 (upd (gs G o 0 (upd (G o 0) 0 (G o1 0 0)) o 0) 1 (gs G o 0 (upd (G o 0) 0 (G o1 0 0)) o1 0 1)) = G2
  have a2 : Ag (fun x _ _ => x = o) G G2 := by
    rw [← hG2]
    exact ((Ag.rf G).up rfl).up rfl
  have m2 : G2 o 0 1 = zI (R 1) := by
    rw [← hG2, gs_eq]
    unfold upd
    rw [if_pos rfl, gs_ne (fun z => ho z.1)]
    exact hC.mk
  have l2 : G2 o 0 0 = zI (R 0) := by
    rw [← hG2, gs_eq, gs_eq]
    unfold upd
    rw [if_neg (by decide), if_pos rfl]
    exact hC.ld
  have b2 : ∀ c, G2 o1 c = G o1 c := fun c => by rw [a2.ob o1 (fun _ _ => ho)]
  have hne : ¬ o1 = o := ho
  refine cp_key (G := G) 3 13 (R 1) h13 (by decide) m2 (b2 3) ?_
  generalize hG3 : gs G2 o 3 (va_cpy (G o1 3) (G2 o 3) 0 0 (R 1)) = G3
  have a3 : Ag (fun x _ _ => x = o) G G3 := by rw [← hG3]; exact a2.cel (fun _ => rfl)
  have k3 : ∀ c, c ≠ 3 → G3 o c = G2 o c := fun c h => by rw [← hG3, gs_ne (by omega)]
  have v3 : G3 o 3 = va_cpy (G o1 3) (G2 o 3) 0 0 (R 1) := by rw [← hG3, gs_eq]
  have b3 : ∀ c, G3 o1 c = G o1 c := fun c => by rw [a3.ob o1 (fun _ _ => ho)]
  refine cp_key (G := G) 4 13 (R 1) h13 (by decide) (by rw [k3 0 (by decide)]; exact m2) (b3 4) ?_
  generalize hG4 : gs G3 o 4 (va_cpy (G o1 4) (G3 o 4) 0 0 (R 1)) = G4
  have a4 : Ag (fun x _ _ => x = o) G G4 := by rw [← hG4]; exact a3.cel (fun _ => rfl)
  have k4 : ∀ c, c ≠ 4 → G4 o c = G3 o c := fun c h => by rw [← hG4, gs_ne (by omega)]
  have v4 : G4 o 4 = va_cpy (G o1 4) (G3 o 4) 0 0 (R 1) := by rw [← hG4, gs_eq]
  have b4 : ∀ c, G4 o1 c = G o1 c := fun c => by rw [a4.ob o1 (fun _ _ => ho)]
  have m4 : G4 o 0 1 = zI (R 1) := by rw [k4 0 (by decide), k3 0 (by decide)]; exact m2
  refine cp_key (G := G) 5 13 (R 1) h13 (by decide) m4 (b4 5) ?_
  generalize hG5 : gs G4 o 5 (va_cpy (G o1 5) (G4 o 5) 0 0 (R 1)) = G5
  have a5 : Ag (fun x _ _ => x = o) G G5 := by rw [← hG5]; exact a4.cel (fun _ => rfl)
  have k5 : ∀ c, c ≠ 5 → G5 o c = G4 o c := fun c h => by rw [← hG5, gs_ne (by omega)]
  have v5 : G5 o 5 = va_cpy (G o1 5) (G4 o 5) 0 0 (R 1) := by rw [← hG5, gs_eq]
  have b5 : ∀ c, G5 o1 c = G o1 c := fun c => by rw [a5.ob o1 (fun _ _ => ho)]
  have m5 : G5 o 0 1 = zI (R 1) := by rw [k5 0 (by decide)]; exact m4
  refine cp_key (G := G) 6 130 (10 * R 1) (by omega) (by decide) (by rw [m5, zl10, zI_mul]; exact zI_cg (by omega)) (b5 6) ?_
  generalize hG6 : gs G5 o 6 (va_cpy (G o1 6) (G5 o 6) 0 0 (10 * R 1)) = G6
  have a6 : Ag (fun x _ _ => x = o) G G6 := by rw [← hG6]; exact a5.cel (fun _ => rfl)
  have k6 : ∀ c, c ≠ 6 → G6 o c = G5 o c := fun c h => by rw [← hG6, gs_ne (by omega)]
  have v6 : G6 o 6 = va_cpy (G o1 6) (G5 o 6) 0 0 (10 * R 1) := by rw [← hG6, gs_eq]
  have b6 : ∀ c, G6 o1 c = G o1 c := fun c => by rw [a6.ob o1 (fun _ _ => ho)]
  have m6 : G6 o 0 1 = zI (R 1) := by rw [k6 0 (by decide)]; exact m5
  refine cp_key (G := G) 7 13 (R 1) h13 (by decide) m6 (b6 7) ?_
  generalize hG7 : gs G6 o 7 (va_cpy (G o1 7) (G6 o 7) 0 0 (R 1)) = G7
  have a7 : Ag (fun x _ _ => x = o) G G7 := by rw [← hG7]; exact a6.cel (fun _ => rfl)
  have k7 : ∀ c, c ≠ 7 → G7 o c = G6 o c := fun c h => by rw [← hG7, gs_ne (by omega)]
  have v7 : G7 o 7 = va_cpy (G o1 7) (G6 o 7) 0 0 (R 1) := by rw [← hG7, gs_eq]
  have b7 : ∀ c, G7 o1 c = G o1 c := fun c => by rw [a7.ob o1 (fun _ _ => ho)]
  have m7 : G7 o 0 1 = zI (R 1) := by rw [k7 0 (by decide)]; exact m6
  refine cp_key (G := G) 8 468 (36 * R 1) (by omega) (by decide) (by rw [m7, zl36, zI_mul]; exact zI_cg (by omega)) (b7 8) ?_
  generalize hG8 : gs G7 o 8 (va_cpy (G o1 8) (G7 o 8) 0 0 (36 * R 1)) = G8
  have a8 : Ag (fun x _ _ => x = o) G G8 := by rw [← hG8]; exact a7.cel (fun _ => rfl)
  have k8 : ∀ c, c ≠ 8 → G8 o c = G7 o c := fun c h => by rw [← hG8, gs_ne (by omega)]
  have v8 : G8 o 8 = va_cpy (G o1 8) (G7 o 8) 0 0 (36 * R 1) := by rw [← hG8, gs_eq]
  have b8 : ∀ c, G8 o1 c = G o1 c := fun c => by rw [a8.ob o1 (fun _ _ => ho)]
  have m8 : G8 o 0 1 = zI (R 1) := by rw [k8 0 (by decide)]; exact m7
  refine cp_key (G := G) 9 13 (R 1) h13 (by decide) m8 (b8 9) ?_
  generalize hG9 : gs G8 o 9 (va_cpy (G o1 9) (G8 o 9) 0 0 (R 1)) = G9
  have a9 : Ag (fun x _ _ => x = o) G G9 := by rw [← hG9]; exact a8.cel (fun _ => rfl)
  have k9 : ∀ c, c ≠ 9 → G9 o c = G8 o c := fun c h => by rw [← hG9, gs_ne (by omega)]
  have v9 : G9 o 9 = va_cpy (G o1 9) (G8 o 9) 0 0 (R 1) := by rw [← hG9, gs_eq]
  have b9 : ∀ c, G9 o1 c = G o1 c := fun c => by rw [a9.ob o1 (fun _ _ => ho)]
  refine cp_key (G := G) 10 10 10 (by omega) (by decide) rfl (b9 10) ?_
  generalize hG10 : gs G9 o 10 (va_cpy (G o1 10) (G9 o 10) 0 0 10) = G10
  have a10 : Ag (fun x _ _ => x = o) G G10 := by rw [← hG10]; exact a9.cel (fun _ => rfl)
  have k10 : ∀ c, c ≠ 10 → G10 o c = G9 o c := fun c h => by rw [← hG10, gs_ne (by omega)]
  have v10 : G10 o 10 = va_cpy (G o1 10) (G9 o 10) 0 0 10 := by rw [← hG10, gs_eq]
  have b10 : ∀ c, G10 o1 c = G o1 c := fun c => by rw [a10.ob o1 (fun _ _ => ho)]
  refine cp_key (G := G) 11 6 6 (by omega) (by decide) rfl (b10 11) ?_
  have va : ∀ (f g : Nat → Int32) (N j : Nat), j < N → va_cpy f g 0 0 N j = f j := by
    intro f g N j hj
    unfold va_cpy
    rw [if_pos (by omega)]
    congr 1
    omega
  refine hp _ (a10.cel (fun _ => rfl)) ⟨?_, ?_, fun c hc => ?_, fun w hw => ?_, fun m hm => ⟨?_, ?_, ?_, ?_, ?_, fun k hk => ?_, fun k j hk hj => ?_⟩⟩
  · rw [gs_ne (by omega), k10 0 (by decide), k9 0 (by decide), k8 0 (by decide), k7 0 (by decide), k6 0 (by decide), k5 0 (by decide), k4 0 (by decide), k3 0 (by decide)]
    exact l2
  · rw [gs_ne (by omega), k10 0 (by decide), k9 0 (by decide)]
    exact m8
  · rw [gs_ne (by omega), v10, va _ _ _ _ hc]
    exact hC.nb hc
  · rw [gs_eq, va _ _ _ _ hw]
    exact hC.rl hw
  · rw [gs_ne (by omega), k10 3 (by decide), k9 3 (by decide), k8 3 (by decide), k7 3 (by decide), k6 3 (by decide), k5 3 (by decide), k4 3 (by decide), v3, va _ _ _ _ hm]
    exact hC.fl hm
  · rw [gs_ne (by omega), k10 4 (by decide), k9 4 (by decide), k8 4 (by decide), k7 4 (by decide), k6 4 (by decide), k5 4 (by decide), v4, va _ _ _ _ hm]
    exact hC.gd hm
  · rw [gs_ne (by omega), k10 5 (by decide), k9 5 (by decide), k8 5 (by decide), k7 5 (by decide), k6 5 (by decide), v5, va _ _ _ _ hm]
    exact hC.ln hm
  · rw [gs_ne (by omega), k10 7 (by decide), k9 7 (by decide), k8 7 (by decide), v7, va _ _ _ _ hm]
    exact hC.uc hm
  · rw [gs_ne (by omega), k10 9 (by decide), v9, va _ _ _ _ hm]
    exact hC.cn hm
  · have := hV.ln hm
    rw [gs_ne (by omega), k10 6 (by decide), k9 6 (by decide), k8 6 (by decide), k7 6 (by decide), v6, va _ _ _ _ (by omega)]
    exact hC.lt hm hk
  · have := hV.uc hm
    rw [gs_ne (by omega), k10 8 (by decide), k9 8 (by decide), v8, va _ _ _ _ (by omega)]
    exact hC.us hm hk hj
set_option maxHeartbeats 2000000 in
theorem wI_copyL (ho : o1 ≠ o) (hp : ∀ G', Ag (fun x c _ => x = o ∧ 1 ≤ c ∧ c ≤ 7) G G' → ((∀ j, j < 260 → G' o 1 j = G o1 1 j) ∧ (∀ j, j < 13 → G' o 2 j = G o1 2 j) ∧ (∀ j, j < 169 → G' o 3 j = G o1 3 j) ∧ (∀ j, j < 169 → G' o 4 j = G o1 4 j) ∧ (∀ j, j < 169 → G' o 5 j = G o1 5 j) ∧ (∀ j, j < 13 → G' o 6 j = G o1 6 j) ∧ (∀ j, j < 13 → G' o 7 j = G o1 7 j)) → post G') : wp_X1_copy post o o1 G := by
  have va : ∀ (f g : Nat → Int32) (N j : Nat), j < N → va_cpy f g 0 0 N j = f j := by
    intro f g N j hj
    unfold va_cpy
    rw [if_pos (by omega)]
    congr 1
    omega
  unfold wp_X1_copy
  refine cp_key (G := G) 1 260 260 (by omega) (by decide) rfl rfl ?_
  generalize hG1 : gs G o 1 (va_cpy (G o1 1) (G o 1) 0 0 260) = G1
  have a1 : Ag (fun x c _ => x = o ∧ 1 ≤ c ∧ c ≤ 7) G G1 := by rw [← hG1]; exact (Ag.rf G).cel (fun _ => ⟨rfl, by decide, by decide⟩)
  have k1 : ∀ c, c ≠ 1 → G1 o c = G o c := fun c h => by rw [← hG1, gs_ne (by omega)]
  have v1 : G1 o 1 = va_cpy (G o1 1) (G o 1) 0 0 260 := by rw [← hG1, gs_eq]
  refine cp_key (G := G) 2 13 13 (by omega) (by decide) rfl (by rw [a1.ob o1 (fun _ _ w => ho w.1)]) ?_
  generalize hG2 : gs G1 o 2 (va_cpy (G o1 2) (G1 o 2) 0 0 13) = G2
  have a2 : Ag (fun x c _ => x = o ∧ 1 ≤ c ∧ c ≤ 7) G G2 := by rw [← hG2]; exact a1.cel (fun _ => ⟨rfl, by decide, by decide⟩)
  have k2 : ∀ c, c ≠ 2 → G2 o c = G1 o c := fun c h => by rw [← hG2, gs_ne (by omega)]
  have v2 : G2 o 2 = va_cpy (G o1 2) (G1 o 2) 0 0 13 := by rw [← hG2, gs_eq]
  refine cp_key (G := G) 3 169 169 (by omega) (by decide) rfl (by rw [a2.ob o1 (fun _ _ w => ho w.1)]) ?_
  generalize hG3 : gs G2 o 3 (va_cpy (G o1 3) (G2 o 3) 0 0 169) = G3
  have a3 : Ag (fun x c _ => x = o ∧ 1 ≤ c ∧ c ≤ 7) G G3 := by rw [← hG3]; exact a2.cel (fun _ => ⟨rfl, by decide, by decide⟩)
  have k3 : ∀ c, c ≠ 3 → G3 o c = G2 o c := fun c h => by rw [← hG3, gs_ne (by omega)]
  have v3 : G3 o 3 = va_cpy (G o1 3) (G2 o 3) 0 0 169 := by rw [← hG3, gs_eq]
  refine cp_key (G := G) 4 169 169 (by omega) (by decide) rfl (by rw [a3.ob o1 (fun _ _ w => ho w.1)]) ?_
  generalize hG4 : gs G3 o 4 (va_cpy (G o1 4) (G3 o 4) 0 0 169) = G4
  have a4 : Ag (fun x c _ => x = o ∧ 1 ≤ c ∧ c ≤ 7) G G4 := by rw [← hG4]; exact a3.cel (fun _ => ⟨rfl, by decide, by decide⟩)
  have k4 : ∀ c, c ≠ 4 → G4 o c = G3 o c := fun c h => by rw [← hG4, gs_ne (by omega)]
  have v4 : G4 o 4 = va_cpy (G o1 4) (G3 o 4) 0 0 169 := by rw [← hG4, gs_eq]
  refine cp_key (G := G) 5 169 169 (by omega) (by decide) rfl (by rw [a4.ob o1 (fun _ _ w => ho w.1)]) ?_
  generalize hG5 : gs G4 o 5 (va_cpy (G o1 5) (G4 o 5) 0 0 169) = G5
  have a5 : Ag (fun x c _ => x = o ∧ 1 ≤ c ∧ c ≤ 7) G G5 := by rw [← hG5]; exact a4.cel (fun _ => ⟨rfl, by decide, by decide⟩)
  have k5 : ∀ c, c ≠ 5 → G5 o c = G4 o c := fun c h => by rw [← hG5, gs_ne (by omega)]
  have v5 : G5 o 5 = va_cpy (G o1 5) (G4 o 5) 0 0 169 := by rw [← hG5, gs_eq]
  refine cp_key (G := G) 6 13 13 (by omega) (by decide) rfl (by rw [a5.ob o1 (fun _ _ w => ho w.1)]) ?_
  generalize hG6 : gs G5 o 6 (va_cpy (G o1 6) (G5 o 6) 0 0 13) = G6
  have a6 : Ag (fun x c _ => x = o ∧ 1 ≤ c ∧ c ≤ 7) G G6 := by rw [← hG6]; exact a5.cel (fun _ => ⟨rfl, by decide, by decide⟩)
  have k6 : ∀ c, c ≠ 6 → G6 o c = G5 o c := fun c h => by rw [← hG6, gs_ne (by omega)]
  have v6 : G6 o 6 = va_cpy (G o1 6) (G5 o 6) 0 0 13 := by rw [← hG6, gs_eq]
  refine cp_key (G := G) 7 13 13 (by omega) (by decide) rfl (by rw [a6.ob o1 (fun _ _ w => ho w.1)]) ?_
  refine hp _ (a6.cel (fun _ => ⟨rfl, by decide, by decide⟩)) ⟨fun j hj => ?_, fun j hj => ?_, fun j hj => ?_, fun j hj => ?_, fun j hj => ?_, fun j hj => ?_, fun j hj => ?_⟩
  · rw [gs_ne (by omega), k6 1 (by decide), k5 1 (by decide), k4 1 (by decide), k3 1 (by decide), k2 1 (by decide), v1, va _ _ _ _ hj]
  · rw [gs_ne (by omega), k6 2 (by decide), k5 2 (by decide), k4 2 (by decide), k3 2 (by decide), v2, va _ _ _ _ hj]
  · rw [gs_ne (by omega), k6 3 (by decide), k5 3 (by decide), k4 3 (by decide), v3, va _ _ _ _ hj]
  · rw [gs_ne (by omega), k6 4 (by decide), k5 4 (by decide), v4, va _ _ _ _ hj]
  · rw [gs_ne (by omega), k6 5 (by decide), v5, va _ _ _ _ hj]
  · rw [gs_ne (by omega), v6, va _ _ _ _ hj]
  · rw [gs_eq, va _ _ _ _ hj]
end
