/-! ===== all halves of a day, in the class ===== -/
def lsI (R : RR) (d m : Nat) : Nat → Int
  | 0 => -1
  | h + 1 => if rfI R d m h ≠ -1 ∧ (lsI R d m h = -1 ∨ rfI R d m h < lsI R d m h) then rfI R d m h else lsI R d m h
theorem rfF_rg {R : RR} {N x : Nat} : ∀ {L pre : List Nat} {H : Nat}, (∀ y, y ∈ pre → y < N) → (∀ y, y ∈ L → y < N) → -1 ≤ rfF R pre H L x ∧ rfF R pre H L x < N
  | [], _, _, _, _ => by
    unfold rfF
    omega
  | m :: L, pre, H, hp, hL => by
    have hL' : ∀ y, y ∈ L → y < N := fun y hy => hL y (List.mem_cons_of_mem _ hy)
    have hp' : ∀ y, y ∈ pre ++ [m] → y < N := fun y hy => by
      rcases List.mem_append.mp hy with h | h
      · exact hp y h
      · rw [List.mem_singleton] at h
        exact h ▸ hL m (List.mem_cons_self ..)
    show -1 ≤ (if agn R H m = 0 then rfF R (pre ++ [m]) (H ||| 2 ^ m) L x else if x = m then fstIn (agn R H m) pre else rfF R (pre ++ [m]) H L x) ∧ (if agn R H m = 0 then rfF R (pre ++ [m]) (H ||| 2 ^ m) L x else if x = m then fstIn (agn R H m) pre else rfF R (pre ++ [m]) H L x) < N
    by_cases q : agn R H m = 0
    · rw [if_pos q]
      exact rfF_rg hp' hL'
    · rw [if_neg q]
      by_cases u : x = m
      · rw [if_pos u]
        exact fstIn_rg hp
      · rw [if_neg u]
        exact rfF_rg hp' hL'
theorem rfI_rg (R : RR) (d m h : Nat) : -1 ≤ rfI R d m h ∧ rfI R d m h < R 1 := rfF_rg (fun y hy => by cases hy) (fun y hy => (orL_mem.mp hy).1)
theorem lsI_rg (R : RR) (d m : Nat) : ∀ h, -1 ≤ lsI R d m h ∧ (lsI R d m h = -1 ∨ lsI R d m h < R 1)
  | 0 => ⟨Int.le_refl _, Or.inl rfl⟩
  | h + 1 => by
    have h1 := rfI_rg R d m h
    have h2 := lsI_rg R d m h
    show -1 ≤ (if _ then _ else _) ∧ ((if _ then _ else _) = (-1 : Int) ∨ (if _ then _ else _) < _)
    split
    · omega
    · exact h2
/-- the three rows of a mark, halves below h told -/
def SA (R : RR) (A : Nat → Nat → Int32) (d m h : Nat) : Prop := A 4 m = zI (bset (enB R d m) h) ∧ A 5 m = zI (bset (hoB R d m) h) ∧ A 6 m = zI (lsI R d m h)
section
variable {R : RR} {G : GH} {n o1 o2 day s : Nat} {post : GH → Prop}
set_option maxHeartbeats 1000000 in
theorem wI_noteHalf {m h H : Nat} (h13 : R 1 ≤ 13) (hm : m < R 1) (hh : h < 12) (hH : H < 8192) (g7 : G 5 0 7 = zI H) (hb : H.testBit m = hoB R day m h) (g2 : G 5 3 m = zI (rfI R day m h)) (hen : enB R day m h = true) (hS : SA R (G 5) day m h) (hp : ∀ G', Ag (fun x c j => x = 5 ∧ 4 ≤ c ∧ c ≤ 6 ∧ j = m) G G' → SA R (G' 5) day m (h + 1) → post G') : wp_X5_noteHalf post (zI m) (zI h) G := by
  have hr := rfI_rg R day m h
  have hl := lsI_rg R day m h
  have hne := rfI_ne (R := R) (d := day) (h := h) hm
  obtain ⟨s3, s4, s5⟩ := hS
  unfold wp_X5_noteHalf
  refine ⟨zI_in (by omega), zI_in (by omega), ?_⟩
  rintro _ rfl
  rw [zI_clN (by omega), s3, zI_bit (by omega), zI_or]
  have e3 : bset (enB R day m) (h + 1) = bset (enB R day m) h ||| 2 ^ h := by
    show bset (enB R day m) h ||| (if enB R day m h = true then 2 ^ h else 0) = _
    rw [if_pos hen]
  rw [← e3]
  have ag1 : Ag (fun x c j => x = 5 ∧ 4 ≤ c ∧ c ≤ 6 ∧ j = m) G (gs G 5 4 (upd (G 5 4) m (zI (bset (enB R day m) (h + 1))))) := (Ag.rf G).up ⟨rfl, by omega, by omega, rfl⟩
  generalize hG1 : gs G 5 4 (upd (G 5 4) m (zI (bset (enB R day m) (h + 1)))) = G1 at ag1
  have k1 : ∀ c, c ≠ 4 → G1 5 c = G 5 c := fun c hc => by rw [← hG1, gs_ne (by omega)]
  have v3 : G1 5 4 m = zI (bset (enB R day m) (h + 1)) := by
    rw [← hG1, gs_eq]
    unfold upd
    rw [if_pos rfl]
  rw [k1 0 (by omega), g7, wI_isIn (by omega) (by omega), hb]
  have e4 : ∀ b, hoB R day m h = b → bset (hoB R day m) (h + 1) = bset (hoB R day m) h ||| (if b = true then 2 ^ h else 0) := fun b hb2 => by
    show bset (hoB R day m) h ||| (if hoB R day m h = true then 2 ^ h else 0) = _
    rw [hb2]
  cases z : hoB R day m h
  · refine br_bf rfl ⟨zI_in (by omega), ?_⟩
    have hrn : rfI R day m h ≠ -1 := hne.mpr ⟨hen, z⟩
    have e4' := e4 false z
    rw [if_neg (by decide), Nat.or_zero] at e4'
    have put : (lsI R day m h = -1 ∨ rfI R day m h < lsI R day m h) → j_X5_noteHalf_63 post (zI m) G1 := by
      intro hx
      unfold j_X5_noteHalf_63
      refine ⟨zI_in (by omega), zI_in (by omega), ?_⟩
      rintro _ rfl
      rw [zI_clN (by omega)]
      refine hp _ (ag1.up ⟨rfl, by omega, by omega, rfl⟩) ⟨?_, ?_, ?_⟩
      · rw [gs_ne (by decide)]
        exact v3
      · rw [gs_ne (by decide), k1 5 (by omega), e4']
        exact s4
      · rw [gs_eq]
        unfold upd
        rw [if_pos rfl, k1 3 (by omega), g2]
        show _ = zI (if _ then _ else _)
        rw [if_pos ⟨hrn, hx⟩]
    rw [k1 6 (by omega), s5]
    refine br_c (fun q => ?_) (fun q => ?_)
    · rw [zl1, zI_neg, zI_eq (by omega)] at q
      exact put (Or.inl q)
    · rw [zl1, zI_neg, zI_eq (by omega)] at q
      refine ⟨zI_in (by omega), zI_in (by omega), ?_⟩
      rw [k1 3 (by omega), g2, zI_le (by omega)]
      refine br_c (fun q2 => ?_) (fun q2 => put (Or.inr (by omega)))
      refine hp G1 ag1 ⟨v3, ?_, ?_⟩
      · rw [k1 5 (by omega), e4']
        exact s4
      · rw [k1 6 (by omega), s5]
        show _ = zI (if _ then _ else _)
        rw [if_neg (by omega)]
  · refine br_bt rfl ⟨zI_in (by omega), zI_in (by omega), ?_⟩
    have hrn : rfI R day m h = -1 := by
      by_cases w : rfI R day m h = -1
      · exact w
      · have := (hne.mp w).2
        rw [z] at this
        cases this
    have e4' := e4 true z
    rw [if_pos rfl] at e4'
    rintro _ rfl
    have w4 : G1 5 5 m = zI (bset (hoB R day m) h) := by
      rw [k1 5 (by omega)]
      exact s4
    rw [w4, zI_or, ← e4']
    refine hp _ (ag1.up ⟨rfl, by omega, by omega, rfl⟩) ⟨?_, ?_, ?_⟩
    · rw [gs_ne (by decide)]
      exact v3
    · rw [gs_eq]
      unfold upd
      rw [if_pos rfl]
    · rw [gs_ne (by decide), k1 6 (by omega), s5]
      show _ = zI (if _ then _ else _)
      rw [if_neg (fun w => w.1 hrn)]
end
