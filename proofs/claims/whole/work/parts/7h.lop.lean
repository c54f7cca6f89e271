theorem dL_law_0 : decode cL_law 0 = .ok (.new 8, 3) := by decide +kernel
theorem dL_law_3 : decode cL_law 3 = .ok (.dup, 1) := by decide +kernel
theorem dL_law_4 : decode cL_law 4 = .ok (.invokespecial 94, 3) := by decide +kernel
theorem dL_law_7 : decode cL_law 7 = .ok (.astore_n 1, 1) := by decide +kernel
theorem dL_law_8 : decode cL_law 8 = .ok (.new 95, 3) := by decide +kernel
theorem dL_law_11 : decode cL_law 11 = .ok (.dup, 1) := by decide +kernel
theorem dL_law_12 : decode cL_law 12 = .ok (.invokespecial 97, 3) := by decide +kernel
theorem dL_law_15 : decode cL_law 15 = .ok (.astore_n 2, 1) := by decide +kernel
theorem dL_law_16 : decode cL_law 16 = .ok (.iconst 1, 1) := by decide +kernel
theorem dL_law_17 : decode cL_law 17 = .ok (.newarray .long, 2) := by decide +kernel
theorem dL_law_19 : decode cL_law 19 = .ok (.astore_n 3, 1) := by decide +kernel
theorem dL_law_20 : decode cL_law 20 = .ok (.iconst 0, 1) := by decide +kernel
theorem dL_law_21 : decode cL_law 21 = .ok (.istore 4, 2) := by decide +kernel
theorem dL_law_23 : decode cL_law 23 = .ok (.iload 4, 2) := by decide +kernel
theorem dL_law_25 : decode cL_law 25 = .ok (.aload_n 0, 1) := by decide +kernel
theorem dL_law_26 : decode cL_law 26 = .ok (.arraylength, 1) := by decide +kernel
theorem dL_law_27 : decode cL_law 27 = .ok (.bipush 6, 2) := by decide +kernel
theorem dL_law_29 : decode cL_law 29 = .ok (.isub, 1) := by decide +kernel
theorem dL_law_30 : decode cL_law 30 = .ok (.if_icmp .gt 2145, 3) := by decide +kernel
theorem dL_law_33 : decode cL_law 33 = .ok (.aload_n 0, 1) := by decide +kernel
theorem dL_law_34 : decode cL_law 34 = .ok (.iload 4, 2) := by decide +kernel
theorem dL_law_36 : decode cL_law 36 = .ok (.iaload, 1) := by decide +kernel
theorem dL_law_37 : decode cL_law 37 = .ok (.bipush 31, 2) := by decide +kernel
theorem dL_law_39 : decode cL_law 39 = .ok (.iand, 1) := by decide +kernel
theorem dL_law_40 : decode cL_law 40 = .ok (.tableswitch 2129 0 29 #[136, 209, 265, 278, 334, 402, 498, 578, 658, 726, 818, 898, 966, 1022, 1090, 1158, 1250, 1318, 1386, 1442, 1522, 1602, 1694, 1797, 1853, 1921, 2024, 2037, 2048, 2061], 136) := by decide +kernel
theorem dL_law_2169 : decode cL_law 2169 = .ok (.iinc 4 6, 3) := by decide +kernel
theorem dL_law_2172 : decode cL_law 2172 = .ok (.goto (-2149), 3) := by decide +kernel
theorem dL_law_2175 : decode cL_law 2175 = .ok (.iconst 1, 1) := by decide +kernel
theorem dL_law_2176 : decode cL_law 2176 = .ok (.ireturn, 1) := by decide +kernel
/-! ===== the law's loop ===== -/
theorem and31 (y : Int32) : 0 ≤ (y &&& 31).toInt ∧ (y &&& 31).toInt ≤ 31 := by
  have h1 : (y &&& 31).toBitVec.toNat ≤ 31 := by
    show (y.toBitVec &&& 31#32).toNat ≤ 31
    rw [BitVec.toNat_and]
    exact Nat.and_le_right
  have h2 : (y &&& 31).toInt = ((y &&& 31).toBitVec.toNat : Int) := BitVec.toInt_eq_toNat_of_lt (by omega)
  omega
section
variable {E : Ev} {X : Cx} {G : GH} {n1 n2 b L : Nat} {xs : Nat → Int32}
theorem la_one (Z : LwF E X b L xs) {i : Nat} (hi : i + 6 ≤ L) (hn1 : n1 + 13 ≤ 600000) (hn2 : n2 + 708 ≤ 7000000) (hI : Inv G) (kk : ∀ G2, Inv G2 → AW E X 7 2169 (lvL X b i) [] G2 (n1 + 13) (n2 + 708)) : AW E X 7 33 (lvL X b i) [] G n1 n2 := by
  obtain ⟨F, hRm, hl0, hPe, hX, hL⟩ := id Z
  obtain ⟨q, hC, hR⟩ := id hI
  refine aw_al_n F 4 dL_law_33 rfl rfl ?_
  refine aw_il F 0 dL_law_34 rfl ?_
  refine aw_lsld F hX (zI_in (by omega)) dL_law_36 ?_
  refine aw_bi F dL_law_37 (v := (31 : Int32)) (by decide) ?_
  refine aw_iand F dL_law_39 ?_
  have h31 := and31 (xs (zI (i : Int)).toNatClampNeg)
  generalize xs (zI (i : Int)).toNatClampNeg &&& 31 = x at h31 ⊢
  by_cases h29 : x.toInt ≤ 29
  · have hx : x.toInt = 0 ∨ x.toInt = 1 ∨ x.toInt = 2 ∨ x.toInt = 3 ∨ x.toInt = 4 ∨ x.toInt = 5 ∨ x.toInt = 6 ∨ x.toInt = 7 ∨ x.toInt = 8 ∨ x.toInt = 9 ∨ x.toInt = 10 ∨ x.toInt = 11 ∨ x.toInt = 12 ∨ x.toInt = 13 ∨ x.toInt = 14 ∨ x.toInt = 15 ∨ x.toInt = 16 ∨ x.toInt = 17 ∨ x.toInt = 18 ∨ x.toInt = 19 ∨ x.toInt = 20 ∨ x.toInt = 21 ∨ x.toInt = 22 ∨ x.toInt = 23 ∨ x.toInt = 24 ∨ x.toInt = 25 ∨ x.toInt = 26 ∨ x.toInt = 27 ∨ x.toInt = 28 ∨ x.toInt = 29 := by omega
    rcases hx with h | h | h | h | h | h | h | h | h | h | h | h | h | h | h | h | h | h | h | h | h | h | h | h | h | h | h | h | h | h
    · exact aw_tabI F (off := 136) (tgt := 176) dL_law_40 (by omega) (by omega) (by rw [h]; rfl) (by decide) (la_0 Z hi hn1 hn2 hC hR kk)
    · exact aw_tabI F (off := 209) (tgt := 249) dL_law_40 (by omega) (by omega) (by rw [h]; rfl) (by decide) (la_1 Z hi hn1 hn2 hC hR kk)
    · exact aw_tabI F (off := 265) (tgt := 305) dL_law_40 (by omega) (by omega) (by rw [h]; rfl) (by decide) (la_2 Z hi hn1 hn2 hC hR kk)
    · exact aw_tabI F (off := 278) (tgt := 318) dL_law_40 (by omega) (by omega) (by rw [h]; rfl) (by decide) (la_3 Z hi hn1 hn2 hC hR kk)
    · exact aw_tabI F (off := 334) (tgt := 374) dL_law_40 (by omega) (by omega) (by rw [h]; rfl) (by decide) (la_4 Z hi hn1 hn2 hC hR kk)
    · exact aw_tabI F (off := 402) (tgt := 442) dL_law_40 (by omega) (by omega) (by rw [h]; rfl) (by decide) (la_5 Z hi hn1 hn2 hC hR kk)
    · exact aw_tabI F (off := 498) (tgt := 538) dL_law_40 (by omega) (by omega) (by rw [h]; rfl) (by decide) (la_6 Z hi hn1 hn2 hC hR kk)
    · exact aw_tabI F (off := 578) (tgt := 618) dL_law_40 (by omega) (by omega) (by rw [h]; rfl) (by decide) (la_7 Z hi hn1 hn2 hC hR kk)
    · exact aw_tabI F (off := 658) (tgt := 698) dL_law_40 (by omega) (by omega) (by rw [h]; rfl) (by decide) (la_8 Z hi hn1 hn2 hC hR kk)
    · exact aw_tabI F (off := 726) (tgt := 766) dL_law_40 (by omega) (by omega) (by rw [h]; rfl) (by decide) (la_9 Z hi hn1 hn2 hC hR kk)
    · exact aw_tabI F (off := 818) (tgt := 858) dL_law_40 (by omega) (by omega) (by rw [h]; rfl) (by decide) (la_10 Z hi hn1 hn2 hC hR kk)
    · exact aw_tabI F (off := 898) (tgt := 938) dL_law_40 (by omega) (by omega) (by rw [h]; rfl) (by decide) (la_11 Z hi hn1 hn2 hC hR kk)
    · exact aw_tabI F (off := 966) (tgt := 1006) dL_law_40 (by omega) (by omega) (by rw [h]; rfl) (by decide) (la_12 Z hi hn1 hn2 hC hR kk)
    · exact aw_tabI F (off := 1022) (tgt := 1062) dL_law_40 (by omega) (by omega) (by rw [h]; rfl) (by decide) (la_13 Z hi hn1 hn2 hC hR kk)
    · exact aw_tabI F (off := 1090) (tgt := 1130) dL_law_40 (by omega) (by omega) (by rw [h]; rfl) (by decide) (la_14 Z hi hn1 hn2 hC hR kk)
    · exact aw_tabI F (off := 1158) (tgt := 1198) dL_law_40 (by omega) (by omega) (by rw [h]; rfl) (by decide) (la_15 Z hi hn1 hn2 hC hR kk)
    · exact aw_tabI F (off := 1250) (tgt := 1290) dL_law_40 (by omega) (by omega) (by rw [h]; rfl) (by decide) (la_16 Z hi hn1 hn2 hC hR kk)
    · exact aw_tabI F (off := 1318) (tgt := 1358) dL_law_40 (by omega) (by omega) (by rw [h]; rfl) (by decide) (la_17 Z hi hn1 hn2 hC hR kk)
    · exact aw_tabI F (off := 1386) (tgt := 1426) dL_law_40 (by omega) (by omega) (by rw [h]; rfl) (by decide) (la_18 Z hi hn1 hn2 hC hR kk)
    · exact aw_tabI F (off := 1442) (tgt := 1482) dL_law_40 (by omega) (by omega) (by rw [h]; rfl) (by decide) (la_19 Z hi hn1 hn2 hC hR kk)
    · exact aw_tabI F (off := 1522) (tgt := 1562) dL_law_40 (by omega) (by omega) (by rw [h]; rfl) (by decide) (la_20 Z hi hn1 hn2 hC hR kk)
    · exact aw_tabI F (off := 1602) (tgt := 1642) dL_law_40 (by omega) (by omega) (by rw [h]; rfl) (by decide) (la_21 Z hi hn1 hn2 hC hR kk)
    · exact aw_tabI F (off := 1694) (tgt := 1734) dL_law_40 (by omega) (by omega) (by rw [h]; rfl) (by decide) (la_22 Z hi hn1 hn2 hC hR kk)
    · exact aw_tabI F (off := 1797) (tgt := 1837) dL_law_40 (by omega) (by omega) (by rw [h]; rfl) (by decide) (la_23 Z hi hn1 hn2 hC hR kk)
    · exact aw_tabI F (off := 1853) (tgt := 1893) dL_law_40 (by omega) (by omega) (by rw [h]; rfl) (by decide) (la_24 Z hi hn1 hn2 hC hR kk)
    · exact aw_tabI F (off := 1921) (tgt := 1961) dL_law_40 (by omega) (by omega) (by rw [h]; rfl) (by decide) (la_25 Z hi hn1 hn2 hC hR kk)
    · exact aw_tabI F (off := 2024) (tgt := 2064) dL_law_40 (by omega) (by omega) (by rw [h]; rfl) (by decide) (la_26 Z hi hn1 hn2 hC hR kk)
    · exact aw_tabI F (off := 2037) (tgt := 2077) dL_law_40 (by omega) (by omega) (by rw [h]; rfl) (by decide) (la_27 Z hi hn1 hn2 hC hR kk)
    · exact aw_tabI F (off := 2048) (tgt := 2088) dL_law_40 (by omega) (by omega) (by rw [h]; rfl) (by decide) (la_28 Z hi hn1 hn2 hC hR kk)
    · exact aw_tabI F (off := 2061) (tgt := 2101) dL_law_40 (by omega) (by omega) (by rw [h]; rfl) (by decide) (la_29 Z hi hn1 hn2 hC hR kk)
  · exact aw_tabO F (tgt := 2169) dL_law_40 (Or.inr (by omega)) (by decide) (aw_wide (by omega) (by omega) (kk G hI))
theorem la_loop (Z : LwF E X b L xs) : ∀ d t : Nat, t + d = 512 → ∀ G, Inv G → AW E X 7 23 (lvL X b (6 * t)) [] G (88 + 13 * t) (17541 + 708 * t) := by
  obtain ⟨F, hRm, hl0, hPe, hX, hL⟩ := id Z
  intro d
  induction d with
  | zero =>
    intro t ht G hI
    refine aw_il F 0 dL_law_23 rfl ?_
    refine aw_al_n F 4 dL_law_25 rfl rfl ?_
    refine aw_lslen F hX dL_law_26 ?_
    refine aw_bi F dL_law_27 (v := (6 : Int32)) (by decide) ?_
    refine aw_isub F dL_law_29 ?_
    have e : Int32.ofNat L - 6 = zI ((L : Int) - 6) := by
      rw [← zI_sub]
      rfl
    rw [e]
    refine aw_icmp_gt F (tgt := 2175) dL_law_30 (by decide) (fun h => ?_) (fun h => ?_)
    · refine aw_ic F dL_law_2175 (v := (1 : Int32)) (by decide) ?_
      exact aw_lret F hX (by omega) (by omega) dL_law_2176
    · exfalso
      rw [zI_lt (by omega)] at h
      omega
  | succ d ih =>
    intro t ht G hI
    refine aw_il F 0 dL_law_23 rfl ?_
    refine aw_al_n F 4 dL_law_25 rfl rfl ?_
    refine aw_lslen F hX dL_law_26 ?_
    refine aw_bi F dL_law_27 (v := (6 : Int32)) (by decide) ?_
    refine aw_isub F dL_law_29 ?_
    have e : Int32.ofNat L - 6 = zI ((L : Int) - 6) := by
      rw [← zI_sub]
      rfl
    rw [e]
    refine aw_icmp_gt F (tgt := 2175) dL_law_30 (by decide) (fun h => ?_) (fun h => ?_)
    · refine aw_ic F dL_law_2175 (v := (1 : Int32)) (by decide) ?_
      exact aw_lret F hX (by omega) (by omega) dL_law_2176
    · rw [zI_lt (by omega)] at h
      refine la_one Z (i := 6 * t) (by omega) (by omega) (by omega) hI (fun G2 h2 => ?_)
      refine aw_inc F 0 (v := zI ((6 * (t + 1) : Nat) : Int)) (lv1 := lvL X b (6 * (t + 1))) dL_law_2169 rfl ?_ (by decide) rfl ?_
      · have e6 : Int32.ofInt 6 = zI 6 := rfl
        rw [e6, zI_add]
        congr 1
      · refine aw_go F (tgt := 23) dL_law_2172 (by decide) ?_
        have h9 := ih (t + 1) (by omega) G2 h2
        rw [show 88 + 13 * (t + 1) = 88 + 13 * t + 13 by omega, show 17541 + 708 * (t + 1) = 17541 + 708 * t + 708 by omega] at h9
        exact h9
end
