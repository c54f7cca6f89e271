/-! ===== settling a half, in the reference ===== -/
def stR (R : RR) (H acc : Nat) : List Nat → Nat
  | [] => acc
  | m :: L => if agn R H m = 0 then stR R (H ||| 2 ^ m) acc L else stR R H (acc ||| 2 ^ m) L
theorem agn_m {R : RR} {H m : Nat} (hH : H < 8192) (ha : alS R m < 8192) : bdf (H &&& alS R m) (qq R m 50) = agn R H m := by
  apply Nat.eq_of_testBit_eq
  intro i
  unfold agn
  have h1 : H &&& alS R m < 8192 := Nat.lt_of_le_of_lt Nat.and_le_left hH
  rw [bdf_tb (by omega), Nat.testBit_and, Nat.testBit_and, bdf_tb (by omega)]
  cases H.testBit i <;> cases (alS R m).testBit i <;> cases (qq R m 50).testBit i <;> rfl
def WH (x c j : Nat) : Prop := x = 24 ∧ (9 ≤ c ∧ c ≤ 24 ∨ c = 0 ∧ (j = 7 ∨ 24 ≤ j ∧ j ≤ 26))
/-- what the reference has of a half on a day -/
def HL (R : RR) (A : Nat → Nat → Int32) (h day : Nat) : Prop := LT R A ∧ A 0 7 ≠ 0 ∧ A 0 24 = zI (orS R h day (fun _ => true) (R 1)).length ∧ OL (A 23) (orS R h day (fun _ => true) (R 1)) ∧ A 0 25 = zI (stl R 0 (orS R h day (fun _ => true) (R 1))) ∧ A 0 26 = zI (stR R 0 0 (orS R h day (fun _ => true) (R 1))) ∧ (∀ m, m < R 1 → A 24 m = zI (rfF R [] 0 (orS R h day (fun _ => true) (R 1)) m)) ∧ ∀ m, m < R 1 → A 22 m = zI (pri R m h day)
section
variable {R : RR} {G : GH} {n h day : Nat} {post : GH → Prop}
set_option maxHeartbeats 2000000 in
theorem wM_layHalf (hV : VR n R) (hn : n ≤ 13) (hM : MR R (G 24 1)) (hLd : G 24 0 7 ≠ 0 → LT R (G 24)) (hh : h < 12) (hd : day ≤ 9999) (hp : ∀ G', Ag WH G G' → HL R (G' 24) h day → post G') : wp_X8_layHalf post (zI h) (zI day) G := by
  have h13 := Nat.le_trans hV.mk hn
  unfold HL at hp
  generalize hL : orS R h day (fun _ => true) (R 1) = L at hp
  have hlen : L.length ≤ 13 := by rw [← hL]; exact Nat.le_trans (orS_len _ _ _ _ _) h13
  have hlt : ∀ x, x ∈ L → x < R 1 := fun x hx => by rw [← hL] at hx; exact (orS_mem.mp hx).1
  have hnd : L.Nodup := by rw [← hL]; exact orS_nodup _
  unfold wp_X8_layHalf
  refine wM_lay hV hn hM hLd (fun G0 ag0 lt0 f0 => ?_)
  have ag0' : Ag WH G G0 := ag0.mo (fun x c j w => by unfold WL at w; unfold WH; omega)
  have hM0 : MR R (G0 24 1) := by
    rw [ag0.ce 24 1 (fun j w => by unfold WL at w; omega)]
    exact hM
  refine wM_layRanks hV hn hM0 hh hd (fun G1 ag1 e6 eol e2 epr => ?_)
  rw [hL] at e6 eol
  rintro _ rfl _ rfl
  have ag1' : Ag WH G G1 := ag0'.tr (ag1.mo (fun x c j w => by unfold WKm at w; unfold WH; omega))
  have low : ∀ c, c ≤ 21 → c ≠ 0 → G1 24 c = G0 24 c := fun c h1 h2 => ag1.ce 24 c (fun j w => by unfold WKm at w; omega)
  have f1 : G1 24 0 7 ≠ 0 := by rw [ag1 24 0 7 (by unfold WKm; omega)]; exact f0
  have lt1 : LT R (G1 24) := by
    obtain ⟨l1, l2, l3⟩ := lt0
    refine ⟨fun m hm => ⟨by rw [low 10 (by omega) (by omega)]; exact (l1 m hm).1, fun j hj => by rw [low 9 (by omega) (by omega)]; exact (l1 m hm).2 j hj⟩, fun a b ha hb => by rw [low 14 (by omega) (by omega), low 15 (by omega) (by omega), low 16 (by omega) (by omega), low 17 (by omega) (by omega)]; exact l2 a b ha hb, fun m hm => by rw [low 18 (by omega) (by omega), low 19 (by omega) (by omega), low 20 (by omega) (by omega)]; exact l3 m hm⟩
  generalize hG2 : gs (gs G1 24 0 (upd (G1 24 0) 25 (0 : Int32))) 24 0 (upd (gs G1 24 0 (upd (G1 24 0) 25 (0 : Int32)) 24 0) 26 (0 : Int32)) = G2
  have ag2 : Ag WH G G2 := by rw [← hG2]; exact (ag1'.up ⟨rfl, Or.inr ⟨rfl, Or.inr (by omega)⟩⟩).up ⟨rfl, Or.inr ⟨rfl, Or.inr (by omega)⟩⟩
  have hi2 : ∀ c, c ≠ 0 → G2 24 c = G1 24 c := fun c hc => by rw [← hG2, gs_ne (by omega), gs_ne (by omega)]
  have z2 : ∀ j, G2 24 0 j = if j = 25 ∨ j = 26 then 0 else G1 24 0 j := fun j => by
    rw [← hG2, gs_eq, gs_eq]
    unfold upd
    by_cases w : j = 26
    · rw [if_pos w, if_pos (Or.inr w)]
    · rw [if_neg w]
      by_cases w2 : j = 25
      · rw [if_pos w2, if_pos (Or.inl w2)]
      · rw [if_neg w2, if_neg (by omega)]
  -- what no turn touches: all but 24, and in the fields 25 and 26
  intro P22 K22
  have main : ∀ f k H acc : Nat, k + f = L.length → ∀ G', Ag WH G G' → (∀ c, c ≠ 0 → c ≠ 24 → G' 24 c = G2 24 c) → (∀ j, j ≠ 25 → j ≠ 26 → G' 24 0 j = G2 24 0 j) → G' 24 0 25 = zI H → G' 24 0 26 = zI acc → H < 8192 → acc < 8192 → (∀ i, H.testBit i = true → i ∈ L.take k) → stl R H (L.drop k) = stl R 0 L → stR R H acc (L.drop k) = stR R 0 0 L → (∀ x, x ∉ L.take k → rfF R [] 0 L x = rfF R (L.take k) H (L.drop k) x) → (∀ x, x < R 1 → G' 24 24 x = zI (if x ∈ L.take k then rfF R [] 0 L x else -1)) → P22 (zI k) G' := by
    intro f
    induction f with
    | zero =>
      intro k H acc hk G' ag hc h0 g25 g26 hH hA hsub hst hsr hrf g2
      have g24 : G' 24 0 24 = zI L.length := by
        rw [h0 24 (by omega) (by omega), z2, if_neg (by omega)]
        exact e6
      refine K22 _ _ ?_
      unfold lb_X8_layHalf_22
      rw [g24]
      refine br_t (by rw [zI_le (by omega)]; omega) ?_
      rw [List.drop_of_length_le (by omega)] at hst hsr
      have ht : L.take k = L := List.take_of_length_le (by omega)
      have cc : ∀ c, c ≠ 0 → c ≠ 24 → G' 24 c = G1 24 c := fun c h1 h2 => by rw [hc c h1 h2, hi2 c h1]
      refine hp G' ag ⟨?_, ?_, g24, ?_, ?_, ?_, fun m hm => ?_, fun m hm => ?_⟩
      · obtain ⟨l1, l2, l3⟩ := lt1
        refine ⟨fun m hm => ⟨by rw [cc 10 (by omega) (by omega)]; exact (l1 m hm).1, fun j hj => by rw [cc 9 (by omega) (by omega)]; exact (l1 m hm).2 j hj⟩, fun a b ha hb => by rw [cc 14 (by omega) (by omega), cc 15 (by omega) (by omega), cc 16 (by omega) (by omega), cc 17 (by omega) (by omega)]; exact l2 a b ha hb, fun m hm => by rw [cc 18 (by omega) (by omega), cc 19 (by omega) (by omega), cc 20 (by omega) (by omega)]; exact l3 m hm⟩
      · rw [h0 7 (by omega) (by omega), z2, if_neg (by omega)]
        exact f1
      · rw [cc 23 (by omega) (by omega)]
        exact eol
      · rw [g25, ← hst]
        rfl
      · rw [g26, ← hsr]
        rfl
      · rw [g2 m hm, ht]
        by_cases w : m ∈ L
        · rw [if_pos w]
        · rw [if_neg w, rfF_no w]
      · rw [cc 22 (by omega) (by omega)]
        exact epr m hm
    | succ f ih =>
      intro k H acc hk G' ag hc h0 g25 g26 hH hA hsub hst hsr hrf g2
      have hkl : k < L.length := by omega
      have hm := hlt _ (getD_mem hkl)
      obtain ⟨nd1, nd2⟩ := nodup_at hnd hkl
      have ed := drop_cons hkl
      have et := take_snoc hkl
      have g24 : G' 24 0 24 = zI L.length := by
        rw [h0 24 (by omega) (by omega), z2, if_neg (by omega)]
        exact e6
      have hM2 : MR R (G' 24 1) := by
        rw [ag.ce 24 1 (fun j w => by unfold WH at w; omega)]
        exact hM
      have gol : OL (G' 24 23) L := by rw [hc 23 (by omega) (by omega), hi2 23 (by omega)]; exact eol
      generalize hmm : L.getD k 0 = m at hm nd1 nd2 ed et
      have hcn := hV.cn hm
      have hag := agn_lt hV hn H m
      have hal : alS R m < 8192 := bset_lt13 _ h13
      have g20 : G' 24 20 m = zI (alS R m) := by rw [hc 20 (by omega) (by omega), hi2 20 (by omega)]; exact (lt1.2.2 m hm).2.2
      refine K22 _ _ ?_
      unfold lb_X8_layHalf_22
      rw [g24]
      refine br_f (by rw [zI_le (by omega)]; omega) ⟨zI_in (by omega), ?_⟩
      rw [zI_clN (by omega), gol k hkl, hmm]
      rintro _ rfl
      refine ⟨zI_in (by omega), ?_⟩
      refine wM_of1 hM2 m 50 rfl rfl (by omega) (by omega) ?_
      have hand : H &&& alS R m < 8192 := Nat.lt_of_le_of_lt Nat.and_le_left hH
      rw [zI_clN (by omega), g20, g25, zI_and, zI_difX (by omega), agn_m hH hal]
      rintro _ rfl
      rw [ed] at hst hsr hrf
      have memt : ∀ x, x ∈ L.take (k + 1) ↔ x ∈ L.take k ∨ x = m := fun x => by rw [et, List.mem_append, List.mem_singleton]
      rw [zl1, zI_add, zI_sub]
      refine br_c (fun q => ?_) (fun q => ?_)
      · rw [zl0, zI_eq (by omega)] at q
        have q : agn R H m = 0 := by omega
        rintro _ rfl
        rw [show zI (1 : Int) = (1 : Int32) from rfl, zI_bit (by omega), zI_or]
        have ag3 := ag.up (o := 24) (k := 0) (p := 25) (v := zI ((H ||| 2 ^ m : Nat) : Int)) ⟨rfl, Or.inr ⟨rfl, Or.inr (by omega)⟩⟩
        refine ih (k + 1) (H ||| 2 ^ m) acc (by omega) _ ag3 (fun c h1 h2 => by rw [gs_ne (by omega)]; exact hc c h1 h2) (fun j h1 h2 => ?_) ?_ ?_ (Nat.or_lt_two_pow (n := 13) hH (Nat.pow_lt_pow_right (by decide) (by omega))) hA (fun i hi => ?_) ?_ ?_ (fun x hx => ?_) (fun x hx => ?_)
        · rw [gs_eq]
          unfold upd
          rw [if_neg h1]
          exact h0 j h1 h2
        · rw [gs_eq]
          unfold upd
          rw [if_pos rfl]
        · rw [gs_eq]
          unfold upd
          rw [if_neg (by decide)]
          exact g26
        · rw [Nat.testBit_or, Bool.or_eq_true, Nat.testBit_two_pow, decide_eq_true_eq] at hi
          rw [memt]
          rcases hi with hi | hi
          · exact Or.inl (hsub i hi)
          · exact Or.inr hi.symm
        · unfold stl at hst
          rw [if_pos q] at hst
          rw [hst]
          cases L <;> rfl
        · unfold stR at hsr
          rw [if_pos q] at hsr
          rw [hsr]
          cases L <;> rfl
        · have hx2 : x ∉ L.take k := fun z => hx ((memt x).mpr (Or.inl z))
          rw [hrf x hx2]
          show (if agn R H m = 0 then _ else _) = _
          rw [if_pos q, et]
        · rw [gs_ne (by decide), g2 x hx]
          congr 1
          by_cases w : x ∈ L.take k
          · rw [if_pos w, if_pos ((memt x).mpr (Or.inl w))]
          · rw [if_neg w]
            by_cases w2 : x = m
            · subst w2
              rw [if_pos ((memt x).mpr (Or.inr rfl)), hrf x w]
              show -1 = (if agn R H x = 0 then _ else _)
              rw [if_pos q, rfF_no nd2]
            · rw [if_neg (fun z => by rcases (memt x).mp z with z | z; exact w z; exact w2 z)]
      · rw [zl0, zI_eq (by omega)] at q
        have q : agn R H m ≠ 0 := by omega
        rintro _ rfl
        rw [show zI (1 : Int) = (1 : Int32) from rfl, g26, zI_bit (by omega), zI_or]
        rintro _ rfl
        have ag3 := ag.up (o := 24) (k := 0) (p := 26) (v := zI ((acc ||| 2 ^ m : Nat) : Int)) ⟨rfl, Or.inr ⟨rfl, Or.inr (by omega)⟩⟩
        generalize hG4 : gs G' 24 0 (upd (G' 24 0) 26 (zI ((acc ||| 2 ^ m : Nat) : Int))) = G4 at ag3
        have k4 : ∀ c, c ≠ 0 → G4 24 c = G' 24 c := fun c hc2 => by rw [← hG4, gs_ne (by omega)]
        have k40 : ∀ j, j ≠ 26 → G4 24 0 j = G' 24 0 j := fun j hj => by
          rw [← hG4, gs_eq]
          unfold upd
          rw [if_neg hj]
        have k426 : G4 24 0 26 = zI ((acc ||| 2 ^ m : Nat) : Int) := by
          rw [← hG4, gs_eq]
          unfold upd
          rw [if_pos rfl]
        have tl : (L.take k).length = k := by rw [List.length_take]; omega
        have go : ∀ G5, Ag WH G G5 → (∀ c, c ≠ 24 → G5 24 c = G4 24 c) → (∀ x, x ≠ m → G5 24 24 x = G4 24 24 x) → G5 24 24 m = zI (fstIn (agn R H m) (L.take k)) → P22 (zI ((k : Int) + 1)) G5 := by
          intro G5 ag5 hc5 hx5 hm5
          refine ih (k + 1) H (acc ||| 2 ^ m) (by omega) G5 ag5 (fun c h1 h2 => by rw [hc5 c h2, k4 c h1]; exact hc c h1 h2) (fun j h1 h2 => by rw [hc5 0 (by omega), k40 j h2]; exact h0 j h1 h2) (by rw [hc5 0 (by omega), k40 25 (by omega)]; exact g25) (by rw [hc5 0 (by omega)]; exact k426) hH (Nat.or_lt_two_pow (n := 13) hA (Nat.pow_lt_pow_right (by decide) (by omega))) (fun i hi => (memt i).mpr (Or.inl (hsub i hi))) ?_ ?_ (fun x hx => ?_) (fun x hx => ?_)
          · unfold stl at hst
            rw [if_neg q] at hst
            rw [hst]
            cases L <;> rfl
          · unfold stR at hsr
            rw [if_neg q] at hsr
            rw [hsr]
            cases L <;> rfl
          · have hx2 : x ∉ L.take k := fun z => hx ((memt x).mpr (Or.inl z))
            have hx3 : x ≠ m := fun z => hx ((memt x).mpr (Or.inr z))
            rw [hrf x hx2]
            show (if agn R H m = 0 then _ else if x = m then _ else _) = _
            rw [if_neg q, if_neg hx3, et]
          · by_cases w2 : x = m
            · subst w2
              rw [hm5, if_pos ((memt x).mpr (Or.inr rfl)), hrf x nd1]
              congr 1
              show _ = (if agn R H x = 0 then _ else if x = x then _ else _)
              rw [if_neg q, if_pos rfl]
            · rw [hx5 x w2, k4 24 (by omega), g2 x hx]
              congr 1
              by_cases w : x ∈ L.take k
              · rw [if_pos w, if_pos ((memt x).mpr (Or.inl w))]
              · rw [if_neg w, if_neg (fun z => by rcases (memt x).mp z with z | z; exact w z; exact w2 z)]
        intro P102 K102
        have back : ∀ j : Nat, j ≤ k → ∀ G5, Ag WH G G5 → (∀ c, c ≠ 24 → G5 24 c = G4 24 c) → (∀ x, x ≠ m → G5 24 24 x = G4 24 24 x) → G5 24 24 m = zI (fstIn (agn R H m) ((L.take k).drop j)) → P102 (zI k) (zI m) (zI (agn R H m)) (zI ((j : Int) - 1)) G5 := by
          intro j
          induction j with
          | zero =>
            intro _ G5 ag5 hc5 hx5 hm5
            refine K102 _ _ _ _ _ ?_
            unfold lb_X8_layHalf_102
            refine br_t (by rw [zl0, zI_lt (by omega)]; omega) ?_
            rw [zl1, zI_add]
            exact go G5 ag5 hc5 hx5 (by rw [hm5]; rfl)
          | succ j ih3 =>
            intro hj G5 ag5 hc5 hx5 hm5
            have hj2 : j < L.length := by omega
            have hz := hlt _ (getD_mem hj2)
            have eT : (L.take k).drop j = L.getD j 0 :: (L.take k).drop (j + 1) := by
              rw [drop_cons (by omega)]
              congr 1
              rw [List.getD_eq_getElem?_getD, List.getElem?_take, if_pos (by omega), List.getD_eq_getElem?_getD]
            have gol5 : G5 24 23 j = zI (L.getD j 0) := by rw [hc5 23 (by omega), k4 23 (by omega)]; exact gol j hj2
            refine K102 _ _ _ _ _ ?_
            unfold lb_X8_layHalf_102
            rw [show (((j + 1 : Nat) : Int) - 1) = (j : Int) by omega]
            refine br_f (by rw [zl0, zI_lt (by omega)]; omega) ⟨zI_in (by omega), ?_⟩
            rw [zI_clN (n := j) (by omega), zI_clN (n := m) (by omega), gol5, wM_has (by omega) (by omega)]
            have ez : zI (j : Int) + (-1 : Int32) = zI ((j : Int) - 1) := by
              rw [zl1, zI_neg, zI_add]
              exact zI_cg (by omega)
            rw [ez]
            by_cases w : (agn R H m).testBit (L.getD j 0) = true
            · refine br_bt w ⟨zI_in (by omega), zI_in (by omega), ?_⟩
              rintro _ rfl
              rw [gol5]
              refine ih3 (by omega) _ (ag5.up ⟨rfl, Or.inl (by omega)⟩) (fun c h2 => by rw [gs_ne (by omega)]; exact hc5 c h2) (fun x hx => ?_) ?_
              · rw [gs_eq]
                unfold upd
                rw [if_neg hx]
                exact hx5 x hx
              · rw [gs_eq, eT]
                unfold upd fstIn
                rw [if_pos rfl, if_pos w]
            · refine br_bf (by simpa using w) ?_
              refine ih3 (by omega) G5 ag5 hc5 hx5 ?_
              rw [hm5, eT]
              show _ = zI (if (agn R H m).testBit (L.getD j 0) = true then _ else _)
              rw [if_neg w]
        refine back k (Nat.le_refl _) G4 ag3 (fun c _ => rfl) (fun x _ => rfl) ?_
        rw [k4 24 (by omega), g2 m hm, if_neg nd1, List.drop_of_length_le (by omega)]
        rfl
  refine main L.length 0 0 0 (by omega) G2 ag2 (fun c _ _ => rfl) (fun j _ _ => rfl) ?_ ?_ (by omega) (by omega) (fun i hi => by simp at hi) rfl rfl (fun x _ => rfl) (fun x hx => ?_)
  · rw [z2, if_pos (Or.inl rfl)]
    rfl
  · rw [z2, if_pos (Or.inr rfl)]
    rfl
  · rw [hi2 24 (by omega), e2 x hx, if_neg (by simp)]
end
