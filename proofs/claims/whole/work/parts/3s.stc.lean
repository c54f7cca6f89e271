/-! ===== settling a half, in the class ===== -/
section
variable {R : RR} {G : GH} {n o1 o2 h day s : Nat} {post : GH → Prop}
set_option maxHeartbeats 2000000 in
theorem wI_settle (hV : VR n R) (hn : n ≤ 13) (hC : CR R (G o1)) (ho : o1 ≠ 5) (ho2 : o2 ≠ 5) (h7 : ∀ i, i < R 1 → G o2 7 i = zI (alS R i)) (hh : h < 12) (hd : day ≤ 9999) (hs : s < 8192)
    (hp : ∀ G', Ag WSt G G' → G' 5 0 6 = zI (orS R h day s.testBit (R 1)).length → OL (G' 5 1) (orS R h day s.testBit (R 1)) → G' 5 0 7 = zI (stl R 0 (orS R h day s.testBit (R 1))) → (∀ m, m < R 1 → G' 5 2 m = zI (rfF R [] 0 (orS R h day s.testBit (R 1)) m)) → post G') : wp_X5_settle post o1 o2 (zI h) (zI day) (zI s) G := by
  have h13 := Nat.le_trans hV.mk hn
  generalize hL : orS R h day s.testBit (R 1) = L at hp
  have hlen : L.length ≤ 13 := by rw [← hL]; exact Nat.le_trans (orS_len _ _ _ _ _) h13
  have hlt : ∀ x, x ∈ L → x < R 1 := fun x hx => by rw [← hL] at hx; exact (orS_mem.mp hx).1
  have hnd : L.Nodup := by rw [← hL]; exact orS_nodup _
  unfold wp_X5_settle
  refine wI_rank hV hn hC ho hh hd hs (fun G1 ag1 e6 eol e2 => ?_)
  rw [hL] at e6 eol
  rintro _ rfl
  have ag1' : Ag WSt G G1 := ag1.mo (fun x c j w => by unfold WK at w; unfold WSt; omega)
  have keep : ∀ G', Ag WSt G G' → CR R (G' o1) ∧ (∀ i, i < R 1 → G' o2 7 i = zI (alS R i)) := fun G' ag => ⟨by rw [ag.ob o1 (fun b j w => ho w.1)]; exact hC, by rw [ag.ob o2 (fun b j w => ho2 w.1)]; exact h7⟩
  intro P18 K18
  have main : ∀ f k H : Nat, k + f = L.length → ∀ G', Ag WSt G G' → G' 5 0 6 = zI L.length → OL (G' 5 1) L → G' 5 0 7 = zI H → H < 8192 → (∀ i, H.testBit i = true → i ∈ L.take k) → stl R H (L.drop k) = stl R 0 L → (∀ x, x ∉ L.take k → rfF R [] 0 L x = rfF R (L.take k) H (L.drop k) x) → (∀ x, x < R 1 → G' 5 2 x = zI (if x ∈ L.take k then rfF R [] 0 L x else -1)) → P18 (zI k) G' := by
    intro f
    induction f with
    | zero =>
      intro k H hk G' ag g6 gol g7 hH hsub hst hrf g2
      refine K18 _ _ ?_
      unfold lb_X5_settle_18
      rw [g6]
      refine br_t (by rw [zI_le (by omega)]; omega) ?_
      rw [List.drop_of_length_le (by omega)] at hst
      have ht : L.take k = L := List.take_of_length_le (by omega)
      refine hp G' ag g6 gol (by rw [g7, ← hst]; rfl) (fun m hm => ?_)
      rw [g2 m hm, ht]
      by_cases w : m ∈ L
      · rw [if_pos w]
      · rw [if_neg w, rfF_no w]
    | succ f ih =>
      intro k H hk G' ag g6 gol g7 hH hsub hst hrf g2
      obtain ⟨hC2, h72⟩ := keep G' ag
      have hkl : k < L.length := by omega
      have hm := hlt _ (getD_mem hkl)
      obtain ⟨nd1, nd2⟩ := nodup_at hnd hkl
      have ed := drop_cons hkl
      have et := take_snoc hkl
      generalize hmm : L.getD k 0 = m at hm nd1 nd2 ed et
      have hcn := hV.cn hm
      have hag := agn_lt hV hn H m
      refine K18 _ _ ?_
      unfold lb_X5_settle_18
      rw [g6]
      refine br_f (by rw [zI_le (by omega)]; omega) ⟨zI_in (by omega), ?_⟩
      rw [zI_clN (by omega), gol k hkl, hmm]
      rintro _ rfl
      refine ⟨zI_in (by omega), zI_in (by omega), ?_⟩
      rw [zI_clN (by omega), h72 m hm, hC2.cn hm, g7, zI_difX (by omega), zI_and]
      rintro _ rfl
      have ea : bdf (alS R m) (qq R m 50) &&& H = agn R H m := rfl
      rw [ea, zl1, zI_add]
      rw [ed] at hst hrf
      have memt : ∀ x, x ∈ L.take (k + 1) ↔ x ∈ L.take k ∨ x = m := fun x => by rw [et, List.mem_append, List.mem_singleton]
      refine br_c (fun q => ?_) (fun q => ?_)
      · rw [zl0, zI_eq (by omega)] at q
        have q : agn R H m = 0 := by omega
        rintro _ rfl
        rw [show zI (1 : Int) = (1 : Int32) from rfl, zI_bit (by omega), zI_or]
        have ag2 := ag.up (o := 5) (k := 0) (p := 7) (v := zI ((H ||| 2 ^ m : Nat) : Int)) ⟨rfl, Or.inr (Or.inr (Or.inr ⟨rfl, Or.inr rfl⟩))⟩
        refine ih (k + 1) (H ||| 2 ^ m) (by omega) _ ag2 ?_ ?_ ?_ (Nat.or_lt_two_pow (n := 13) hH (Nat.pow_lt_pow_right (by decide) (by omega))) (fun i hi => ?_) ?_ (fun x hx => ?_) (fun x hx => ?_)
        · rw [gs_eq]
          unfold upd
          rw [if_neg (by decide)]
          exact g6
        · rw [gs_ne (by decide)]
          exact gol
        · rw [gs_eq]
          unfold upd
          rw [if_pos rfl]
        · rw [Nat.testBit_or, Bool.or_eq_true, Nat.testBit_two_pow, decide_eq_true_eq] at hi
          rw [memt]
          rcases hi with hi | hi
          · exact Or.inl (hsub i hi)
          · exact Or.inr hi.symm
        · unfold stl at hst
          rw [if_pos q] at hst
          rw [hst]
          cases L <;> rfl
        · have hx2 : x ∉ L.take k := fun z => hx ((memt x).mpr (Or.inl z))
          have := hrf x hx2
          rw [this]
          show (if agn R H m = 0 then _ else _) = _
          rw [if_pos q, et]
        · rw [gs_ne (by decide), g2 x hx]
          congr 1
          by_cases w : x ∈ L.take k
          · rw [if_pos w, if_pos ((memt x).mpr (Or.inl w))]
          · rw [if_neg w]
            by_cases w2 : x = m
            · subst w2
              rw [if_pos ((memt x).mpr (Or.inr rfl)), hrf x w]
              show -1 = (if agn R H x = 0 then _ else _)
              rw [if_pos q, rfF_no nd2]
            · rw [if_neg (fun z => by rcases (memt x).mp z with z | z; exact w z; exact w2 z)]
      · rw [zl0, zI_eq (by omega)] at q
        have q : agn R H m ≠ 0 := by omega
        refine wI_mostSenior hag hlen (fun x hx => by have := hlt x hx; omega) g6 gol ⟨zI_in (by omega), ?_⟩
        rintro _ rfl
        have efst : fstIn (agn R H m) L = fstIn (agn R H m) (L.take k) := by
          obtain ⟨i, hi⟩ := agn_ne q
          have := fstIn_app (s := agn R H m) (A := L.take k) (B := L.drop k) ⟨i, hsub i (agn_H hi), hi⟩
          rw [List.take_append_drop] at this
          exact this
        rw [efst]
        have ag2 := ag.up (o := 5) (k := 2) (p := m) (v := zI (fstIn (agn R H m) (L.take k))) ⟨rfl, Or.inr (Or.inl rfl)⟩
        refine ih (k + 1) H (by omega) _ ag2 (by rw [gs_ne (by decide)]; exact g6) (by rw [gs_ne (by decide)]; exact gol) (by rw [gs_ne (by decide)]; exact g7) hH (fun i hi => (memt i).mpr (Or.inl (hsub i hi))) ?_ (fun x hx => ?_) (fun x hx => ?_)
        · unfold stl at hst
          rw [if_neg q] at hst
          rw [hst]
          cases L <;> rfl
        · have hx2 : x ∉ L.take k := fun z => hx ((memt x).mpr (Or.inl z))
          have hx3 : x ≠ m := fun z => hx ((memt x).mpr (Or.inr z))
          rw [hrf x hx2]
          show (if agn R H m = 0 then _ else if x = m then _ else _) = _
          rw [if_neg q, if_neg hx3, et]
        · rw [gs_eq]
          unfold upd
          by_cases w2 : x = m
          · subst w2
            rw [if_pos rfl, if_pos ((memt x).mpr (Or.inr rfl)), hrf x nd1]
            congr 1
            show _ = (if agn R H x = 0 then _ else if x = x then _ else _)
            rw [if_neg q, if_pos rfl]
          · rw [if_neg w2, g2 x hx]
            congr 1
            by_cases w : x ∈ L.take k
            · rw [if_pos w, if_pos ((memt x).mpr (Or.inl w))]
            · rw [if_neg w, if_neg (fun z => by rcases (memt x).mp z with z | z; exact w z; exact w2 z)]
  have ag2 := ag1'.up (o := 5) (k := 0) (p := 7) (v := (0 : Int32)) ⟨rfl, Or.inr (Or.inr (Or.inr ⟨rfl, Or.inr rfl⟩))⟩
  refine main L.length 0 0 (by omega) _ ag2 ?_ ?_ ?_ (by omega) (fun i hi => by simp at hi) rfl (fun x _ => rfl) (fun x hx => ?_)
  · rw [gs_eq]
    unfold upd
    rw [if_neg (by decide)]
    exact e6
  · rw [gs_ne (by decide)]
    exact eol
  · rw [gs_eq]
    unfold upd
    rw [if_pos rfl]
    rfl
  · rw [gs_ne (by decide), e2 x hx, if_neg (by simp)]
end
