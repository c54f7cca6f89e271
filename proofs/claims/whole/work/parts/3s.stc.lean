/-! ===== settling a half, in the class ===== -/
section
variable {R : RR} {G : GH} {n o1 o2 h day s : Nat} {post : GH → Prop}
theorem wI_fillR (hp : ∀ G', (∀ x c, ¬ (x = 5 ∧ c = 3) → G' x c = G x c) → (∀ j, j < 13 → G' 5 3 j = zI (-1)) → post G') : wp_J7_fill_53178 post 5 3 13 (-1 : Int32) G := by
  unfold wp_J7_fill_53178
  intro y ey
  have ey : y = zI 13 := ey
  subst ey
  intro P K
  have main : ∀ f k : Nat, k + f = 13 → ∀ G', (∀ x c, ¬ (x = 5 ∧ c = 3) → G' x c = G x c) → (∀ j, j < k → G' 5 3 j = zI (-1)) → P (-1 : Int32) (zI k) (zI 13) G' := by
    intro f
    induction f with
    | zero =>
      intro k hk G' h1 h2
      refine K _ _ _ _ ?_
      unfold lb_J7_fill_53178_5
      refine br_t (by rw [zI_le (by omega)]; omega) ?_
      exact hp G' h1 (fun j hj => h2 j (by omega))
    | succ f ih =>
      intro k hk G' h1 h2
      refine K _ _ _ _ ?_
      unfold lb_J7_fill_53178_5
      refine br_f (by rw [zI_le (by omega)]; omega) ⟨zI_in (by omega), ?_⟩
      intro G3 e3
      rw [zI_clN (by omega)] at e3
      have ek : zI (k : Int) + (1 : Int32) = zI ((k + 1 : Nat) : Int) := by
        rw [zl1, zI_add]
        exact zI_cg (by omega)
      rw [ek]
      refine ih (k + 1) (by omega) G3 (fun x c hx => ?_) (fun j hj => ?_)
      · rw [e3, gs_ne hx]
        exact h1 x c hx
      · rw [e3, gs_eq]
        unfold upd
        by_cases w : j = k
        · rw [if_pos w]
          rfl
        · rw [if_neg w]
          exact h2 j (by omega)
  exact main 13 0 (by omega) G (fun _ _ _ => rfl) (fun j hj => by omega)
set_option maxHeartbeats 2000000 in
theorem wI_settle {L : List Nat} (hV : VR n R) (hn : n ≤ 13) (hC : CR R (G o1)) (ho : o1 ≠ 5) (ho2 : o2 ≠ 5) (h7 : ∀ i, i < R 1 → G o2 7 i = zI (alS R i)) (hh : h < 12) (hr : RKd (G 5) h L) (hlen : L.length ≤ 13) (hlt : ∀ x, x ∈ L → x < R 1) (hnd : L.Nodup)
    (hp : ∀ G', Ag WSt G G' → G' 5 0 7 = zI (stl R 0 L) → (∀ m, m < R 1 → G' 5 3 m = zI (rfF R [] 0 L m)) → post G') : wp_X5_settle post o1 o2 (zI h) G := by
  have h13 := Nat.le_trans hV.mk hn
  have keep : ∀ G', Ag WSt G G' → CR R (G' o1) ∧ (∀ i, i < R 1 → G' o2 7 i = zI (alS R i)) ∧ RKd (G' 5) h L := fun G' ag => ⟨by rw [ag.ob o1 (fun b j w => ho w.1)]; exact hC, by rw [ag.ob o2 (fun b j w => ho2 w.1)]; exact h7, hr.fr hlen ag (fun j _ _ w => by unfold WSt at w; omega) (fun w => by unfold WSt at w; omega)⟩
  unfold wp_X5_settle
  intro G1 e1
  refine wI_fillR (fun G2 e2 f2 => ?_)
  have ag2 : Ag WSt G G2 := by
    intro x c j hw
    rw [e2 x c (fun z => hw ⟨z.1, Or.inl z.2⟩), e1]
    exact (Ag.rf (W := WSt) G).up (o := 5) (k := 0) (p := 7) (v := (0 : Int32)) ⟨rfl, Or.inr ⟨rfl, rfl⟩⟩ x c j hw
  have e7 : G2 5 0 7 = zI 0 := by
    rw [e2 5 0 (by decide), e1, gs_eq]
    unfold upd
    rw [if_pos rfl]
    rfl
  intro P16 K16
  have main : ∀ f k H : Nat, k + f = L.length → ∀ G', Ag WSt G G' → G' 5 0 7 = zI H → H < 8192 → (∀ i, H.testBit i = true → i ∈ L.take k) → stl R H (L.drop k) = stl R 0 L → (∀ x, x ∉ L.take k → rfF R [] 0 L x = rfF R (L.take k) H (L.drop k) x) → (∀ x, x < R 1 → G' 5 3 x = zI (if x ∈ L.take k then rfF R [] 0 L x else -1)) → P16 (zI h) (zI k) G' := by
    intro f
    induction f with
    | zero =>
      intro k H hk G' ag g7 hH hsub hst hrf g2
      obtain ⟨-, -, hr2⟩ := keep G' ag
      refine K16 _ _ _ ?_
      unfold lb_X5_settle_16
      refine ⟨zI_in (by omega), ?_⟩
      rw [zI_clN (n := h) (by omega), hr2.1]
      refine br_t (by rw [zI_le (by omega)]; omega) ?_
      rw [List.drop_of_length_le (by omega)] at hst
      have ht : L.take k = L := List.take_of_length_le (by omega)
      refine hp G' ag (by rw [g7, ← hst]; rfl) (fun m hm => ?_)
      rw [g2 m hm, ht]
      by_cases w : m ∈ L
      · rw [if_pos w]
      · rw [if_neg w, rfF_no w]
    | succ f ih =>
      intro k H hk G' ag g7 hH hsub hst hrf g2
      obtain ⟨hC2, h72, hr2⟩ := keep G' ag
      have hkl : k < L.length := by omega
      have hm := hlt _ (getD_mem hkl)
      obtain ⟨nd1, nd2⟩ := nodup_at hnd hkl
      have ed := drop_cons hkl
      have et := take_snoc hkl
      refine K16 _ _ _ ?_
      unfold lb_X5_settle_16
      refine ⟨zI_in (by omega), ?_⟩
      rw [zI_clN (n := h) (by omega), hr2.1]
      refine br_f (by rw [zI_le (by omega)]; omega) ?_
      refine wI_inOrder hh hlen hr2 hkl ?_
      generalize hmm : L.getD k 0 = m at hm nd1 nd2 ed et ⊢
      have hcn := hV.cn hm
      have hag := agn_lt hV hn H m
      refine ⟨zI_in (by omega), zI_in (by omega), ?_⟩
      rw [zI_clN (by omega), h72 m hm, hC2.cn hm, g7, zI_difX (by omega), zI_and]
      rintro _ rfl
      have ea : bdf (alS R m) (qq R m 50) &&& H = agn R H m := rfl
      rw [ea, zl1, zI_add]
      rw [ed] at hst hrf
      have memt : ∀ x, x ∈ L.take (k + 1) ↔ x ∈ L.take k ∨ x = m := fun x => by rw [et, List.mem_append, List.mem_singleton]
      refine br_c (fun q => ?_) (fun q => ?_)
      · rw [zl0, zI_eq (by omega)] at q
        have q : agn R H m = 0 := by omega
        rintro _ rfl
        rw [show zI (1 : Int) = (1 : Int32) from rfl, zI_bit (by omega), zI_or]
        have ag2 := ag.up (o := 5) (k := 0) (p := 7) (v := zI ((H ||| 2 ^ m : Nat) : Int)) ⟨rfl, Or.inr ⟨rfl, rfl⟩⟩
        refine ih (k + 1) (H ||| 2 ^ m) (by omega) _ ag2 ?_ (Nat.or_lt_two_pow (n := 13) hH (Nat.pow_lt_pow_right (by decide) (by omega))) (fun i hi => ?_) ?_ (fun x hx => ?_) (fun x hx => ?_)
        · rw [gs_eq]
          unfold upd
          rw [if_pos rfl]
        · rw [Nat.testBit_or, Bool.or_eq_true, Nat.testBit_two_pow, decide_eq_true_eq] at hi
          rw [memt]
          rcases hi with hi | hi
          · exact Or.inl (hsub i hi)
          · exact Or.inr hi.symm
        · unfold stl at hst
          rw [if_pos q] at hst
          rw [hst]
          cases L <;> rfl
        · have hx2 : x ∉ L.take k := fun z => hx ((memt x).mpr (Or.inl z))
          have := hrf x hx2
          rw [this]
          show (if agn R H m = 0 then _ else _) = _
          rw [if_pos q, et]
        · rw [gs_ne (by decide), g2 x hx]
          congr 1
          by_cases w : x ∈ L.take k
          · rw [if_pos w, if_pos ((memt x).mpr (Or.inl w))]
          · rw [if_neg w]
            by_cases w2 : x = m
            · subst w2
              rw [if_pos ((memt x).mpr (Or.inr rfl)), hrf x w]
              show -1 = (if agn R H x = 0 then _ else _)
              rw [if_pos q, rfF_no nd2]
            · rw [if_neg (fun z => by rcases (memt x).mp z with z | z; exact w z; exact w2 z)]
      · rw [zl0, zI_eq (by omega)] at q
        have q : agn R H m ≠ 0 := by omega
        refine wI_mostSenior hh hag hlen (fun x hx => by have := hlt x hx; omega) hr2 ⟨zI_in (by omega), ?_⟩
        rintro _ rfl
        have efst : fstIn (agn R H m) L = fstIn (agn R H m) (L.take k) := by
          obtain ⟨i, hi⟩ := agn_ne q
          have := fstIn_app (s := agn R H m) (A := L.take k) (B := L.drop k) ⟨i, hsub i (agn_H hi), hi⟩
          rw [List.take_append_drop] at this
          exact this
        rw [efst]
        have ag2 := ag.up (o := 5) (k := 3) (p := m) (v := zI (fstIn (agn R H m) (L.take k))) ⟨rfl, Or.inl rfl⟩
        refine ih (k + 1) H (by omega) _ ag2 (by rw [gs_ne (by decide)]; exact g7) hH (fun i hi => (memt i).mpr (Or.inl (hsub i hi))) ?_ (fun x hx => ?_) (fun x hx => ?_)
        · unfold stl at hst
          rw [if_neg q] at hst
          rw [hst]
          cases L <;> rfl
        · have hx2 : x ∉ L.take k := fun z => hx ((memt x).mpr (Or.inl z))
          have hx3 : x ≠ m := fun z => hx ((memt x).mpr (Or.inr z))
          rw [hrf x hx2]
          show (if agn R H m = 0 then _ else if x = m then _ else _) = _
          rw [if_neg q, if_neg hx3, et]
        · rw [gs_eq]
          unfold upd
          by_cases w2 : x = m
          · subst w2
            rw [if_pos rfl, if_pos ((memt x).mpr (Or.inr rfl)), hrf x nd1]
            congr 1
            show _ = (if agn R H x = 0 then _ else if x = x then _ else _)
            rw [if_neg q, if_pos rfl]
          · rw [if_neg w2, g2 x hx]
            congr 1
            by_cases w : x ∈ L.take k
            · rw [if_pos w, if_pos ((memt x).mpr (Or.inl w))]
            · rw [if_neg w, if_neg (fun z => by rcases (memt x).mp z with z | z; exact w z; exact w2 z)]
  refine main L.length 0 0 (by omega) _ ag2 e7 (by omega) (fun i hi => by simp at hi) rfl (fun x _ => rfl) (fun x hx => ?_)
  rw [f2 x (by omega), if_neg (by simp)]
/-- the frame of a ranking with its settling -/
def WRS (h x c j : Nat) : Prop := WK h x c j ∨ WSt x c j
theorem WRS.o {h x c j : Nat} (w : WRS h x c j) : x = 5 := w.elim (fun w => w.1) (fun w => w.1)
theorem orS_lt {s : Nat → Bool} : ∀ x, x ∈ orS R h day s (R 1) → x < R 1 := fun _ hx => (orS_mem.mp hx).1
theorem wI_rs (hV : VR n R) (hn : n ≤ 13) (hC : CR R (G o1)) (ho : o1 ≠ 5) (ho2 : o2 ≠ 5) (h7 : ∀ i, i < R 1 → G o2 7 i = zI (alS R i)) (hh : h < 12) (hd : day ≤ 9999) (hs : s < 8192)
    (hp : ∀ G', Ag (WRS h) G G' → RKd (G' 5) h (orS R h day s.testBit (R 1)) → G' 5 0 7 = zI (stl R 0 (orS R h day s.testBit (R 1))) → (∀ m, m < R 1 → G' 5 3 m = zI (rfF R [] 0 (orS R h day s.testBit (R 1)) m)) → post G') : wp_X5_rank (fun G1 => wp_X5_settle post o1 o2 (zI h) G1) o1 (zI h) (zI day) (zI s) G := by
  have h13 := Nat.le_trans hV.mk hn
  have hlen := Nat.le_trans (orS_len R h day s.testBit (R 1)) h13
  refine wI_rank hV hn hC ho hh hd hs (fun G1 ag1 hr => ?_)
  refine wI_settle hV hn (by rw [ag1.ob o1 (fun b j w => ho w.1)]; exact hC) ho ho2 (by rw [ag1.ob o2 (fun b j w => ho2 w.1)]; exact h7) hh hr hlen orS_lt (orS_nodup _) (fun G2 ag2 e7 e2 => ?_)
  exact hp G2 ((ag1.mo (fun _ _ _ w => Or.inl w)).tr (ag2.mo (fun _ _ _ w => Or.inr w))) (hr.fr hlen ag2 (fun j _ _ w => by unfold WSt at w; omega) (fun w => by unfold WSt at w; omega)) e7 e2
end
