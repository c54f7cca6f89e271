/-! ===== settleAll ===== -/
theorem en_stay {R : RR} {d m h : Nat} (hm : m < R 1) (he : enB R d m h = false) : bset (enB R d m) (h + 1) = bset (enB R d m) h ∧ bset (hoB R d m) (h + 1) = bset (hoB R d m) h ∧ lsI R d m (h + 1) = lsI R d m h := by
  have h1 : hoB R d m h = false := by
    rw [Bool.eq_false_iff]
    intro z
    have := (hoB_en z).1
    rw [he] at this
    cases this
  have h2 : rfI R d m h = -1 := by
    by_cases w : rfI R d m h = -1
    · exact w
    · have := ((rfI_ne hm).mp w).1
      rw [he] at this
      cases this
  refine ⟨?_, ?_, ?_⟩
  · show bset (enB R d m) h ||| (if enB R d m h = true then 2 ^ h else 0) = _
    rw [he, if_neg (by decide), Nat.or_zero]
  · show bset (hoB R d m) h ||| (if hoB R d m h = true then 2 ^ h else 0) = _
    rw [h1, if_neg (by decide), Nat.or_zero]
  · show (if _ then _ else _) = _
    rw [if_neg (fun w => w.1 h2)]
section
variable {R : RR} {G : GH} {n o1 o2 day s : Nat} {post : GH → Prop}
set_option maxHeartbeats 2000000 in
theorem wI_settleAll (hV : VR n R) (hn : n ≤ 13) (hC : CR R (G o1)) (ho : o1 ≠ 5) (ho2 : o2 ≠ 5) (h7 : ∀ i, i < R 1 → G o2 7 i = zI (alS R i)) (hd : day ≤ 9999) (hs : s < 8192) (hcl : clo R s) (hp : ∀ G', Ag (fun x _ _ => x = 5) G G' → (∀ m, m < R 1 → s.testBit m = true → SA R (G' 5) day m (2 * R 0)) → post G') : wp_X5_settleAll post o1 o2 (zI day) (zI s) G := by
  have h13 := Nat.le_trans hV.mk hn
  have l6 := hV.l6
  have hal : ∀ m, alS R m < 8192 := fun m => bset_lt13 _ h13
  have keep : ∀ G', Ag (fun x _ _ => x = 5) G G' → CR R (G' o1) ∧ (∀ i, i < R 1 → G' o2 7 i = zI (alS R i)) := fun G' ag => ⟨by rw [ag.ob o1 (fun b j w => ho w)]; exact hC, by rw [ag.ob o2 (fun b j w => ho2 w)]; exact h7⟩
  unfold wp_X5_settleAll
  have halves : ∀ f h : Nat, h + f = 2 * R 0 → ∀ G', Ag (fun x _ _ => x = 5) G G' → (∀ m, m < R 1 → s.testBit m = true → SA R (G' 5) day m h) → lp_X5_settleAll_45 post o1 o2 (zI day) (zI s) (zI h) G' := by
    intro f
    induction f with
    | zero =>
      intro h hh G' ag hS
      have : h = 2 * R 0 := by omega
      subst this
      intro P45 K45
      refine K45 _ _ _ _ ?_
      unfold lb_X5_settleAll_45
      rw [wI_halfCount (keep G' ag).1]
      refine br_t (by rw [zI_le (by omega)]; omega) ?_
      exact hp G' ag hS
    | succ f ih =>
      intro h hh G' ag hS
      obtain ⟨hC2, h72⟩ := keep G' ag
      intro P45 K45
      refine K45 _ _ _ _ ?_
      unfold lb_X5_settleAll_45
      rw [wI_halfCount hC2]
      refine br_f (by rw [zI_le (by omega)]; omega) ?_
      refine wI_rs hV hn hC2 ho ho2 h72 (by omega) hd hs (fun G1 ag1 er e7 e2 => ?_)
      rw [orS_filter] at er e7 e2
      generalize hL : (orS R h day (fun _ => true) (R 1)).filter s.testBit = L at er e7 e2
      have hmem : ∀ x, x ∈ L ↔ (x < R 1 ∧ pri R x h day ≠ -1) ∧ s.testBit x = true := fun x => by
        rw [← hL, List.mem_filter]
        exact ⟨fun z => ⟨orL_mem.mp z.1, z.2⟩, fun z => ⟨orL_mem.mpr z.1, z.2⟩⟩
      have hnd : L.Nodup := by rw [← hL, ← orS_filter]; exact orS_nodup _
      have hlen : L.length ≤ 13 := by
        rw [← hL]
        exact Nat.le_trans (List.length_filter_le _ _) (Nat.le_trans (orS_len _ _ _ _ _) h13)
      have hstl : stl R 0 L < 8192 := stl_lt (fun x hx => by have := ((hmem x).mp hx).1.1; omega) (by omega)
      have hlt : ∀ x, x ∈ orS R h day (fun _ => true) (R 1) → x < R 1 := fun x hx => (orS_mem.mp hx).1
      have hbit : ∀ m, s.testBit m = true → (stl R 0 L).testBit m = hoB R day m h := fun m hm => by
        rw [← hL, stl_cut hal hcl hlt (H := 0) (fun i => by rw [Nat.zero_testBit]; rfl), hm, Bool.and_true]
        rfl
      have hrf : ∀ m, s.testBit m = true → rfF R [] 0 L m = rfI R day m h := fun m hm => by
        rw [← hL]
        exact rfF_cut (pre := []) hal hcl hm hlt (fun i => by rw [Nat.zero_testBit]; rfl)
      have ag1' : Ag (fun x _ _ => x = 5) G G1 := ag.tr (ag1.mo (fun x c j w => w.elim (fun w => w.1) (fun w => w.1)))
      have c345 : ∀ c, 4 ≤ c → c ≤ 6 → G1 5 c = G' 5 c := fun c h1 h2 => ag1.ce 5 c (fun j w => by unfold WRS WK WSt at w; omega)
      intro P75 K75
      have inner : ∀ g k : Nat, k + g = L.length → ∀ G'', Ag (fun x _ _ => x = 5) G G'' → (∀ c, c < 4 → G'' 5 c = G1 5 c) → (∀ m, m < R 1 → s.testBit m = true → (m ∈ L.take k → SA R (G'' 5) day m (h + 1)) ∧ (m ∉ L.take k → SA R (G'' 5) day m h)) → P75 (zI day) (zI s) (zI h) (zI k) G'' := by
        intro g
        induction g with
        | zero =>
          intro k hk G'' ag2 hc hS2
          have ht : L.take k = L := List.take_of_length_le (by omega)
          refine K75 _ _ _ _ _ ?_
          unfold lb_X5_settleAll_75
          refine ⟨zI_in (by omega), ?_⟩
          rw [zI_clN (n := h) (by omega), hc 2 (by omega), er.1]
          refine br_t (by rw [zI_le (by omega)]; omega) ?_
          rw [zl1, zI_add]
          refine ih (h + 1) (by omega) G'' ag2 (fun m hm hsm => ?_) P45 K45
          by_cases w : m ∈ L
          · exact (hS2 m hm hsm).1 (by rw [ht]; exact w)
          · have hS3 := (hS2 m hm hsm).2 (by rw [ht]; exact w)
            have he : enB R day m h = false := by
              unfold enB
              refine decide_eq_false (fun z => w ((hmem m).mpr ⟨⟨hm, z⟩, hsm⟩))
            obtain ⟨x1, x2, x3⟩ := en_stay hm he
            unfold SA
            rw [x1, x2, x3]
            exact hS3
        | succ g ih2 =>
          intro k hk G'' ag2 hc hS2
          have hkl : k < L.length := by omega
          have hin := (hmem _).mp (getD_mem hkl)
          obtain ⟨nd1, nd2⟩ := nodup_at hnd hkl
          have et := take_snoc hkl
          generalize hmm : L.getD k 0 = m at hin nd1 nd2 et
          have hm := hin.1.1
          refine K75 _ _ _ _ _ ?_
          unfold lb_X5_settleAll_75
          refine ⟨zI_in (by omega), ?_⟩
          rw [zI_clN (n := h) (by omega), hc 2 (by omega), er.1]
          refine br_f (by rw [zI_le (by omega)]; omega) ?_
          refine wI_inOrder (by omega) hlen (L := L) ⟨by rw [hc 2 (by omega)]; exact er.1, by rw [hc 1 (by omega)]; exact er.2⟩ hkl ?_
          rw [hmm]
          refine wI_noteHalf (R := R) (day := day) h13 hm (by omega) hstl (by rw [hc 0 (by omega)]; exact e7) (hbit m hin.2) (by rw [hc 3 (by omega), e2 m hm, hrf m hin.2]) (decide_eq_true hin.1.2) ((hS2 m hm hin.2).2 nd1) (fun G3 ag3 hS3 => ?_)
          rw [zl1, zI_add]
          refine ih2 (k + 1) (by omega) G3 (ag2.tr (ag3.mo (fun x c j w => w.1))) (fun c hc3 => ?_) (fun x hx hsx => ?_)
          · rw [ag3.ce 5 c (fun j w => by omega)]
            exact hc c hc3
          · have memt : x ∈ L.take (k + 1) ↔ x ∈ L.take k ∨ x = m := by rw [et, List.mem_append, List.mem_singleton]
            by_cases w : x = m
            · subst w
              exact ⟨fun _ => hS3, fun z => absurd (memt.mpr (Or.inr rfl)) z⟩
            · have same : ∀ q, SA R (G'' 5) day x q → SA R (G3 5) day x q := fun q z => by
                unfold SA
                rw [ag3 5 4 x (by omega), ag3 5 5 x (by omega), ag3 5 6 x (by omega)]
                exact z
              exact ⟨fun z => same _ ((hS2 x hx hsx).1 ((memt.mp z).resolve_right w)), fun z => same _ ((hS2 x hx hsx).2 (fun y => z (memt.mpr (Or.inl y))))⟩
      refine inner L.length 0 (by omega) G1 ag1' (fun c _ => rfl) (fun m hm hsm => ⟨fun z => by simp at z, fun _ => ?_⟩)
      unfold SA
      rw [c345 4 (by omega) (by omega), c345 5 (by omega) (by omega), c345 6 (by omega) (by omega)]
      exact hS m hm hsm
  intro P3 K3
  have ini : ∀ f k : Nat, k + f = R 1 → ∀ G', Ag (fun x _ _ => x = 5) G G' → (∀ m, m < k → SA R (G' 5) day m 0) → P3 (zI day) (zI s) (zI k) G' := by
    intro f
    induction f with
    | zero =>
      intro k hk G' ag hS
      refine K3 _ _ _ _ ?_
      unfold lb_X5_settleAll_3
      rw [(keep G' ag).1.mk]
      refine br_t (by rw [zI_le (by omega)]; omega) ?_
      exact halves (2 * R 0) 0 (by omega) G' ag (fun m hm _ => hS m (by omega))
    | succ f ih =>
      intro k hk G' ag hS
      refine K3 _ _ _ _ ?_
      unfold lb_X5_settleAll_3
      rw [(keep G' ag).1.mk]
      refine br_f (by rw [zI_le (by omega)]; omega) ⟨zI_in (by omega), ?_⟩
      rintro _ rfl
      refine ⟨zI_in (by omega), ?_⟩
      rintro _ rfl
      refine ⟨zI_in (by omega), ?_⟩
      rintro _ rfl
      rw [zI_clN (by omega), zl1, zI_add]
      refine ih (k + 1) (by omega) _ (((ag.up rfl).up rfl).up rfl) (fun m hm => ?_)
      unfold SA
      rw [gs_ne (by decide), gs_ne (by decide), gs_eq, gs_ne (by decide), gs_eq, gs_ne (by decide), gs_eq, gs_ne (by decide), gs_ne (by decide)]
      unfold upd
      by_cases w : m = k
      · rw [if_pos w, if_pos w, if_pos w]
        exact ⟨rfl, rfl, rfl⟩
      · rw [if_neg w, if_neg w, if_neg w]
        exact hS m (by omega)
  exact ini (R 1) 0 (by omega) G (Ag.rf G) (fun m hm => by omega)
end
