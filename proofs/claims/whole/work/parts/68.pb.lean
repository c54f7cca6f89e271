/-! mark, letter, used, two, steps -/
def mkV (R : RR) (m : Nat) : Nat → Int
  | 0 => qq R m 12
  | 1 => qq R m 11
  | 2 => qq R m 13
  | 3 => qq R m 0
  | 4 => (snd R m).length
  | 5 => fnS R m
  | _ => crS R m
def o_mark (q : Par) (a w : Int) : Oc := if 0 ≤ a ∧ a < qvR q 1 then (if 0 ≤ w ∧ w ≤ 6 then .inr (mkV (qvR q) a.toNat w.toNat, q) else .inl 0) else .inl 0
def ltV (R : RR) (m p : Nat) (x : Int32) : Int := if x = 0 then (if qq R m 0 ≤ p then -1 else (qq R m (1 + p) : Int) - 97 + 1) else (if (snd R m).length ≤ p then -1 else ((snd R m).getD p 0 : Nat))
def o_letter (q : Par) (a p : Int) (x : Int32) : Oc := if 0 ≤ a ∧ a < qvR q 1 then (if 0 ≤ p then .inr (ltV (qvR q) a.toNat p.toNat x, q) else .inl 0) else .inl 0
def o_used (q : Par) (a k w : Int) : Oc := if 0 ≤ a ∧ a < qvR q 1 then (if 0 ≤ k ∧ k < qq (qvR q) a.toNat 13 then (if 0 ≤ w ∧ w ≤ 2 then .inr ((qq (qvR q) a.toNat (14 + 3 * k.toNat + w.toNat) : Int), q) else .inl 0) else .inl 0) else .inl 0
section
variable {q : Par} {G : GH}
theorem o_yes {c : Prop} [Decidable c] {x y z : Oc} (h : c) (e : x = z) : (if c then x else y) = z := by rw [if_pos h]; exact e
theorem o_not {c : Prop} [Decidable c] {x y z : Oc} (h : ¬ c) (e : y = z) : (if c then x else y) = z := by rw [if_neg h]; exact e
theorem WLk.o {x : Nat} {G1 : GH} (ag : Ag WLk G G1) (hx : x ≠ 6 ∧ x ≠ 0) : G1 x = G x := ag.ob x (fun c j z => by unfold WLk at z; omega)
set_option maxHeartbeats 1000000 in
theorem cI_mark {a w : Int} (ha : I32 a) (hw : I32 w) (h : IC q G) : wp_X7_mark (CO (o_mark q a w) G) (CQ (o_mark q a w) q G) (zI a) (zI w) G := by
  have hV := h.V
  have hC := h.C
  have h12 := hV.mk
  unfold wp_X7_mark
  refine wI_needMark ha hV (by omega) hC (fun a1 => ?_) (fun a1 => CQ.s h (o_not a1 rfl))
  obtain ⟨m, rfl⟩ := Int.eq_ofNat_of_zero_le a1.1
  have hm : m < qvR q 1 := by omega
  have dn : ∀ (k : Nat) (v : Int) (r : Int32) (G1 : GH), w = (k : Int) → k ≤ 6 → mkV (qvR q) m k = v → r = zI v → IC q G1 → G1 24 = G 24 → G1 25 = G 25 → CO (o_mark q (m : Int) w) G r G1 := by
    intro k v r G1 e hk hv hr hI e1 e2
    subst e
    exact CO.mk (o_yes a1 (o_yes (by omega) (by rw [← hv]; rfl))) hr hI e1 e2
  refine ⟨fun z => ?_, fun z => ?_, fun z => ?_, fun z => ?_, fun z => ?_, fun z => ?_, fun z => ?_, fun z => ?_⟩
  · rw [zI_toInt hw] at z
    exact CQ.s h (o_yes a1 (o_not (by omega) rfl))
  · refine ⟨zI_in (by omega), ?_⟩
    rw [zI_clN (by omega)]
    exact dn 0 _ _ G (swk (k := 0) hw (by unfold I32; omega) z) (by omega) rfl (hC.fl hm) h rfl rfl
  · refine ⟨zI_in (by omega), ?_⟩
    rw [zI_clN (by omega)]
    exact dn 1 _ _ G (swk (k := 1) hw (by unfold I32; omega) z) (by omega) rfl (hC.gd hm) h rfl rfl
  · refine ⟨zI_in (by omega), ?_⟩
    rw [zI_clN (by omega)]
    exact dn 2 _ _ G (swk (k := 2) hw (by unfold I32; omega) z) (by omega) rfl (hC.uc hm) h rfl rfl
  · refine ⟨zI_in (by omega), ?_⟩
    rw [zI_clN (by omega)]
    exact dn 3 _ _ G (swk (k := 3) hw (by unfold I32; omega) z) (by omega) rfl (hC.ln hm) h rfl rfl
  · refine wI_likeness h (fun G1 ag h1 k1 k2 k3 => ⟨zI_in (by omega), ?_⟩)
    rw [zI_clN (by omega)]
    exact dn 4 _ _ G1 (swk (k := 4) hw (by unfold I32; omega) z) (by omega) rfl (k1.1 m hm).1 h1 (WLk.o ag (by omega)) (WLk.o ag (by omega))
  · refine wI_likeness h (fun G1 ag h1 k1 k2 k3 => ?_)
    exact wI_fieldOf hV (by omega) hm (k3 m hm).1 (dn 5 _ _ G1 (swk (k := 5) hw (by unfold I32; omega) z) (by omega) rfl rfl h1 (WLk.o ag (by omega)) (WLk.o ag (by omega)))
  · refine wI_likeness h (fun G1 ag h1 k1 k2 k3 => ?_)
    exact wI_crowdedBy hV (by omega) h1.C hm (k3 m hm).1 (dn 6 _ _ G1 (swk (k := 6) hw (by unfold I32; omega) z) (by omega) rfl rfl h1 (WLk.o ag (by omega)) (WLk.o ag (by omega)))
set_option maxHeartbeats 1000000 in
theorem cM_mark {a w : Int} (ha : I32 a) (hw : I32 w) (hP : PV q) (h : IR q G) : wp_X8_mark (MO kc2 (o_mark q a w) q G) (zI a) (zI w) G := by
  have hV := hP.1
  have h12 := hV.mk
  unfold wp_X8_mark
  intro G1 e1
  have s1 := S0.st h e1
  unfold j_X8_mark_23
  refine wM_isMark ha hV (by omega) s1.I.M ?_
  by_cases a1 : 0 ≤ a ∧ a < qvR q 1
  case neg => exact br_bf (decide_eq_false a1) (s1.f (i := 0) (o_not a1 rfl) rfl)
  refine br_bt (decide_eq_true a1) ?_
  rw [show (0 : Int32) = zI 0 from rfl, zl6, wM_within ⟨hw, by omega⟩]
  by_cases w1 : 0 ≤ w ∧ w ≤ 6
  case neg => exact br_bf (decide_eq_false w1) (s1.f (i := 0) (o_yes a1 (o_not w1 rfl)) rfl)
  refine br_bt (decide_eq_true w1) ?_
  refine wM_lay (n := 12) hV (by omega) s1.I.M s1.I.L (fun G2 ag2 hL2 h72 => ?_)
  have s2 := s1.l ag2 hL2
  have hM := s2.I.M
  obtain ⟨m, rfl⟩ := Int.eq_ofNat_of_zero_le a1.1
  have hm : m < qvR q 1 := by omega
  have dn : ∀ (k : Nat) (v : Int) (r : Int32), w = (k : Int) → mkV (qvR q) m k = v → r = zI v → MO kc2 (o_mark q (m : Int) w) q G r G2 := by
    intro k v r e hv hr
    subst e
    exact s2.ok (o_yes a1 (o_yes w1 (by rw [← hv]; rfl))) hr
  refine ⟨fun z => ?_, fun z => ?_, fun z => ?_, fun z => ?_, fun z => ?_, fun z => ?_, fun z => ?_⟩
  · rw [zI_toInt hw] at z
    refine ⟨zI_in (by omega), ?_⟩
    rw [zI_clN (by omega)]
    exact dn 6 _ _ (by omega) rfl (hL2.2.2 m hm).2.1
  · exact wM_of1 hM m 12 rfl rfl (by omega) (by omega) (dn 0 _ _ (swk (k := 0) hw (by unfold I32; omega) z) rfl rfl)
  · exact wM_of1 hM m 11 rfl rfl (by omega) (by omega) (dn 1 _ _ (swk (k := 1) hw (by unfold I32; omega) z) rfl rfl)
  · exact wM_of1 hM m 13 rfl rfl (by omega) (by omega) (dn 2 _ _ (swk (k := 2) hw (by unfold I32; omega) z) rfl rfl)
  · exact wM_of1 hM m 0 rfl rfl (by omega) (by omega) (dn 3 _ _ (swk (k := 3) hw (by unfold I32; omega) z) rfl rfl)
  · refine ⟨zI_in (by omega), ?_⟩
    rw [zI_clN (by omega)]
    exact dn 4 _ _ (swk (k := 4) hw (by unfold I32; omega) z) rfl (hL2.1 m hm).1
  · refine ⟨zI_in (by omega), ?_⟩
    rw [zI_clN (by omega)]
    exact dn 5 _ _ (swk (k := 5) hw (by unfold I32; omega) z) rfl (hL2.2.2 m hm).1
theorem cI_letter {a p : Int} {x : Int32} (ha : I32 a) (hp : I32 p) (h : IC q G) : wp_X7_letter (CO (o_letter q a p x) G) (CQ (o_letter q a p x) q G) (zI a) (zI p) x G := by
  have hV := h.V
  have hC := h.C
  have h12 := hV.mk
  unfold wp_X7_letter
  refine wI_needMark ha hV (by omega) hC (fun a1 => ?_) (fun a1 => CQ.s h (o_not a1 rfl))
  obtain ⟨m, rfl⟩ := Int.eq_ofNat_of_zero_le a1.1
  have hm : m < qvR q 1 := by omega
  have hl := hV.ln hm
  rw [zl0, zI_le ⟨by omega, hp⟩]
  refine br_c (fun p1 => ?_) (fun p1 => CQ.s h (o_yes a1 (o_not p1 rfl)))
  obtain ⟨k, rfl⟩ := Int.eq_ofNat_of_zero_le p1
  unfold I32 at hp
  refine br_c (fun x1 => ?_) (fun x1 => ?_)
  · refine ⟨zI_in (by omega), ?_⟩
    rw [zI_clN (n := m) (by omega), hC.ln hm, zI_le (by omega)]
    refine br_c (fun z => ?_) (fun z => ?_)
    · refine CO.s h (o_yes a1 (o_yes p1 rfl)) ?_
      show (-1 : Int32) = zI (ltV (qvR q) m k x)
      unfold ltV
      rw [if_pos (by exact x1), if_pos (by omega)]
      rfl
    · have e : zI (m : Int) * (10 : Int32) + zI (k : Int) = zI ((10 * m + k : Nat) : Int) := by
        rw [zl10, zI_mul, zI_add]
        exact zI_cg (by omega)
      have hk : k < qq (qvR q) m 0 := by omega
      have l1 := hV.lt1 hm hk
      have l2 := hV.lt2 hm hk
      rw [e, zI_clN (by omega), hC.lt hm hk, zI_nb (by omega), zl1, zI_add]
      refine ⟨zI_in (by omega), CO.s h (o_yes a1 (o_yes p1 rfl)) ?_⟩
      show _ = zI (ltV (qvR q) m k x)
      unfold ltV
      rw [if_pos (by exact x1), if_neg (by omega)]
  · refine wI_likeness h (fun G1 ag h1 k1 k2 k3 => ⟨zI_in (by omega), ?_⟩)
    have hS := k1.1 m hm
    have hl2 := snd_len (qvR q) m
    rw [zI_clN (n := m) (by omega), hS.1, zI_le (by omega)]
    refine br_c (fun z => ?_) (fun z => ?_)
    · refine CO.mk (o_yes a1 (o_yes p1 rfl)) ?_ h1 (WLk.o ag (by omega)) (WLk.o ag (by omega))
      show (-1 : Int32) = zI (ltV (qvR q) m k x)
      unfold ltV
      rw [if_neg (by exact x1), if_pos (by omega)]
      rfl
    · have e : zI (m : Int) * (20 : Int32) + zI (k : Int) = zI ((20 * m + k : Nat) : Int) := by
        rw [zl20, zI_mul, zI_add]
        exact zI_cg (by omega)
      have hk : k < (snd (qvR q) m).length := by omega
      have hlt : (snd (qvR q) m).getD k 0 < 10 := by
        rw [List.getD_eq_getElem?_getD, List.getElem?_eq_getElem hk, Option.getD_some]
        exact snd_lt (List.getElem_mem hk)
      rw [e, zI_clN (by omega), hS.2 k hk, zI_nb (by omega)]
      refine ⟨zI_in (by omega), CO.mk (o_yes a1 (o_yes p1 rfl)) ?_ h1 (WLk.o ag (by omega)) (WLk.o ag (by omega))⟩
      show _ = zI (ltV (qvR q) m k x)
      unfold ltV
      rw [if_neg (by exact x1), if_neg (by omega)]
theorem cM_letter {a p : Int} {x : Int32} (ha : I32 a) (hp : I32 p) (hP : PV q) (h : IR q G) : wp_X8_letter (MO kc2 (o_letter q a p x) q G) (zI a) (zI p) x G := by
  have hV := hP.1
  have h12 := hV.mk
  unfold wp_X8_letter
  intro G1 e1
  have s1 := S0.st h e1
  unfold j_X8_letter_17
  refine wM_isMark ha hV (by omega) s1.I.M ?_
  by_cases a1 : 0 ≤ a ∧ a < qvR q 1
  case neg => exact br_bf (decide_eq_false a1) (s1.f (i := 0) (o_not a1 rfl) rfl)
  refine br_bt (decide_eq_true a1) ?_
  rw [zl0, zI_le ⟨by omega, hp⟩]
  refine br_c (fun p1 => ?_) (fun p1 => s1.f (i := 0) (o_yes a1 (o_not p1 rfl)) rfl)
  refine wM_lay (n := 12) hV (by omega) s1.I.M s1.I.L (fun G2 ag2 hL2 h72 => ?_)
  have s2 := s1.l ag2 hL2
  have hM := s2.I.M
  obtain ⟨m, rfl⟩ := Int.eq_ofNat_of_zero_le a1.1
  have hm : m < qvR q 1 := by omega
  have hl := hV.ln hm
  obtain ⟨k, rfl⟩ := Int.eq_ofNat_of_zero_le p1
  unfold I32 at hp
  refine br_c (fun x1 => ?_) (fun x1 => ?_)
  · refine wM_of1 hM m 0 rfl rfl (by omega) (by omega) ?_
    rw [zI_le (by omega)]
    refine br_c (fun z => ?_) (fun z => ?_)
    · refine s2.ok (o_yes a1 (o_yes p1 rfl)) ?_
      show (-1 : Int32) = zI (ltV (qvR q) m k x)
      unfold ltV
      rw [if_pos (by exact x1), if_pos (by omega)]
      rfl
    · refine wM_of1 hM m (1 + k) rfl (by rw [zl1, zI_add]; exact zI_cg (by omega)) (by omega) (by omega) ?_
      rw [zl97, zl1, zI_sub, zI_add]
      refine s2.ok (o_yes a1 (o_yes p1 rfl)) ?_
      show _ = zI (ltV (qvR q) m k x)
      unfold ltV
      rw [if_pos (by exact x1), if_neg (by omega)]
  · have hS := hL2.1 m hm
    have hl2 := snd_len (qvR q) m
    refine ⟨zI_in (by omega), ?_⟩
    rw [zI_clN (n := m) (by omega), hS.1, zI_le (by omega)]
    refine br_c (fun z => ?_) (fun z => ?_)
    · refine s2.ok (o_yes a1 (o_yes p1 rfl)) ?_
      show (-1 : Int32) = zI (ltV (qvR q) m k x)
      unfold ltV
      rw [if_neg (by exact x1), if_pos (by omega)]
      rfl
    · have e : (20 : Int32) * zI (m : Int) + zI (k : Int) = zI ((20 * m + k : Nat) : Int) := by
        rw [zl20, zI_mul, zI_add]
        exact zI_cg (by omega)
      have hk : k < (snd (qvR q) m).length := by omega
      rw [e, zI_clN (by omega), hS.2 k hk]
      refine ⟨zI_in (by omega), s2.ok (o_yes a1 (o_yes p1 rfl)) ?_⟩
      show _ = zI (ltV (qvR q) m k x)
      unfold ltV
      rw [if_neg (by exact x1), if_neg (by omega)]
theorem cI_used {a k w : Int} (ha : I32 a) (hk : I32 k) (hw : I32 w) (h : IC q G) : wp_X7_used (CO (o_used q a k w) G) (CQ (o_used q a k w) q G) (zI a) (zI k) (zI w) G := by
  have hV := h.V
  have hC := h.C
  have h12 := hV.mk
  unfold wp_X7_used j_X7_used_22
  refine wI_needMark ha hV (by omega) hC (fun a1 => ?_) (fun a1 => CQ.s h (o_not a1 rfl))
  obtain ⟨m, rfl⟩ := Int.eq_ofNat_of_zero_le a1.1
  have hm : m < qvR q 1 := by omega
  have hu := hV.uc hm
  unfold I32 at hk
  rw [zl0, zI_lt (by omega)]
  refine br_c (fun k1 => CQ.s h (o_yes a1 (o_not (by omega) rfl))) (fun k1 => ⟨zI_in (by omega), ?_⟩)
  rw [zI_clN (by omega), hC.uc hm, zI_lt (by omega)]
  refine br_c (fun k2 => ?_) (fun k2 => CQ.s h (o_yes a1 (o_not (by show ¬ (_ ∧ k < (qq (qvR q) m 13 : Nat)); omega) rfl)))
  have k3 : 0 ≤ k ∧ k < (qq (qvR q) m 13 : Nat) := by omega
  rw [zl2]
  refine wI_needWhat hw (by unfold I32; omega) (fun w1 => ?_) (fun w1 => CQ.s h (o_yes a1 (o_yes k3 (o_not w1 rfl))))
  obtain ⟨j, rfl⟩ := Int.eq_ofNat_of_zero_le k3.1
  obtain ⟨i, rfl⟩ := Int.eq_ofNat_of_zero_le w1.1
  rw [wI_useAt, zI_add]
  refine ⟨zI_in (by omega), CO.s h (o_yes a1 (o_yes k3 (o_yes w1 rfl))) ?_⟩
  rw [show (((36 * m + 3 * j : Nat) : Int) + (i : Int)) = ((36 * m + 3 * j + i : Nat) : Int) by omega, zI_clN (by omega), hC.us hm (by omega) (by omega)]
  rfl
theorem cM_used {a k w : Int} (ha : I32 a) (hk : I32 k) (hw : I32 w) (hP : PV q) (h : IR q G) : wp_X8_used (MO kc2 (o_used q a k w) q G) (zI a) (zI k) (zI w) G := by
  have hV := hP.1
  have h12 := hV.mk
  unfold wp_X8_used
  intro G1 e1
  have s1 := S0.st h e1
  have hM := s1.I.M
  unfold j_X8_used_39
  refine wM_isMark ha hV (by omega) hM ?_
  by_cases a1 : 0 ≤ a ∧ a < qvR q 1
  case neg => exact br_bf (decide_eq_false a1) (s1.f (i := 0) (o_not a1 rfl) rfl)
  refine br_bt (decide_eq_true a1) ?_
  obtain ⟨m, rfl⟩ := Int.eq_ofNat_of_zero_le a1.1
  have hm : m < qvR q 1 := by omega
  have hu := hV.uc hm
  refine wM_of1 hM m 13 rfl rfl (by omega) (by omega) ?_
  rw [show (0 : Int32) = zI 0 from rfl, zl1, zI_sub, wM_within ⟨hk, by omega⟩]
  by_cases k1 : 0 ≤ k ∧ k < (qq (qvR q) m 13 : Nat)
  case neg => exact br_bf (decide_eq_false (by omega)) (s1.f (i := 0) (o_yes a1 (o_not k1 rfl)) rfl)
  refine br_bt (decide_eq_true (by omega)) ?_
  rw [zl2, wM_within ⟨hw, by omega⟩]
  by_cases w1 : 0 ≤ w ∧ w ≤ 2
  case neg => exact br_bf (decide_eq_false w1) (s1.f (i := 0) (o_yes a1 (o_yes k1 (o_not w1 rfl))) rfl)
  refine br_bt (decide_eq_true w1) ?_
  obtain ⟨j, rfl⟩ := Int.eq_ofNat_of_zero_le k1.1
  obtain ⟨i, rfl⟩ := Int.eq_ofNat_of_zero_le w1.1
  refine wM_of1 hM m (14 + 3 * j + i) rfl (by rw [zl14, zl3, zI_mul, zI_add, zI_add]; exact zI_cg (by omega)) (by omega) (by omega) ?_
  exact s1.ok (o_yes a1 (o_yes k1 (o_yes w1 rfl))) rfl
end
