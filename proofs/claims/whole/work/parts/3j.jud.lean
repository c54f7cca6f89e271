/-! ===== fields, crowds, who is alike ===== -/
def fldB (R : RR) (a b : Nat) : Bool := decide (a ≠ b) && (nrB R a b && decide ((R 2 : Int) ≤ nmS R a b))
def fsS (R : RR) (a : Nat) : Nat := bset (fldB R a) (R 1)
def fnS (R : RR) (a : Nat) : Nat := cntB (fldB R a) (R 1)
def crS (R : RR) (a : Nat) : Nat := fnS R a - R 4
def brS (R : RR) (a b : Nat) : Int := min 100 ((R 2 : Int) + (R 3 : Int) * (max (crS R a) (crS R b) : Nat))
def alB (R : RR) (a b : Nat) : Bool := decide (a ≠ b) && (nrB R a b && decide (brS R a b ≤ nmS R a b))
def alS (R : RR) (a : Nat) : Nat := bset (alB R a) (R 1)
theorem fldB_sym {R : RR} {n a b : Nat} (hV : VR n R) (ha : a < R 1) (hb : b < R 1) : fldB R a b = fldB R b a := by
  unfold fldB
  rw [nrB_sym hV ha hb, nmS_sym hV ha hb]
  congr 1
  exact decide_eq_decide.mpr ⟨fun h => h.symm, fun h => h.symm⟩
theorem brS_sym (R : RR) (a b : Nat) : brS R a b = brS R b a := by
  unfold brS
  rw [Nat.max_comm]
theorem alB_sym {R : RR} {n a b : Nat} (hV : VR n R) (ha : a < R 1) (hb : b < R 1) : alB R a b = alB R b a := by
  unfold alB
  rw [nrB_sym hV ha hb, nmS_sym hV ha hb, brS_sym]
  congr 1
  exact decide_eq_decide.mpr ⟨fun h => h.symm, fun h => h.symm⟩
theorem fnS_le {n : Nat} {R : RR} (hV : VR n R) (hn : n ≤ 13) (a : Nat) : fnS R a ≤ 13 := Nat.le_trans (cntB_le _ _) (Nat.le_trans hV.mk hn)
theorem brS_rg {n : Nat} {R : RR} (hV : VR n R) (hn : n ≤ 13) (a b : Nat) : (R 2 : Int) ≤ brS R a b ∧ brS R a b ≤ 100 ∧ (R 3 : Int) * (max (crS R a) (crS R b) : Nat) ≤ 260 ∧ 0 ≤ (R 3 : Int) * (max (crS R a) (crS R b) : Nat) := by
  have h0 := hV.r0
  have h1 := hV.r1
  have f1 := fnS_le hV hn a
  have f2 := fnS_le hV hn b
  have c1 : crS R a ≤ 13 := Nat.le_trans (Nat.sub_le _ _) f1
  have c2 : crS R b ≤ 13 := Nat.le_trans (Nat.sub_le _ _) f2
  have p0 : (0 : Int) ≤ (R 3 : Int) * (max (crS R a) (crS R b) : Nat) := Int.mul_nonneg (by omega) (by omega)
  have p1 : (R 3 : Int) * (max (crS R a) (crS R b) : Nat) ≤ (20 : Int) * 13 := Int.mul_le_mul (by omega) (by omega) (by omega) (by omega)
  unfold brS
  omega
/-- what a likeness tells: names, goods, judged -/
def KN (R : RR) (A : Nat → Nat → Int32) : Prop := (∀ m, m < R 1 → HS A 1 2 m (snd R m)) ∧ ∀ a b, a < R 1 → b < R 1 → a ≠ b → A 3 (13 * a + b) = zI (lkL R a b) ∧ A 4 (13 * a + b) = zI (lkS R a b)
def KG (R : RR) (A : Nat → Nat → Int32) : Prop := ∀ a b, a < R 1 → b < R 1 → A 5 (13 * a + b) = zI (apS R a b)
def KJ (R : RR) (A : Nat → Nat → Int32) : Prop := ∀ m, m < R 1 → A 6 m = zI (fsS R m) ∧ A 7 m = zI (alS R m)
/-- names of the near alone -/
def KNn (R : RR) (A : Nat → Nat → Int32) : Prop := (∀ m, m < R 1 → HS A 1 2 m (snd R m)) ∧ ∀ a b, a < R 1 → b < R 1 → a ≠ b → nrB R a b = true → A 3 (13 * a + b) = zI (lkL R a b) ∧ A 4 (13 * a + b) = zI (lkS R a b)
theorem KN.n {R : RR} {A : Nat → Nat → Int32} (h : KN R A) : KNn R A := ⟨h.1, fun a b ha hb hne _ => h.2 a b ha hb hne⟩
section
variable {R : RR} {G : GH} {n o o1 a b : Nat} {post : Int32 → GH → Prop}
theorem wI_fieldOf (hV : VR n R) (hn : n ≤ 13) (ha : a < R 1) (h6 : G o 6 a = zI (fsS R a)) (hp : post (zI (fnS R a)) G) : wp_X1_fieldOf post o (zI a) G := by
  have h13 := Nat.le_trans hV.mk hn
  unfold wp_X1_fieldOf
  refine ⟨zI_in (by omega), ?_⟩
  rw [zI_clN (by omega), h6]
  refine wI_bitCount (bset_lt13 _ h13) ?_
  unfold fsS
  rw [cntB_bset h13]
  exact hp
theorem wI_crowdedBy (hV : VR n R) (hn : n ≤ 13) (hC : CR R (G o1)) (ha : a < R 1) (h6 : G o 6 a = zI (fsS R a)) (hp : post (zI (crS R a)) G) : wp_X1_crowdedBy post o o1 (zI a) G := by
  have f1 := fnS_le hV hn a
  have r2 := hV.r2
  unfold wp_X1_crowdedBy
  refine wI_fieldOf hV hn ha h6 ?_
  have e : G o1 11 2 = zI (R 4) := hC.rl (w := 2) (by decide)
  rw [e, zI_sub, zl0, zI_max (by omega)]
  have : max (0 : Int) ((fnS R a : Int) - (R 4 : Int)) = (crS R a : Nat) := by
    unfold crS
    omega
  rw [this]
  exact hp
theorem wI_likenessBorne (hV : VR n R) (hn : n ≤ 13) (hC : CR R (G o1)) (ha : a < R 1) (hb : b < R 1) (h6 : G o 6 a = zI (fsS R a)) (h6b : G o 6 b = zI (fsS R b)) (hp : post (zI (brS R a b)) G) : wp_X1_likenessBorne post o o1 (zI a) (zI b) G := by
  have hbr := brS_rg hV hn a b
  have h0 := hV.r0
  have f1 := fnS_le hV hn a
  have f2 := fnS_le hV hn b
  have c1 : crS R a ≤ 13 := Nat.le_trans (Nat.sub_le _ _) f1
  have c2 : crS R b ≤ 13 := Nat.le_trans (Nat.sub_le _ _) f2
  unfold wp_X1_likenessBorne
  refine wI_crowdedBy hV hn hC ha h6 ?_
  refine wI_crowdedBy hV hn hC hb h6b ?_
  rintro _ rfl
  have e0 : G o1 11 0 = zI (R 2) := hC.rl (w := 0) (by decide)
  have e1 : G o1 11 1 = zI (R 3) := hC.rl (w := 1) (by decide)
  have em : max (crS R a : Int) (crS R b : Int) = ((max (crS R a) (crS R b) : Nat) : Int) := by omega
  rw [e0, e1, zI_max (by omega), em, zI_mul, zI_add, zl100, zI_min (by omega)]
  exact hp
end
section
variable {R : RR} {G : GH} {n o o1 a b : Nat} {post : Bool → GH → Prop}
/-- a couple is joined in rows of bits -/
theorem wI_setCouple1 {k N s t : Nat} (hN : N ≤ 13) (ha : a < N) (hb : b < N) (hab : a ≠ b) (gs0 : G o k a = zI s) (gt0 : G o k b = zI t) (hs : s < 8192) (hp : ∀ G', Ag (fun x c j => x = o ∧ c = k ∧ (j = a ∨ j = b)) G G' → G' o k a = zI ((s ||| 2 ^ b : Nat) : Int) → G' o k b = zI ((t ||| 2 ^ a : Nat) : Int) → post (s.testBit b) G') : wp_X7_setCouple post o k N (zI a) (zI b) (1 : Int32) G := by
  unfold wp_X7_setCouple
  refine ⟨zI_in (by omega), ?_⟩
  rw [zI_clN (by omega), gs0, wI_isIn (by omega) (by omega)]
  refine br_f (by decide) ?_
  refine ⟨zI_in (by omega), zI_in (by omega), ?_⟩
  rintro _ rfl
  refine ⟨zI_in (by omega), zI_in (by omega), ?_⟩
  rintro _ rfl
  rw [zI_clN (by omega), zI_bit (by omega), zI_bit (by omega), gs0, zI_or]
  have e1 : gs G o k (upd (G o k) a (zI ((s ||| 2 ^ b : Nat) : Int))) o k b = zI t := by
    rw [gs_eq]
    unfold upd
    rw [if_neg (by omega)]
    exact gt0
  rw [e1, zI_or]
  refine hp _ (((Ag.rf G).up ⟨rfl, rfl, Or.inl rfl⟩).up ⟨rfl, rfl, Or.inr rfl⟩) ?_ ?_
  · rw [gs_eq, gs_eq]
    unfold upd
    rw [if_neg hab, if_pos rfl]
  · rw [gs_eq]
    unfold upd
    rw [if_pos rfl]
end
/-- which couples are told when all below a, and those of a below b, are told -/
def upto (a b i j : Nat) : Bool := decide (max i j < a ∨ max i j = a ∧ min i j < b)
section
variable {R : RR} {G : GH} {n o o1 : Nat} {post : GH → Prop}
theorem bset_up {p : Nat → Bool} {N b s : Nat} {p' : Nat → Bool} (e : s = bset p N) (hb : b < N) (h : ∀ i, i < N → p' i = (p i || decide (i = b))) : s ||| 2 ^ b = bset p' N := by
  subst e
  apply bset_eq
  intro i
  rw [Nat.testBit_or, bset_tb, Nat.testBit_two_pow]
  by_cases q : i < N
  · rw [decide_eq_true q, h i q]
    by_cases w : i = b
    · subst w
      simp
    · rw [decide_eq_false w, decide_eq_false (fun z => w z.symm)]
      simp
  · rw [decide_eq_false q, decide_eq_false (by omega)]
    rfl
theorem bset_cg {p p' : Nat → Bool} {N : Nat} (h : ∀ i, i < N → p i = p' i) : bset p N = bset p' N := by
  apply bset_eq
  intro i
  rw [bset_tb]
  by_cases q : i < N
  · rw [h i q]
  · rw [decide_eq_false q]
    rfl
/-- rows of bits, told up to a place -/
def RB (R : RR) (p : Nat → Nat → Bool) (A : Nat → Int32) (a b N : Nat) : Prop := ∀ m, m < N → A m = zI (bset (fun i => upto a b m i && p m i) (R 1))
theorem RB.row {R : RR} {p : Nat → Nat → Bool} {A : Nat → Int32} {a N : Nat} (h : RB R p A a a N) (hd : ∀ m, p m m = false) : RB R p A (a + 1) 0 N := by
  intro m hm
  rw [h m hm]
  congr 2
  refine bset_cg (fun i hi => ?_)
  by_cases q : i = m
  · subst q
    rw [hd]
    simp
  · congr 1
    unfold upto
    exact decide_eq_decide.mpr (by omega)
theorem RB.skip {R : RR} {p : Nat → Nat → Bool} {A : Nat → Int32} {a b N : Nat} (h : RB R p A a b N) (hab : b < a) (h0 : p a b = false) (h1 : p b a = false) : RB R p A a (b + 1) N := by
  intro m hm
  rw [h m hm]
  congr 2
  refine bset_cg (fun i hi => ?_)
  by_cases q : m = a ∧ i = b
  · rw [q.1, q.2, h0]
    simp
  · by_cases q2 : m = b ∧ i = a
    · rw [q2.1, q2.2, h1]
      simp
    · congr 1
      unfold upto
      exact decide_eq_decide.mpr (by omega)
theorem RB.join {R : RR} {p : Nat → Nat → Bool} {A B : Nat → Int32} {a b N : Nat} (h : RB R p A a b N) (hab : b < a) (ha : a < R 1) (haN : a < N) (h0 : p a b = true) (h1 : p b a = true) (hB : ∀ j, j ≠ a → j ≠ b → B j = A j) (ba : B a = zI ((bset (fun i => upto a b a i && p a i) (R 1) ||| 2 ^ b : Nat) : Int)) (bb : B b = zI ((bset (fun i => upto a b b i && p b i) (R 1) ||| 2 ^ a : Nat) : Int)) : RB R p B a (b + 1) N := by
  intro m hm
  by_cases q : m = a
  · subst q
    rw [ba]
    congr 2
    refine bset_up rfl (by omega) (fun i hi => ?_)
    by_cases w : i = b
    · subst w
      rw [h0]
      unfold upto
      rw [decide_eq_true (by omega), decide_eq_true rfl]
      simp
    · rw [decide_eq_false w, Bool.or_false]
      congr 1
      unfold upto
      exact decide_eq_decide.mpr (by omega)
  · by_cases q2 : m = b
    · subst q2
      rw [bb]
      congr 2
      refine bset_up rfl (by omega) (fun i hi => ?_)
      by_cases w : i = a
      · subst w
        rw [h1]
        unfold upto
        rw [decide_eq_true (by omega), decide_eq_true rfl]
        simp
      · rw [decide_eq_false w, Bool.or_false]
        congr 1
        unfold upto
        exact decide_eq_decide.mpr (by omega)
    · rw [hB m q q2, h m hm]
      congr 2
      refine bset_cg (fun i hi => ?_)
      congr 1
      unfold upto
      exact decide_eq_decide.mpr (by omega)
theorem RB.full {R : RR} {p : Nat → Nat → Bool} {A : Nat → Int32} (h : RB R p A (R 1) 0 (R 1)) : ∀ m, m < R 1 → A m = zI (bset (p m) (R 1)) := by
  intro m hm
  rw [h m hm]
  congr 2
  refine bset_cg (fun i hi => ?_)
  unfold upto
  rw [decide_eq_true (by omega)]
  rfl
set_option maxHeartbeats 2000000 in
theorem wI_judge (hV : VR n R) (hn : n ≤ 13) (hC : CR R (G o1)) (ho : o1 ≠ o) (hN : KNn R (G o)) (hG : KG R (G o)) (hp : ∀ G', Ag (fun x c _ => x = o ∧ (c = 6 ∨ c = 7)) G G' → KJ R (G' o) → post G') : wp_X1_judge post o o1 G := by
  have h13 := Nat.le_trans hV.mk hn
  have r0 := hV.r0
  have keep : ∀ G', Ag (fun x c _ => x = o ∧ (c = 6 ∨ c = 7)) G G' → CR R (G' o1) ∧ (∀ c, c ≠ 6 → c ≠ 7 → G' o c = G o c) := fun G' ag => ⟨by rw [ag.ob o1 (fun b j w => ho w.1)]; exact hC, fun c h6 h7 => ag.ce o c (fun j w => by omega)⟩
  have fd : ∀ m, fldB R m m = false := fun m => by unfold fldB; rw [decide_eq_false (by omega)]; rfl
  have ad : ∀ m, alB R m m = false := fun m => by unfold alB; rw [decide_eq_false (by omega)]; rfl
  unfold wp_X1_judge
  -- the second pass
  have second : ∀ f a : Nat, a + f = R 1 → ∀ G', Ag (fun x c _ => x = o ∧ (c = 6 ∨ c = 7)) G G' → (∀ m, m < R 1 → G' o 6 m = zI (fsS R m)) → RB R (alB R) (G' o 7) a 0 (R 1) → lp_X1_judge_82 post o o1 (zI a) G' := by
    intro f
    induction f with
    | zero =>
      intro a ha G' ag h6 h7
      have : a = R 1 := by omega
      subst this
      intro P82 K82
      refine K82 _ _ ?_
      unfold lb_X1_judge_82
      rw [(keep G' ag).1.mk]
      refine br_t (by rw [zI_le (by omega)]; omega) ?_
      exact hp G' ag (fun m hm => ⟨h6 m hm, h7.full m hm⟩)
    | succ f ih =>
      intro a ha G' ag h6 h7
      intro P82 K82
      refine K82 _ _ ?_
      unfold lb_X1_judge_82
      rw [(keep G' ag).1.mk]
      refine br_f (by rw [zI_le (by omega)]; omega) ?_
      intro P92 K92
      have inner : ∀ g b : Nat, b + g = a → ∀ G'', Ag (fun x c _ => x = o ∧ (c = 6 ∨ c = 7)) G G'' → (∀ m, m < R 1 → G'' o 6 m = zI (fsS R m)) → RB R (alB R) (G'' o 7) a b (R 1) → P92 (zI a) (zI b) G'' := by
        intro g
        induction g with
        | zero =>
          intro b hb G'' ag2 h62 h72
          have : b = a := by omega
          subst this
          refine K92 _ _ _ ?_
          unfold lb_X1_judge_92
          refine br_t (by rw [zI_le (by omega)]; omega) ?_
          rw [zl1, zI_add]
          exact ih (b + 1) (by omega) G'' ag2 h62 (h72.row ad) P82 K82
        | succ g ih2 =>
          intro b hb G'' ag2 h62 h72
          have hfs : fsS R a < 8192 := bset_lt13 _ h13
          have nr := nmS_rg hV a b
          have br := brS_rg hV hn a b
          obtain ⟨hC2, hk2⟩ := keep G'' ag2
          refine K92 _ _ _ ?_
          unfold lb_X1_judge_92
          refine br_f (by rw [zI_le (by omega)]; omega) ?_
          refine ⟨zI_in (by omega), ?_⟩
          rw [zI_clN (by omega), h62 a (by omega), wI_isIn (by omega) (by omega), zl1, zI_add]
          have hsk : alB R a b = false → P92 (zI a) (zI ((b : Int) + 1)) G'' := by
            intro h0
            exact ih2 (b + 1) (by omega) G'' ag2 h62 (h72.skip (by omega) h0 (by rw [alB_sym hV (by omega) (by omega)]; exact h0))
          have hbit : (fsS R a).testBit b = fldB R a b := by
            unfold fsS
            rw [bset_tb, decide_eq_true (by omega)]
            rfl
          rw [hbit]
          by_cases z : fldB R a b = true
          · refine br_bt z ?_
            have znr : nrB R a b = true := by
              unfold fldB at z
              rw [Bool.and_eq_true, Bool.and_eq_true] at z
              exact z.2.1
            have hnm := hN.2 a b (by omega) (by omega) (by omega) znr
            refine wI_ofNames hV hC2 (by omega) (by omega) (by rw [hk2 3 (by omega) (by omega)]; exact hnm.1) (by rw [hk2 4 (by omega) (by omega)]; exact hnm.2) ?_
            refine wI_likenessBorne hV hn hC2 (by omega) (by omega) (h62 a (by omega)) (h62 b (by omega)) ?_
            refine br_c (fun q => ?_) (fun q => ?_)
            · rw [zI_lt (by omega)] at q
              refine hsk ?_
              unfold alB
              rw [decide_eq_false (p := brS R a b ≤ nmS R a b) (by omega)]
              simp
            · rw [zI_lt (by omega)] at q
              have h1 : alB R a b = true := by
                unfold alB
                rw [decide_eq_true (p := brS R a b ≤ nmS R a b) (by omega), znr, decide_eq_true (by omega)]
                rfl
              have hl : ∀ m, bset (fun i => upto a b m i && alB R m i) (R 1) < 8192 := fun m => bset_lt13 _ h13
              refine wI_setCouple1 (by omega) (by omega) (by omega) (by omega) (h72 a (by omega)) (h72 b (by omega)) (hl a) (fun G3 ag3 e1 e2 => ?_)
              have k6 : G3 o 6 = G'' o 6 := ag3.ce o 6 (fun j w => by omega)
              refine ih2 (b + 1) (by omega) G3 (ag2.tr (ag3.mo (fun x c j w => ⟨w.1, Or.inr w.2.1⟩))) (by rw [k6]; exact h62) ?_
              exact h72.join (by omega) (by omega) (by omega) h1 (by rw [alB_sym hV (by omega) (by omega)]; exact h1) (fun j hj1 hj2 => ag3 o 7 j (fun w => by omega)) e1 e2
          · refine br_bf (by simpa using z) ?_
            refine hsk ?_
            rw [Bool.eq_false_iff]
            intro w
            apply z
            unfold alB at w
            unfold fldB
            rw [Bool.and_eq_true, Bool.and_eq_true, decide_eq_true_eq, decide_eq_true_eq] at w
            rw [Bool.and_eq_true, Bool.and_eq_true, decide_eq_true_eq, decide_eq_true_eq]
            exact ⟨w.1, w.2.1, by omega⟩
      exact inner a 0 (by omega) G' ag h6 h7
  have first : ∀ f a : Nat, a + f = R 1 → ∀ G', Ag (fun x c _ => x = o ∧ (c = 6 ∨ c = 7)) G G' → RB R (fldB R) (G' o 6) a 0 a → (∀ m, m < a → G' o 7 m = zI 0) → lp_X1_judge_2 post o o1 (zI a) G' := by
    intro f
    induction f with
    | zero =>
      intro a ha G' ag h6 h7
      have : a = R 1 := by omega
      subst this
      intro P2 K2
      refine K2 _ _ ?_
      unfold lb_X1_judge_2
      rw [(keep G' ag).1.mk]
      refine br_t (by rw [zI_le (by omega)]; omega) ?_
      refine second (R 1) 0 (by omega) G' ag h6.full (fun m hm => ?_)
      rw [h7 m hm]
      congr 1
      have : bset (fun i => upto 0 0 m i && alB R m i) (R 1) = 0 := by
        symm
        apply bset_eq
        intro i
        rw [Nat.zero_testBit]
        unfold upto
        rw [decide_eq_false (p := max m i < 0 ∨ max m i = 0 ∧ min m i < 0) (by omega)]
        simp
      rw [this]
      rfl
    | succ f ih =>
      intro a ha G' ag h6 h7
      intro P2 K2
      refine K2 _ _ ?_
      unfold lb_X1_judge_2
      rw [(keep G' ag).1.mk]
      refine br_f (by rw [zI_le (by omega)]; omega) ?_
      refine ⟨zI_in (by omega), ?_⟩
      rintro _ rfl
      refine ⟨zI_in (by omega), ?_⟩
      rintro _ rfl
      rw [zI_clN (by omega)]
      intro P26 K26
      have inner : ∀ g b : Nat, b + g = a → ∀ G'', Ag (fun x c _ => x = o ∧ (c = 6 ∨ c = 7)) G G'' → RB R (fldB R) (G'' o 6) a b (a + 1) → (∀ m, m < a + 1 → G'' o 7 m = zI 0) → P26 (zI a) (zI b) G'' := by
        intro g
        induction g with
        | zero =>
          intro b hb G'' ag2 h62 h72
          have : b = a := by omega
          subst this
          refine K26 _ _ _ ?_
          unfold lb_X1_judge_26
          refine br_t (by rw [zI_le (by omega)]; omega) ?_
          rw [zl1, zI_add]
          exact ih (b + 1) (by omega) G'' ag2 (h62.row fd) h72 P2 K2
        | succ g ih2 =>
          intro b hb G'' ag2 h62 h72
          have nr := nmS_rg hV a b
          obtain ⟨hC2, hk2⟩ := keep G'' ag2
          refine K26 _ _ _ ?_
          unfold lb_X1_judge_26
          refine br_f (by rw [zI_le (by omega)]; omega) ?_
          refine wI_isNear hV hC2 (by omega) (by omega) (by rw [hk2 5 (by omega) (by omega)]; exact hG a b (by omega) (by omega)) ?_
          rw [zl1, zI_add]
          have hsk : fldB R a b = false → P26 (zI a) (zI ((b : Int) + 1)) G'' := by
            intro h0
            exact ih2 (b + 1) (by omega) G'' ag2 (h62.skip (by omega) h0 (by rw [fldB_sym hV (by omega) (by omega)]; exact h0)) h72
          by_cases z : nrB R a b = true
          · refine br_bt z ?_
            have hnm := hN.2 a b (by omega) (by omega) (by omega) z
            refine wI_ofNames hV hC2 (by omega) (by omega) (by rw [hk2 3 (by omega) (by omega)]; exact hnm.1) (by rw [hk2 4 (by omega) (by omega)]; exact hnm.2) ?_
            have e0 : G'' o1 11 0 = zI (R 2) := hC2.rl (w := 0) (by decide)
            rw [e0]
            refine br_c (fun q => ?_) (fun q => ?_)
            · rw [zI_lt (by omega)] at q
              refine hsk ?_
              unfold fldB
              rw [decide_eq_false (p := (R 2 : Int) ≤ nmS R a b) (by omega)]
              simp
            · rw [zI_lt (by omega)] at q
              have h1 : fldB R a b = true := by
                unfold fldB
                rw [decide_eq_true (p := (R 2 : Int) ≤ nmS R a b) (by omega), z, decide_eq_true (by omega)]
                rfl
              have hl : ∀ m, bset (fun i => upto a b m i && fldB R m i) (R 1) < 8192 := fun m => bset_lt13 _ h13
              refine wI_setCouple1 (by omega) (by omega) (by omega) (by omega) (h62 a (by omega)) (h62 b (by omega)) (hl a) (fun G3 ag3 e1 e2 => ?_)
              have k7 : G3 o 7 = G'' o 7 := ag3.ce o 7 (fun j w => by omega)
              refine ih2 (b + 1) (by omega) G3 (ag2.tr (ag3.mo (fun x c j w => ⟨w.1, Or.inl w.2.1⟩))) ?_ (by rw [k7]; exact h72)
              exact h62.join (by omega) (by omega) (by omega) h1 (by rw [fldB_sym hV (by omega) (by omega)]; exact h1) (fun j hj1 hj2 => ag3 o 6 j (fun w => by omega)) e1 e2
          · refine br_bf (by simpa using z) ?_
            refine hsk ?_
            unfold fldB
            rw [show nrB R a b = false by simpa using z]
            simp
      refine inner a 0 (by omega) _ ((ag.up ⟨rfl, Or.inl rfl⟩).up ⟨rfl, Or.inr rfl⟩) (fun m hm => ?_) (fun m hm => ?_)
      · rw [gs_ne (by omega), gs_eq]
        unfold upd
        by_cases w : m = a
        · rw [if_pos w, w]
          have : bset (fun i => upto a 0 a i && fldB R a i) (R 1) = 0 := by
            symm
            apply bset_eq
            intro i
            rw [Nat.zero_testBit]
            unfold upto
            rw [decide_eq_false (p := max a i < a ∨ max a i = a ∧ min a i < 0) (by omega)]
            simp
          rw [this]
          rfl
        · rw [if_neg w]
          exact h6 m (by omega)
      · rw [gs_eq, gs_ne (by omega)]
        unfold upd
        by_cases w : m = a
        · rw [if_pos w]
          rfl
        · rw [if_neg w]
          exact h7 m (by omega)
  exact first (R 1) 0 (by omega) G (Ag.rf G) (fun m hm => by omega) (fun m hm => by omega)
end
