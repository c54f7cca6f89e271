/-! ===== a public call: what comes out, on both sides ===== -/
abbrev Oc : Type := Nat ⊕ (Int × Par)
def CO (o : Oc) (G : GH) : Int32 → GH → Prop := fun r G1 => ∃ v q', o = .inr (v, q') ∧ r = zI v ∧ IC q' G1 ∧ G1 24 = G 24 ∧ G1 25 = G 25
def CQ (o : Oc) (q : Par) (G : GH) : Nat → GH → Prop := fun i G1 => o = .inl i ∧ IC q G1 ∧ G1 24 = G 24 ∧ G1 25 = G 25
def CB (o : Oc) (G : GH) : Bool → GH → Prop := fun c G1 => CO o G (bI c) G1
def MO (kc : Nat → Nat) (o : Oc) (q : Par) (G : GH) : Int32 → GH → Prop := fun r G1 => (∀ x, x ≠ 24 → G1 x = G x) ∧ ((∃ v q', o = .inr (v, q') ∧ r = zI v ∧ G1 24 0 5 = 0 ∧ IRt q' G1) ∨ ∃ i, o = .inl i ∧ G1 24 0 5 = zI (kc i) ∧ IRt q G1)
def MBo (kc : Nat → Nat) (o : Oc) (q : Par) (G : GH) : Bool → GH → Prop := fun c G1 => MO kc o q G (bI c) G1
def PV (q : Par) : Prop := VR 12 (qvR q) ∧ qvs q ≤ 700 ∧ qva q ≤ 12
theorem IC.pv {q : Par} {G : GH} (h : IC q G) : PV q := ⟨h.V, h.s7, h.R.1.2⟩
def I32 (a : Int) : Prop := -2147483648 ≤ a ∧ a ≤ 2147483647
/-- the codes of the throws: the first kind 1, the second 2; where there is the second alone, it is 1 -/
def kc2 (i : Nat) : Nat := i + 1
def kc1 (_ : Nat) : Nat := 1
section
variable {q : Par} {G : GH} {R : RR} {n : Nat} {post : GH → Prop} {px : Nat → GH → Prop}
theorem wI_hasMark {post : Bool → GH → Prop} {a : Int} (ha : I32 a) (hV : VR n R) (hn : n ≤ 13) (hC : CR R (G 8)) (hp : post (decide (0 ≤ a ∧ a < R 1)) G) : wp_X7_hasMark post (zI a) G := by
  have h13 := Nat.le_trans hV.mk hn
  unfold I32 at ha
  unfold wp_X7_hasMark
  rw [hC.mk, zl0, zI_lt (by omega), zI_le (by omega)]
  refine br_c (fun w => ?_) (fun w => br_c (fun z => ?_) (fun z => ?_))
  · rw [decide_eq_false (by omega)] at hp
    exact hp
  · rw [decide_eq_false (by omega)] at hp
    exact hp
  · rw [decide_eq_true (by omega)] at hp
    exact hp
theorem wI_needMark {a : Int} (ha : I32 a) (hV : VR n R) (hn : n ≤ 13) (hC : CR R (G 8)) (h1 : 0 ≤ a ∧ a < R 1 → post G) (h0 : ¬ (0 ≤ a ∧ a < R 1) → px 0 G) : wp_X7_needMark post px (zI a) G := by
  unfold wp_X7_needMark
  refine wI_hasMark ha hV hn hC ?_
  by_cases w : 0 ≤ a ∧ a < R 1
  · exact br_bt (decide_eq_true w) (h1 w)
  · exact br_bf (decide_eq_false w) (h0 w)
theorem wI_needCouple {a b : Int} (ha : I32 a) (hb : I32 b) (hV : VR n R) (hn : n ≤ 13) (hC : CR R (G 8)) (h1 : (0 ≤ a ∧ a < R 1) ∧ (0 ≤ b ∧ b < R 1) ∧ a ≠ b → post G) (h0 : ¬ ((0 ≤ a ∧ a < R 1) ∧ (0 ≤ b ∧ b < R 1) ∧ a ≠ b) → px 0 G) : wp_X7_needCouple post px (zI a) (zI b) G := by
  unfold wp_X7_needCouple j_X7_needCouple_21
  refine wI_hasMark ha hV hn hC ?_
  by_cases w : 0 ≤ a ∧ a < R 1
  · refine br_bt (decide_eq_true w) (wI_hasMark hb hV hn hC ?_)
    by_cases z : 0 ≤ b ∧ b < R 1
    · refine br_bt (decide_eq_true z) ?_
      unfold I32 at ha hb
      rw [zI_eq (by omega)]
      exact br_c (fun u => h0 (fun y => y.2.2 u)) (fun u => h1 ⟨w, z, u⟩)
    · exact br_bf (decide_eq_false z) (h0 (fun y => z y.2.1))
  · exact br_bf (decide_eq_false w) (h0 (fun y => w y.1))
theorem wI_needHalf {a : Int} (ha : I32 a) (hV : VR n R) (hC : CR R (G 8)) (h1 : 0 ≤ a ∧ a < 2 * R 0 → post G) (h0 : ¬ (0 ≤ a ∧ a < 2 * R 0) → px 0 G) : wp_X7_needHalf post px (zI a) G := by
  have l6 := hV.l6
  unfold I32 at ha
  unfold wp_X7_needHalf j_X7_needHalf_15
  rw [wI_halfCount hC, zl0, zI_lt (by omega)]
  refine br_c (fun w => h0 (by omega)) (fun w => ?_)
  rw [zI_lt (by omega)]
  exact br_c (fun z => h1 (by omega)) (fun z => h0 (by omega))
theorem wI_needWhat {a b : Int} (ha : I32 a) (hb : I32 b) (h1 : 0 ≤ a ∧ a ≤ b → post G) (h0 : ¬ (0 ≤ a ∧ a ≤ b) → px 0 G) : wp_X7_needWhat post px (zI a) (zI b) G := by
  unfold I32 at ha hb
  unfold wp_X7_needWhat j_X7_needWhat_9
  rw [zl0, zI_lt (by omega), zI_le (by omega)]
  exact br_c (fun w => h0 (by omega)) (fun w => br_c (fun z => h1 (by omega)) (fun z => h0 (by omega)))
theorem wI_isDay {post : Bool → GH → Prop} {a : Int} (ha : I32 a) (hp : post (decide (0 ≤ a ∧ a ≤ 9999)) G) : wp_X7_isDay post (zI a) G := by
  unfold I32 at ha
  unfold wp_X7_isDay
  rw [zl0, zl9999, zI_lt (by omega), zI_lt (by omega)]
  refine br_c (fun w => ?_) (fun w => br_c (fun z => ?_) (fun z => ?_))
  · rw [decide_eq_false (by omega)] at hp
    exact hp
  · rw [decide_eq_false (by omega)] at hp
    exact hp
  · rw [decide_eq_true (by omega)] at hp
    exact hp
theorem wI_needDay {a : Int} (ha : I32 a) (h1 : 0 ≤ a ∧ a ≤ 9999 → post G) (h0 : ¬ (0 ≤ a ∧ a ≤ 9999) → px 1 G) : wp_X7_needDay post px (zI a) G := by
  unfold wp_X7_needDay
  refine wI_isDay ha ?_
  by_cases w : 0 ≤ a ∧ a ≤ 9999
  · exact br_bt (decide_eq_true w) (h1 w)
  · exact br_bf (decide_eq_false w) (h0 w)
theorem wI_needBytes {a : Int} {s : Nat} (ha : I32 a) (hs : G 1 0 1 = zI s) (hs7 : s ≤ 700) (h1 : 0 ≤ a ∧ a ≤ s → post G) (h0 : ¬ (0 ≤ a ∧ a ≤ s) → px 1 G) : wp_X7_needBytes post px (zI a) G := by
  unfold I32 at ha
  unfold wp_X7_needBytes j_X7_needBytes_15
  rw [hs, zl0, zI_lt (by omega), zI_le (by omega)]
  exact br_c (fun w => h0 (by omega)) (fun w => br_c (fun z => h1 (by omega)) (fun z => h0 (by omega)))
theorem wI_needFiling {a b c : Int} {s : Nat} (ha : I32 a) (hb : I32 b) (hc : I32 c) (hs : G 1 0 1 = zI s) (hs7 : s ≤ 700) (h1 : (0 ≤ a ∧ a ≤ s) ∧ (0 ≤ b ∧ b ≤ 1023) ∧ 0 ≤ c ∧ c ≤ 9999 → post G) (h0 : ¬ ((0 ≤ a ∧ a ≤ s) ∧ (0 ≤ b ∧ b ≤ 1023) ∧ 0 ≤ c ∧ c ≤ 9999) → px 1 G) : wp_X7_needFiling post px (zI a) (zI b) (zI c) G := by
  unfold wp_X7_needFiling j_X7_needFiling_20
  refine wI_needBytes ha hs hs7 (fun w => wI_needDay hc (fun z => ?_) (fun z => h0 (fun y => z y.2.2))) (fun w => h0 (fun y => w y.1))
  unfold I32 at hb
  rw [zl0, zl1023, zI_lt (by omega), zI_le (by omega)]
  exact br_c (fun u => h0 (by omega)) (fun u => br_c (fun v => h1 ⟨w, by omega, z⟩) (fun v => h0 (by omega)))
/-! the reference -/
theorem wM_isMark {post : Bool → GH → Prop} {a : Int} (ha : I32 a) (hV : VR n R) (hn : n ≤ 13) (hM : MR R (G 24 1)) (hp : post (decide (0 ≤ a ∧ a < R 1)) G) : wp_X8_isMark post (zI a) G := by
  have h13 := Nat.le_trans hV.mk hn
  unfold I32 at ha
  unfold wp_X8_isMark
  rw [wM_marks hM, zl1, zI_sub, show (0 : Int32) = zI 0 from rfl, wM_within (by omega)]
  have e : decide (0 ≤ a ∧ a ≤ (R 1 : Int) - 1) = decide (0 ≤ a ∧ a < R 1) := decide_eq_decide.mpr ⟨fun z => by omega, fun z => by omega⟩
  rw [e]
  exact hp
theorem wM_isHalf {post : Bool → GH → Prop} {a : Int} (ha : I32 a) (hV : VR n R) (hM : MR R (G 24 1)) (hp : post (decide (0 ≤ a ∧ a < 2 * R 0)) G) : wp_X8_isHalf post (zI a) G := by
  have l6 := hV.l6
  unfold I32 at ha
  unfold wp_X8_isHalf
  rw [wM_halvesMany hM, zl1, zI_sub, show (0 : Int32) = zI 0 from rfl, wM_within (by omega)]
  have e : decide (0 ≤ a ∧ a ≤ ((2 * R 0 : Nat) : Int) - 1) = decide (0 ≤ a ∧ a < 2 * R 0) := decide_eq_decide.mpr ⟨fun z => by omega, fun z => by omega⟩
  rw [e]
  exact hp
theorem wM_isClass {post : Bool → GH → Prop} {a : Int} (ha : I32 a) (hp : post (decide (0 ≤ a ∧ a ≤ 9)) G) : wp_X8_isClass post (zI a) G := by
  unfold I32 at ha
  unfold wp_X8_isClass
  rw [zl9, show (0 : Int32) = zI 0 from rfl, wM_within (by omega)]
  exact hp
theorem wM_areTwoMarks {post : Bool → GH → Prop} {a b : Int} (ha : I32 a) (hb : I32 b) (hV : VR n R) (hn : n ≤ 13) (hM : MR R (G 24 1)) (hp : post (decide ((0 ≤ a ∧ a < R 1) ∧ (0 ≤ b ∧ b < R 1) ∧ a ≠ b)) G) : wp_X8_areTwoMarks post (zI a) (zI b) G := by
  unfold wp_X8_areTwoMarks
  refine wM_isMark ha hV hn hM ?_
  by_cases w : 0 ≤ a ∧ a < R 1
  · refine br_bt (decide_eq_true w) (wM_isMark hb hV hn hM ?_)
    by_cases z : 0 ≤ b ∧ b < R 1
    · refine br_bt (decide_eq_true z) ?_
      unfold I32 at ha hb
      rw [zI_eq (by omega)]
      refine br_c (fun u => ?_) (fun u => ?_)
      · rw [decide_eq_false (fun y => y.2.2 u)] at hp
        exact hp
      · rw [decide_eq_true ⟨w, z, u⟩] at hp
        exact hp
    · refine br_bf (decide_eq_false z) ?_
      rw [decide_eq_false (fun y => z y.2.1)] at hp
      exact hp
  · refine br_bf (decide_eq_false w) ?_
    rw [decide_eq_false (fun y => w y.1)] at hp
    exact hp
/-- the answers, from what is kept -/
theorem CO.mk {o : Oc} {v : Int} {q' : Par} {G1 : GH} {r : Int32} (ho : o = .inr (v, q')) (hr : r = zI v) (hI : IC q' G1) (h24 : G1 24 = G 24) (h25 : G1 25 = G 25) : CO o G r G1 := ⟨v, q', ho, hr, hI, h24, h25⟩
theorem CO.ag {W : Nat → Nat → Nat → Prop} {o : Oc} {v : Int} {q' : Par} {G1 : GH} {r : Int32} (ho : o = .inr (v, q')) (hr : r = zI v) (hI : IC q' G1) (ag : Ag W G G1) (hw : ∀ x c j, W x c j → x ≠ 24 ∧ x ≠ 25) : CO o G r G1 := ⟨v, q', ho, hr, hI, ag.ob 24 (fun c j z => (hw 24 c j z).1 rfl), ag.ob 25 (fun c j z => (hw 25 c j z).2 rfl)⟩
theorem CQ.s {o : Oc} {i : Nat} (h : IC q G) (ho : o = .inl i) : CQ o q G i G := ⟨ho, h, rfl, rfl⟩
theorem CO.s {o : Oc} {v : Int} {r : Int32} (h : IC q G) (ho : o = .inr (v, q)) (hr : r = zI v) : CO o G r G := ⟨v, q, ho, hr, h, rfl, rfl⟩
theorem MO.ok {kc : Nat → Nat} {o : Oc} {v : Int} {q' : Par} {G1 : GH} {r : Int32} {W : Nat → Nat → Nat → Prop} (ho : o = .inr (v, q')) (hr : r = zI v) (h5 : G1 24 0 5 = 0) (hI : IRt q' G1) (ag : Ag W G G1) (hw : ∀ x c j, W x c j → x = 24) : MO kc o q G r G1 := ⟨fun x hx => ag.ob x (fun c j z => hx (hw x c j z)), Or.inl ⟨v, q', ho, hr, h5, hI⟩⟩
theorem MO.no {kc : Nat → Nat} {o : Oc} {i : Nat} {G1 : GH} {r : Int32} {W : Nat → Nat → Nat → Prop} (ho : o = .inl i) (h5 : G1 24 0 5 = zI (kc i)) (hI : IRt q G1) (ag : Ag W G G1) (hw : ∀ x c j, W x c j → x = 24) : MO kc o q G r G1 := ⟨fun x hx => ag.ob x (fun c j z => hx (hw x c j z)), Or.inr ⟨i, ho, h5, hI⟩⟩
def W24 (x _c _j : Nat) : Prop := x = 24
theorem ag5 {v : Int32} : Ag W24 G (gs G 24 0 (upd (G 24 0) 5 v)) := (Ag.rf G).up rfl
theorem AgH {G1 G2 : GH} (h1 : Ag W24 G G1) (h2 : Ag WH G1 G2) : Ag W24 G G2 := h1.wk h2 (fun _ _ _ z => z.1)
end
/-! ===== sums of bits ===== -/
def smB (f : Nat → Nat) : Nat → Nat
  | 0 => 0
  | n + 1 => smB f n + cntB (f n).testBit 13
theorem smB_le (f : Nat → Nat) : ∀ n, smB f n ≤ 13 * n
  | 0 => Nat.le_refl _
  | n + 1 => by
    have := smB_le f n
    have := cntB_le (f n).testBit 13
    unfold smB
    omega
section
variable {G : GH} {R : RR} {n : Nat} {post : Int32 → GH → Prop}
theorem wI_bitsIn {o c N k : Nat} {f : Nat → Nat} (hk : k ≤ N) (hN : N ≤ 13) (hf : ∀ i, i < k → G o c i = zI (f i) ∧ f i < 8192) (hp : post (zI (smB f k)) G) : wp_X7_bitsIn post o c N (zI k) G := by
  unfold wp_X7_bitsIn
  intro P K
  have main : ∀ g i : Nat, i + g = k → P (zI k) (zI (smB f i)) (zI i) G := by
    intro g
    induction g with
    | zero =>
      intro i hi
      have : i = k := by omega
      subst this
      refine K _ _ _ _ ?_
      unfold lb_X7_bitsIn_4
      exact br_t (by rw [zI_le (by omega)]; omega) hp
    | succ g ih =>
      intro i hi
      obtain ⟨h1, h2⟩ := hf i (by omega)
      refine K _ _ _ _ ?_
      unfold lb_X7_bitsIn_4
      refine br_f (by rw [zI_le (by omega)]; omega) ⟨zI_in (by omega), ?_⟩
      rw [zI_clN (by omega), h1]
      refine wI_bitCount h2 ?_
      intro y ey
      rw [zI_add] at ey
      subst ey
      rw [show zI (i : Int) + (1 : Int32) = zI ((i + 1 : Nat) : Int) from zI_add _ 1]
      exact ih (i + 1) (by omega)
  exact main k 0 (by omega)
theorem wM_neighbours (hV : VR n R) (hM : MR R (G 24 1)) (hp : post (zI ((smB (nei R) 10 / 2 : Nat) : Int)) G) : wp_X8_neighbours post G := by
  unfold wp_X8_neighbours
  intro P K
  have main : ∀ g i : Nat, i + g = 10 → P (zI (smB (nei R) i)) (zI i) G := by
    intro g
    induction g with
    | zero =>
      intro i hi
      have : i = 10 := by omega
      subst this
      have hl := smB_le (nei R) 10
      refine K _ _ _ ?_
      unfold lb_X8_neighbours_4
      refine br_t (by rw [zl10, zI_le (by omega)]; omega) ?_
      rw [zl2, zI_div (by omega)]
      exact hp
    | succ g ih =>
      intro i hi
      have h2 := hV.nb (c := i) (by omega)
      refine K _ _ _ ?_
      unfold lb_X8_neighbours_4
      refine br_f (by rw [zl10, zI_le (by omega)]; omega) ?_
      rw [show (8 : Int32) + zI (i : Int) = zI ((8 + i : Nat) : Int) from zI_add 8 i]
      refine ⟨zI_in (by omega), ?_⟩
      rw [zI_clN (by omega), hM.at (by omega)]
      refine wM_bitsOf (by omega) ?_
      intro y ey
      rw [zI_add] at ey
      subst ey
      rw [show zI (i : Int) + (1 : Int32) = zI ((i + 1 : Nat) : Int) from zI_add _ 1]
      exact ih (i + 1) (by omega)
  exact main 10 0 (by omega)
theorem wM_couplesOf {what : Nat} {f : Nat → Nat} (hV : VR n R) (hn : n ≤ 13) (hM : MR R (G 24 1)) (hw : what = 0 ∧ (∀ i, i < R 1 → f i = qq R i 50) ∨ what = 1 ∧ ∀ i, i < R 1 → G 24 20 i = zI (f i) ∧ f i < 8192) (hp : post (zI ((smB f (R 1) / 2 : Nat) : Int)) G) : wp_X8_couplesOf post (zI what) G := by
  have h13 := Nat.le_trans hV.mk hn
  unfold wp_X8_couplesOf
  intro P K
  have main : ∀ g i : Nat, i + g = R 1 → P (zI what) (zI (smB f i)) (zI i) G := by
    intro g
    induction g with
    | zero =>
      intro i hi
      have : i = R 1 := by omega
      subst this
      have hl := smB_le f (R 1)
      refine K _ _ _ _ ?_
      unfold lb_X8_couplesOf_4
      rw [wM_marks hM]
      refine br_t (by rw [zI_le (by omega)]; omega) ?_
      rw [zl2, zI_div (by omega)]
      exact hp
    | succ g ih =>
      intro i hi
      have hiR : i < R 1 := by omega
      have hcn := hV.cn hiR
      refine K _ _ _ _ ?_
      unfold lb_X8_couplesOf_4
      rw [wM_marks hM]
      refine br_f (by rw [zI_le (by omega)]; omega) ?_
      have j33 : f i < 8192 → j_X8_couplesOf_33 post P (zI what) (zI i) (zI (smB f i)) (zI (f i)) G := by
        intro hlt
        unfold j_X8_couplesOf_33
        refine wM_bitsOf hlt ?_
        intro y ey
        rw [zI_add] at ey
        subst ey
        rw [show zI (i : Int) + (1 : Int32) = zI ((i + 1 : Nat) : Int) from zI_add _ 1]
        exact ih (i + 1) (by omega)
      rcases hw with ⟨rfl, hq⟩ | ⟨rfl, hq⟩
      · refine br_t rfl (wM_of1 hM i 50 rfl rfl (by omega) (by omega) ?_)
        rw [← hq i hiR] at hcn ⊢
        exact j33 hcn
      · refine br_f (by decide) ⟨zI_in (by omega), ?_⟩
        rw [zI_clN (by omega), (hq i hiR).1]
        exact j33 (hq i hiR).2
  exact main (R 1) 0 (by omega)
end
