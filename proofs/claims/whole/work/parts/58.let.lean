/-! ===== the letter by which a mark would be free ===== -/
def nlR (R : RR) (m k l : Nat) : RR := fun i => if i = 18 + 51 * m + (1 + k) then 97 + l else R i
section
variable {n : Nat} {R : RR} {m k l : Nat}
theorem nlR_lo {i : Nat} (h : i < 18) : nlR R m k l i = R i := by
  unfold nlR
  rw [if_neg (by omega)]
theorem nlR_q {x w : Nat} (hw : w < 51) (hk : k < 10) (h : x ≠ m ∨ w ≠ 1 + k) : qq (nlR R m k l) x w = qq R x w := by
  unfold qq nlR
  rw [if_neg (by omega)]
theorem nlR_at : qq (nlR R m k l) m (1 + k) = 97 + l := by
  unfold qq nlR
  rw [if_pos rfl]
theorem nlR_nl {l' : Nat} : nlR (nlR R m k l) m k l' = nlR R m k l' := by
  funext i
  unfold nlR
  by_cases w : i = 18 + 51 * m + (1 + k)
  · rw [if_pos w, if_pos w]
  · rw [if_neg w, if_neg w, if_neg w]
theorem nlR_self (h : qq R m (1 + k) = 97 + l) : nlR R m k l = R := by
  funext i
  unfold nlR
  by_cases w : i = 18 + 51 * m + (1 + k)
  · rw [if_pos w, ← h, w]
    rfl
  · rw [if_neg w]
theorem nlR_V (hV : VR n R) (hk : k < 10) (hl : l < 26) : VR n (nlR R m k l) := by
  refine ⟨?_, ?_, ?_, ?_, ?_, ?_⟩
  · rw [nlR_lo (by omega)]
    exact hV.1
  · rw [nlR_lo (by omega)]
    exact hV.2.1
  · intro w hw
    rw [nlR_lo (by omega)]
    exact hV.rl hw
  · intro x hx
    rw [nlR_lo (by omega)]
    exact hV.nb hx
  · intro x e hx he
    rw [nlR_lo (by omega), nlR_lo (by omega)]
    exact hV.ns hx he
  · intro x hx
    rw [nlR_lo (by omega)] at hx
    have h := hV.2.2.2.2.2 x hx
    have hln := hV.ln hx
    have huc := hV.uc hx
    rw [nlR_q (w := 0) (by omega) hk (by omega), nlR_q (w := 11) (by omega) hk (by omega), nlR_q (w := 12) (by omega) hk (by omega), nlR_q (w := 13) (by omega) hk (by omega), nlR_q (w := 50) (by omega) hk (by omega)]
    refine ⟨h.1, fun i hi => ?_, h.2.2.1, h.2.2.2.1, h.2.2.2.2.1, fun i hi => ?_, h.2.2.2.2.2.2⟩
    · by_cases z : x = m ∧ i = k
      · rw [z.1, z.2, nlR_at]
        omega
      · rw [nlR_q (by omega) hk (by omega)]
        exact h.2.1 i hi
    · rw [nlR_q (by omega) hk (by omega), nlR_q (by omega) hk (by omega), nlR_q (by omega) hk (by omega)]
      exact h.2.2.2.2.2.1 i hi
theorem CR.nl {A A' : Nat → Nat → Int32} (hV : VR n R) (hk : k < 10) (h : CR R A) (h6 : A' 6 = upd (A 6) (10 * m + k) (zI l)) (hc : ∀ c, c ≠ 6 → A' c = A c) : CR (nlR R m k l) A' := by
  refine ⟨?_, ?_, ?_, ?_, ?_⟩
  · rw [hc 0 (by decide), nlR_lo (by omega)]
    exact h.ld
  · rw [hc 0 (by decide), nlR_lo (by omega)]
    exact h.mk
  · intro c hc2
    rw [hc 10 (by decide), nlR_lo (by omega)]
    exact h.nb hc2
  · intro w hw
    rw [hc 11 (by decide), nlR_lo (by omega)]
    exact h.rl hw
  · intro x hx
    rw [nlR_lo (by omega)] at hx
    have hln := hV.ln hx
    have huc := hV.uc hx
    rw [hc 3 (by decide), hc 4 (by decide), hc 5 (by decide), hc 7 (by decide), hc 8 (by decide), hc 9 (by decide), h6, nlR_q (w := 0) (by omega) hk (by omega), nlR_q (w := 11) (by omega) hk (by omega), nlR_q (w := 12) (by omega) hk (by omega), nlR_q (w := 13) (by omega) hk (by omega), nlR_q (w := 50) (by omega) hk (by omega)]
    refine ⟨h.fl hx, h.gd hx, h.ln hx, h.uc hx, h.cn hx, fun i hi => ?_, fun i j hi hj => ?_⟩
    · by_cases z : x = m ∧ i = k
      · rw [z.1, z.2, upd_eq, nlR_at]
        exact zI_cg (by omega)
      · rw [upd_ne (by omega), nlR_q (by omega) hk (by omega)]
        exact h.lt hx hi
    · rw [nlR_q (by omega) hk (by omega)]
      exact h.us hx hi hj
theorem nlR_N {x : Nat} (hV : VR n R) (hk : k < 10) (hx : x < R 1) (hxm : x ≠ m) : eqN R (nlR R m k l) x := ⟨hV.ln hx, fun w hw => (nlR_q (by omega) hk (Or.inl hxm)).symm⟩
theorem nlR_pri {x h d : Nat} (hV : VR n R) (hk : k < 10) (hx : x < R 1) : pri (nlR R m k l) x h d = pri R x h d := by
  have hu := hV.uc hx
  exact (pri_cg (R := R) (R' := nlR R m k l) hu (fun w h1 h2 => (nlR_q (by omega) hk (by omega)).symm) (nlR_lo (by omega)).symm).symm
end
def hrB (R : RR) (day m : Nat) : Bool := decide (∀ h, h < 2 * R 0 → enB R day m h = true → hoB R day m h = true)
def lfB (R : RR) (m day x : Nat) : Bool := decide (qq R m (1 + x / 26) ≠ 97 + x % 26) && hrB (nlR R m (x / 26) (x % 26)) day m
def lfI (R : RR) (m day : Nat) : Int := if hrB R day m = true then -1 else fsB (lfB R m day) (26 * qq R m 0)
/-- the others are known as they are, whatever this one's name -/
def IM (R : RR) (m : Nat) (A : Nat → Nat → Int32) : Prop := (∀ i, i < R 1 → i ≠ m → HS A 1 2 i (snd R i)) ∧ (∀ a b, a < R 1 → b < R 1 → a ≠ b → a ≠ m → b ≠ m → A 3 (13 * a + b) = zI (lkL R a b) ∧ A 4 (13 * a + b) = zI (lkS R a b)) ∧ KG R A
section
variable {R : RR} {G : GH} {n m day : Nat}
theorem wh_hr {R R' : RR} {day m : Nat} (h0 : R' 0 = R 0) (he : ∀ h, enB R' day m h = enB R day m h) : whB R' day m (bset (enB R day m) (2 * R 0)) = hrB R' day m := by
  unfold whB hrB
  apply decide_eq_decide.mpr
  rw [h0]
  constructor
  · intro z h hh hen
    refine z h hh ?_
    rw [bset_tb, decide_eq_true hh, ← he, hen]
    rfl
  · intro z h hh hb
    refine z h hh ?_
    rw [bset_tb, decide_eq_true hh, Bool.true_and, ← he] at hb
    exact hb
theorem IM.nl {k l : Nat} {A : Nat → Nat → Int32} (hV : VR n R) (hk : k < 10) (h : IM R m A) : IM (nlR R m k l) m A := by
  have e1 : nlR R m k l 1 = R 1 := nlR_lo (by omega)
  refine ⟨fun i hi him => ?_, fun a b ha hb hab ham hbm => ?_, fun a b ha hb => ?_⟩
  · rw [e1] at hi
    rw [← snd_cg (nlR_N hV hk hi him)]
    exact h.1 i hi him
  · rw [e1] at ha hb
    rw [← lkL_cg (nlR_N hV hk ha ham) (nlR_N hV hk hb hbm), ← lkS_cg (nlR_N hV hk ha ham) (nlR_N hV hk hb hbm)]
    exact h.2.1 a b ha hb hab ham hbm
  · rw [e1] at ha hb
    rw [← apS_cg (R := R) (fun i h1 h2 => (nlR_lo h2).symm) (nlR_q (by omega) hk (by omega)).symm (nlR_q (by omega) hk (by omega)).symm]
    exact h.2.2 a b ha hb
theorem IM.wr {G' : GH} (h : IM R m (G 7)) (h13 : R 1 ≤ 13) (hm : m < R 1) (ag : Ag (WR R 7 m) G G') : IM R m (G' 7) := by
  refine ⟨fun i hi him => ?_, fun a b ha hb hab ham hbm => ?_, fun a b ha hb => ?_⟩
  · refine (h.1 i hi him).cg (snd_len R i) ?_ (fun j h1 h2 => ?_)
    · exact ag 7 2 i (fun z => by unfold WR at z; omega)
    · exact ag 7 1 j (fun z => by unfold WR at z; omega)
  · have no : ¬ ∃ i, i < R 1 ∧ (13 * a + b = 13 * m + i ∨ 13 * a + b = 13 * i + m) := by
      rintro ⟨i, hi, z⟩
      omega
    rw [ag 7 3 _ (fun z => by
      rcases z.2 with z | z | z | z
      · omega
      · omega
      · exact no z.2
      · omega), ag 7 4 _ (fun z => by
      rcases z.2 with z | z | z | z
      · omega
      · omega
      · exact no z.2
      · omega)]
    exact h.2.1 a b ha hb hab ham hbm
  · rw [ag 7 5 _ (fun z => by unfold WR at z; omega)]
    exact h.2.2 a b ha hb
def WL9 (x _c _j : Nat) : Prop := x = 5 ∨ x = 7 ∨ x = 9
set_option maxHeartbeats 2000000 in
theorem wI_letterAt {post : Int32 → GH → Prop} {pl : Nat} (hV : VR n R) (hn : n ≤ 13) (hm : m < R 1) (hpl : pl < qq R m 0) (hd : day ≤ 9999) (hC : CR R (G 9)) (hI : IM R m (G 7)) (hr : RKA (G 5) R day) (hp : ∀ G', Ag WL9 G G' → CR R (G' 9) → IM R m (G' 7) → RKA (G' 5) R day → post (zI (fsB (fun l => lfB R m day (26 * pl + l)) 26)) G') : wp_X7_letterAt post (zI m) (zI pl) (zI (bset (enB R day m) (2 * R 0))) G := by
  have h13 := Nat.le_trans hV.mk hn
  have l6 := hV.l6
  have hln := hV.ln hm
  have hk10 : pl < 10 := by omega
  have c1 := hV.lt1 hm hpl
  have c2 := hV.lt2 hm hpl
  have hwl : bset (enB R day m) (2 * R 0) < 8192 := bset_lt13 _ (by omega)
  obtain ⟨c0, hc0, ec0⟩ : ∃ c0, c0 < 26 ∧ qq R m (1 + pl) = 97 + c0 := ⟨qq R m (1 + pl) - 97, by omega, by omega⟩
  unfold wp_X7_letterAt
  intro y1 ey1
  rw [zl10, zI_mul, zI_add, show ((m : Int) * 10 + (pl : Int)) = ((10 * m + pl : Nat) : Int) by omega] at ey1
  subst ey1
  refine ⟨zI_in (by omega), ?_⟩
  intro y2 ey2
  rw [zI_clN (by omega), hC.lt hm hpl, ec0, show (((97 + c0 : Nat) : Int) - 97) = (c0 : Int) by omega, zI_nb (by omega)] at ey2
  subst ey2
  -- the end: the letter as before
  have fin : ∀ (v : Int) (l' : Nat) (G' : GH), v = fsB (fun l => lfB R m day (26 * pl + l)) 26 → l' < 26 → Ag WL9 G G' → CR (nlR R m pl l') (G' 9) → IM R m (G' 7) → RKA (G' 5) R day → j_X7_letterAt_90 post (zI ((10 * m + pl : Nat) : Int)) (zI c0) (zI v) G' := by
    intro v l' G' hv hl' ag hC' hI' hr'
    unfold j_X7_letterAt_90
    refine ⟨zI_in (by omega), ?_⟩
    intro G4 e4
    rw [zI_clN (by omega)] at e4
    have hC4 : CR (nlR (nlR R m pl l') m pl c0) (G4 9) := hC'.nl (nlR_V hV hk10 hl') hk10 (by rw [e4, gs_eq]) (fun c hc => by rw [e4, gs_ne (by omega)])
    rw [nlR_nl, nlR_self ec0] at hC4
    have k7 : G4 7 = G' 7 := by
      funext c
      rw [e4, gs_ne (by omega)]
    have k5 : G4 5 = G' 5 := by
      funext c
      rw [e4, gs_ne (by omega)]
    rw [hv]
    exact hp G4 (by rw [e4]; exact ag.up (Or.inr (Or.inr rfl))) hC4 (by rw [k7]; exact hI') (by rw [k5]; exact hr')
  intro P K
  have main : ∀ f l l' : Nat, l + f = 26 → l' < 26 → (∀ i, i < l → lfB R m day (26 * pl + i) = false) → ∀ G', Ag WL9 G G' → CR (nlR R m pl l') (G' 9) → IM R m (G' 7) → RKA (G' 5) R day → P (zI m) (zI (bset (enB R day m) (2 * R 0))) (zI ((10 * m + pl : Nat) : Int)) (zI c0) (-1 : Int32) (zI l) G' := by
    intro f
    induction f with
    | zero =>
      intro l l' hl hl' hno G' ag hC' hI' hr'
      refine K _ _ _ _ _ _ _ ?_
      unfold lb_X7_letterAt_26
      refine br_t (by rw [zl26, zI_le (by omega)]; omega) ?_
      exact fin (-1) l' G' (by rw [fsB_no 26 (fun i hi => hno i (by omega))]) hl' ag hC' hI' hr'
    | succ f ih =>
      intro l l' hl hl' hno G' ag hC' hI' hr'
      have ed : (26 * pl + l) / 26 = pl := by omega
      have em : (26 * pl + l) % 26 = l := by omega
      have nx : ∀ {l2 : Nat} {G'' : GH}, l2 < 26 → lfB R m day (26 * pl + l) = false → Ag WL9 G G'' → CR (nlR R m pl l2) (G'' 9) → IM R m (G'' 7) → RKA (G'' 5) R day → P (zI m) (zI (bset (enB R day m) (2 * R 0))) (zI ((10 * m + pl : Nat) : Int)) (zI c0) (-1 : Int32) (zI l + (1 : Int32)) G'' := fun {l2 G''} h2 hb ag2 hC2 hI2 hr2 => by
        rw [show zI (l : Int) + (1 : Int32) = zI ((l + 1 : Nat) : Int) from zI_add _ 1]
        refine ih (l + 1) l2 (by omega) h2 (fun i hi => ?_) G'' ag2 hC2 hI2 hr2
        by_cases u : i = l
        · rw [u]
          exact hb
        · exact hno i (by omega)
      refine K _ _ _ _ _ _ _ ?_
      unfold lb_X7_letterAt_26
      refine br_f (by rw [zl26, zI_le (by omega)]; omega) (br_t rfl ?_)
      rw [zI_eq (by omega)]
      refine br_c (fun z => nx hl' ?_ ag hC' hI' hr') (fun z => ⟨zI_in (by omega), ?_⟩)
      · unfold lfB
        rw [ed, em, decide_eq_false (by omega)]
        rfl
      · intro G7 e7
        rw [zI_clN (by omega), zI_nb (by omega)] at e7
        have V' : VR n (nlR R m pl l) := nlR_V hV hk10 (by omega)
        have e1 : nlR R m pl l 1 = R 1 := nlR_lo (by omega)
        have hC7 : CR (nlR (nlR R m pl l') m pl l) (G7 9) := hC'.nl (nlR_V hV hk10 hl') hk10 (by rw [e7, gs_eq]) (fun c hc => by rw [e7, gs_ne (by omega)])
        rw [nlR_nl] at hC7
        have k7 : G7 7 = G' 7 := by
          funext c
          rw [e7, gs_ne (by omega)]
        have hI7 : IM R m (G7 7) := by
          rw [k7]
          exact hI'
        have a7 : Ag WL9 G G7 := by
          rw [e7]
          exact ag.up (Or.inr (Or.inr rfl))
        have hI7' := hI7.nl (k := pl) (l := l) hV hk10
        refine wI_rename V' hn hC7 (by rw [e1]; exact hm) (by decide) hI7'.1 hI7'.2.1 hI7'.2.2 (fun G8 ag8 kn8 kj8 => ?_)
        have a8 : Ag WL9 G G8 := a7.wk ag8 (fun x c j z => Or.inr (Or.inl z.1))
        have hC8 : CR (nlR R m pl l) (G8 9) := hC7.fr ag8 (fun c j z => by unfold WR at z; omega)
        have hI8 : IM R m (G8 7) := hI7.wr h13 hm (ag8.mo (fun x c j z => by
          unfold WR at z ⊢
          rw [e1] at z
          exact z))
        have e5 : G8 5 = G' 5 := by
          rw [ag8.ob 5 (fun c j z => by unfold WR at z; omega)]
          funext c
          rw [e7, gs_ne (by omega)]
        have r8 : RKA (G8 5) (nlR R m pl l) day := by
          rw [e5]
          exact hr'.cg (nlR_lo (by omega)).symm e1.symm (fun x h hx => (nlR_pri hV hk10 hx).symm)
        refine wI_wouldHold V' hn hC8 (fun i hi => (kj8 i hi).2) (by rw [e1]; exact hm) hwl r8 (fun G10 ag10 => ?_)
        have a10 : Ag WL9 G G10 := a8.wk ag10 (fun x c j z => Or.inl z.1)
        have hC10 : CR (nlR R m pl l) (G10 9) := hC8.fr ag10 (fun c j z => by unfold WSt at z; omega)
        have r10 : RKA (G10 5) R day := (r8.fr (by rw [e1]; exact h13) ag10).cg (nlR_lo (by omega)) e1 (fun x h hx => nlR_pri hV hk10 (by rw [e1] at hx; exact hx))
        have hI10 : IM R m (G10 7) := by
          rw [ag10.ob 7 (fun c j z => by unfold WSt at z; omega)]
          exact hI8
        rw [wh_hr (R := R) (R' := nlR R m pl l) (nlR_lo (by omega)) (fun h => by
          unfold enB
          rw [nlR_pri hV hk10 hm])]
        have elf : lfB R m day (26 * pl + l) = hrB (nlR R m pl l) day m := by
          unfold lfB
          rw [ed, em, decide_eq_true (by omega), Bool.true_and]
        cases hb : hrB (nlR R m pl l) day m
        · exact br_bf rfl (nx (by omega) (by rw [elf, hb]) a10 hC10 hI10 r10)
        · refine br_bt rfl ?_
          have hv : (l : Int) = fsB (fun l => lfB R m day (26 * pl + l)) 26 := by
            have := fsB_at (p := fun l => lfB R m day (26 * pl + l)) (m := l) hno (by rw [elf, hb]) (25 - l)
            rw [show l + (25 - l) + 1 = 26 by omega] at this
            exact this.symm
          refine K _ _ _ _ _ _ _ ?_
          unfold lb_X7_letterAt_26
          have e := fin (l : Int) l G10 hv (by omega) a10 hC10 hI10 r10
          exact br_c (fun _ => e) (fun _ => br_f (by rw [show (-1 : Int32) = zI (-1) from rfl, zI_eq (by omega)]; omega) e)
  exact main 26 0 c0 (by omega) hc0 (fun i hi => by omega) G (Ag.rf G) (by rw [nlR_self ec0]; exact hC) hI hr
set_option maxHeartbeats 1000000 in
theorem wI_letterL {post : Int32 → GH → Prop} {px : Nat → GH → Prop} (hV : VR n R) (hn : n ≤ 13) (hm : m < R 1) (hd : day ≤ 9999) (hC8 : CR R (G 8)) (hC : CR R (G 9)) (hI : IM R m (G 7)) (hr : RKA (G 5) R day) (hp : ∀ G', Ag WL9 G G' → post (zI (fsB (lfB R m day) (26 * qq R m 0))) G') : lp_X7_letterFor_67 post px (zI m) (zI (bset (enB R day m) (2 * R 0))) (0 : Int32) G := by
  have h13 := Nat.le_trans hV.mk hn
  have hln := hV.ln hm
  intro P K
  have main : ∀ f k : Nat, k + f = qq R m 0 → (∀ x, x < 26 * k → lfB R m day x = false) → ∀ G', Ag WL9 G G' → CR R (G' 9) → IM R m (G' 7) → RKA (G' 5) R day → P (zI m) (zI (bset (enB R day m) (2 * R 0))) (zI k) G' := by
    intro f
    induction f with
    | zero =>
      intro k hk hno G' ag hC' hI' hr'
      refine K _ _ _ _ ?_
      unfold lb_X7_letterFor_67
      refine ⟨zI_in (by omega), ?_⟩
      have h8 : CR R (G' 8) := hC8.fr ag (fun c j z => by unfold WL9 at z; omega)
      rw [zI_clN (by omega), h8.ln hm]
      refine br_t (by rw [zI_le (by omega)]; omega) ?_
      have := hp G' ag
      rw [fsB_no _ (fun i hi => hno i (by omega))] at this
      exact this
    | succ f ih =>
      intro k hk hno G' ag hC' hI' hr'
      refine K _ _ _ _ ?_
      unfold lb_X7_letterFor_67
      refine ⟨zI_in (by omega), ?_⟩
      have h8 : CR R (G' 8) := hC8.fr ag (fun c j z => by unfold WL9 at z; omega)
      rw [zI_clN (by omega), h8.ln hm]
      refine br_f (by rw [zI_le (by omega)]; omega) ?_
      refine wI_letterAt hV hn hm (by omega) hd hC' hI' hr' (fun G17 ag17 hC17 hI17 hr17 => ?_)
      have a17 := ag.tr ag17
      rcases fsB_cs (p := fun l => lfB R m day (26 * k + l)) 26 with ⟨x, y⟩ | ⟨d, x1, x2, x3, x4⟩
      · rw [x]
        refine br_t rfl ?_
        rw [show zI (k : Int) + (1 : Int32) = zI ((k + 1 : Nat) : Int) from zI_add _ 1]
        refine ih (k + 1) (by omega) (fun i hi => ?_) G17 a17 hC17 hI17 hr17
        by_cases u : i < 26 * k
        · exact hno i u
        · have := y (i - 26 * k) (by omega)
          rw [show 26 * k + (i - 26 * k) = i by omega] at this
          exact this
      · rw [x2]
        refine br_f (by rw [show (-1 : Int32) = zI (-1) from rfl, zI_eq (by omega)]; omega) ?_
        have e := fsB_at (p := lfB R m day) (m := 26 * k + d) (fun i hi => by
          by_cases u : i < 26 * k
          · exact hno i u
          · have := x4 (i - 26 * k) (by omega)
            rw [show 26 * k + (i - 26 * k) = i by omega] at this
            exact this) x3 (26 * qq R m 0 - (26 * k + d) - 1)
        rw [show 26 * k + d + (26 * qq R m 0 - (26 * k + d) - 1) + 1 = 26 * qq R m 0 by omega] at e
        have := hp G17 a17
        rw [e] at this
        rw [zl26, zI_mul, zI_add]
        exact this
  exact main (qq R m 0) 0 (by omega) (fun x hx => by omega) G (Ag.rf G) hC hI hr
end
