/-! ===== the first day on which a name would be free ===== -/
def flR (R : RR) (m d : Nat) : RR := fun i => if i = 18 + 51 * m + 12 then d else R i
section
variable {n : Nat} {R : RR} {m d : Nat}
theorem flR_lo {i : Nat} (h : i < 18) : flR R m d i = R i := by
  unfold flR
  rw [if_neg (by omega)]
theorem flR_q {x w : Nat} (hw : w < 51) (h : x ≠ m ∨ w ≠ 12) : qq (flR R m d) x w = qq R x w := by
  unfold qq flR
  rw [if_neg (by omega)]
theorem flR_12 : qq (flR R m d) m 12 = d := by
  unfold qq flR
  rw [if_pos rfl]
theorem flR_fl {e : Nat} : flR (flR R m d) m e = flR R m e := by
  funext i
  unfold flR
  by_cases w : i = 18 + 51 * m + 12
  · rw [if_pos w, if_pos w]
  · rw [if_neg w, if_neg w, if_neg w]
theorem flR_self : flR R m (qq R m 12) = R := by
  funext i
  unfold flR
  by_cases w : i = 18 + 51 * m + 12
  · rw [if_pos w, w]
    rfl
  · rw [if_neg w]
theorem flR_V (hV : VR n R) (hd : d ≤ 9999) : VR n (flR R m d) := by
  refine ⟨?_, ?_, ?_, ?_, ?_, ?_⟩
  · rw [flR_lo (by omega)]
    exact hV.1
  · rw [flR_lo (by omega)]
    exact hV.2.1
  · intro w hw
    rw [flR_lo (by omega)]
    exact hV.rl hw
  · intro x hx
    rw [flR_lo (by omega)]
    exact hV.nb hx
  · intro x e hx he
    rw [flR_lo (by omega), flR_lo (by omega)]
    exact hV.ns hx he
  · intro x hx
    rw [flR_lo (by omega)] at hx
    have h := hV.2.2.2.2.2 x hx
    have hln := hV.ln hx
    have huc := hV.uc hx
    rw [flR_q (w := 0) (by omega) (by omega), flR_q (w := 11) (by omega) (by omega), flR_q (w := 13) (by omega) (by omega), flR_q (w := 50) (by omega) (by omega)]
    refine ⟨h.1, fun k hk => ?_, h.2.2.1, ?_, h.2.2.2.2.1, fun k hk => ?_, h.2.2.2.2.2.2⟩
    · rw [flR_q (by omega) (by omega)]
      exact h.2.1 k hk
    · by_cases z : x = m
      · rw [z, flR_12]
        exact hd
      · rw [flR_q (by omega) (Or.inl z)]
        exact h.2.2.2.1
    · rw [flR_q (by omega) (by omega), flR_q (by omega) (by omega), flR_q (by omega) (by omega)]
      exact h.2.2.2.2.2.1 k hk
theorem flR_A (hV : VR n R) : eqA R (flR R m d) := by
  refine ⟨(flR_lo (by omega)).symm, fun i h1 h2 => (flR_lo h2).symm, fun x hx => ⟨⟨hV.ln hx, fun w hw => (flR_q (by omega) (by omega)).symm⟩, (flR_q (by omega) (by omega)).symm⟩⟩
theorem eqA.symm {R R' : RR} (h : eqA R R') : eqA R' R := by
  refine ⟨h.1.symm, fun i h1 h2 => (h.2.1 i h1 h2).symm, fun x hx => ?_⟩
  rw [← h.1] at hx
  have h2 := h.2.2 x hx
  exact ⟨⟨by rw [← h2.1.2 0 (by omega)]; exact h2.1.1, fun w hw => (h2.1.2 w hw).symm⟩, h2.2.symm⟩
theorem eqA.tr {R R' R'' : RR} (h : eqA R R') (h' : eqA R' R'') : eqA R R'' := by
  refine ⟨h.1.trans h'.1, fun i h1 h2 => (h.2.1 i h1 h2).trans (h'.2.1 i h1 h2), fun x hx => ?_⟩
  have a := h.2.2 x hx
  have b := h'.2.2 x (by rw [← h.1]; exact hx)
  exact ⟨⟨a.1.1, fun w hw => (a.1.2 w hw).trans (b.1.2 w hw)⟩, a.2.trans b.2⟩
theorem eqA.LT {R R' : RR} {A : Nat → Nat → Int32} (h : eqA R R') (hL : LT R A) : LT R' A := by
  refine ⟨fun x hx => ?_, fun a b ha hb => ?_, fun x hx => ?_⟩
  · rw [← h.1] at hx
    rw [← snd_cg (h.2.2 x hx).1]
    exact hL.1 x hx
  · rw [← h.1] at ha hb
    rw [← lkL_cg (h.2.2 a ha).1 (h.2.2 b hb).1, ← lkS_cg (h.2.2 a ha).1 (h.2.2 b hb).1, ← h.nm ha hb, ← apS_cg (fun i h1 h2 => h.2.1 i (by omega) h2) (h.2.2 a ha).2 (h.2.2 b hb).2]
    exact hL.2.1 a b ha hb
  · rw [← h.1] at hx
    have e : crS R x = crS R' x := by
      unfold crS
      rw [h.fn hx, h.2.1 4 (by omega) (by omega)]
    rw [← h.fn hx, ← e, ← h.al hx]
    exact hL.2.2 x hx
theorem CR.fl1 {A A' : Nat → Nat → Int32} (hV : VR n R) (h : CR R A) (h3 : A' 3 = upd (A 3) m (zI d)) (hc : ∀ c, c ≠ 3 → A' c = A c) : CR (flR R m d) A' := by
  refine ⟨?_, ?_, ?_, ?_, ?_⟩
  · rw [hc 0 (by decide), flR_lo (by omega)]
    exact h.ld
  · rw [hc 0 (by decide), flR_lo (by omega)]
    exact h.mk
  · intro c hc2
    rw [hc 10 (by decide), flR_lo (by omega)]
    exact h.nb hc2
  · intro w hw
    rw [hc 11 (by decide), flR_lo (by omega)]
    exact h.rl hw
  · intro x hx
    rw [flR_lo (by omega)] at hx
    have hln := hV.ln hx
    have huc := hV.uc hx
    rw [hc 4 (by decide), hc 5 (by decide), hc 6 (by decide), hc 7 (by decide), hc 8 (by decide), hc 9 (by decide), h3, flR_q (w := 0) (by omega) (by omega), flR_q (w := 11) (by omega) (by omega), flR_q (w := 13) (by omega) (by omega), flR_q (w := 50) (by omega) (by omega)]
    refine ⟨?_, h.gd hx, h.ln hx, h.uc hx, h.cn hx, fun k hk => ?_, fun k j hk hj => ?_⟩
    · by_cases z : x = m
      · rw [z, upd_eq, flR_12]
      · rw [upd_ne z, flR_q (by omega) (Or.inl z)]
        exact h.fl hx
    · rw [flR_q (by omega) (by omega)]
      exact h.lt hx hk
    · rw [flR_q (by omega) (by omega)]
      exact h.us hx hk hj
end
def fhB (R : RR) (m d : Nat) : Bool := decide (∀ h, h < 2 * R 0 → hoB (flR R m d) d m h = true)
def ffB (R : RR) (m d0 e : Nat) : Bool := decide (d0 ≤ e) && fhB R m e
def ffI (R : RR) (m d0 : Nat) : Int := fsB (ffB R m d0) 10000
theorem qui.all {R : RR} {m d N h : Nat} (q : qui R none m d N) : qui R (some h) m d N := ⟨q.1, fun k hk _ => q.2 k hk (Or.inl rfl)⟩
theorem pri_own {R : RR} {m h e : Nat} (hu : qq R m 13 = 0) : pri (flR R m e) m h e = e := by
  have h13 : qq (flR R m e) m 13 = 0 := by
    rw [flR_q (by omega) (by omega)]
    exact hu
  have hl : lvB (flR R m e) m h e = false := by
    rw [← Bool.not_eq_true]
    intro z
    obtain ⟨k, a, b⟩ := lvB_iff.mp z
    omega
  unfold pri
  rw [flR_12, if_pos (Nat.le_refl _), if_pos (snc_no hl)]
/-- in one half: between events of that half nothing changes for a name that is filed on the day -/
theorem fh_key {n : Nat} {R : RR} (hV : VR n R) (hn : n ≤ 13) {m d e s h : Nat} (hm : m + 1 = R 1) (hu : qq R m 13 = 0) (hcl : clo R s) (hsm : s.testBit m = true) (hde : d ≤ e) (he : e ≤ 9999) (hq : ∀ x, x < m → s.testBit x = true → qui R (some h) x d (e + 1)) : hoB (flR R m e) e m h = hoB (flR R m d) d m h := by
  have Ve : VR n (flR R m e) := flR_V hV he
  have Vd : VR n (flR R m d) := flR_V hV (by omega)
  have Ae : eqA R (flR R m e) := flR_A hV
  have Ad : eqA R (flR R m d) := flR_A hV
  rw [← hoB_in Ve hn (Ae.clo hcl) hsm, ← hoB_in Vd hn (Ad.clo hcl) hsm, flR_lo (by omega), flR_lo (by omega), ← hm]
  have lst : ∀ t, orS (flR R m t) h t s.testBit (m + 1) = orS (flR R m t) h t s.testBit m ++ [m] := by
    intro t
    have ep : pri (flR R m t) m h t = t := pri_own hu
    show (if s.testBit m = true ∧ pri (flR R m t) m h t ≠ -1 then inS (fun x => pri (flR R m t) x h t) m (orS (flR R m t) h t s.testBit m) else orS (flR R m t) h t s.testBit m) = _
    rw [if_pos ⟨hsm, by rw [ep]; omega⟩]
    refine inS_last (fun y hy => ?_)
    show pri (flR R m t) y h t ≤ pri (flR R m t) m h t
    rw [ep]
    exact (pri_rg _ _ _ _).2
  have same : orS (flR R m e) h e s.testBit m = orS (flR R m d) h d s.testBit m := by
    refine orS_g m (fun x hx hs => ?_)
    have hxR : x < R 1 := by omega
    have hux := hV.uc hxR
    rw [← pri_cg (R := R) (R' := flR R m e) hux (fun w h1 h2 => (flR_q (by omega) (by omega)).symm) (flR_lo (by omega)).symm, ← pri_cg (R := R) (R' := flR R m d) hux (fun w h1 h2 => (flR_q (by omega) (by omega)).symm) (flR_lo (by omega)).symm]
    exact pri_stay hde (hq x hx hs)
  rw [lst e, lst d, same]
  congr 1
  refine stl_cg (fun x hx => ?_)
  have hxR : x < R 1 := by
    rcases List.mem_append.mp hx with z | z
    · have := (orS_mem.mp z).1
      omega
    · rw [List.mem_singleton] at z
      omega
  refine ⟨by rw [← Ae.al hxR, ← Ad.al hxR], ?_⟩
  rw [flR_q (by omega) (by omega), flR_q (by omega) (by omega)]
theorem fh_stay {n : Nat} {R : RR} (hV : VR n R) (hn : n ≤ 13) {m d e s : Nat} (hm : m + 1 = R 1) (hu : qq R m 13 = 0) (hcl : clo R s) (hsm : s.testBit m = true) (hde : d ≤ e) (he : e ≤ 9999) (hq : ∀ x, x < m → s.testBit x = true → qui R none x d (e + 1)) : fhB R m e = fhB R m d := by
  have key : ∀ h, hoB (flR R m e) e m h = hoB (flR R m d) d m h := fun h => fh_key hV hn hm hu hcl hsm hde he (fun x hx hs => (hq x hx hs).all)
  unfold fhB
  apply decide_eq_decide.mpr
  constructor
  · intro z h hh
    rw [← key h]
    exact z h hh
  · intro z h hh
    rw [key h]
    exact z h hh
theorem fh_event {n : Nat} {R : RR} (hV : VR n R) (hn : n ≤ 13) {m d : Nat} (hm : m + 1 = R 1) (hu : qq R m 13 = 0) (hd : d + 1 ≤ 9999) (h1 : fhB R m (d + 1) = true) (h0 : fhB R m d = false) : d + 1 ∈ tnM R (R 1) := by
  by_cases w : d + 1 ∈ tnM R (R 1)
  · exact w
  · exfalso
    have no : ∀ x, x < R 1 → ∀ v, (v = qq R x 12 ∨ ∃ k, k < qq R x 13 ∧ (v = qq R x (15 + 3 * k) ∨ v = qq R x (16 + 3 * k) + R 6 + 1)) → v ≠ d + 1 := by
      intro x hx v hv z
      apply w
      rw [tnM_mem]
      rw [z] at hv
      exact ⟨by omega, x, hx, hv⟩
    have := fh_stay hV hn hm hu (all_clo R) (all_tb (show m < R 1 by omega)) (show d ≤ d + 1 by omega) hd (fun x hx _ => by
      have n1 := no x (by omega) _ (Or.inl rfl)
      refine ⟨by omega, fun k hk _ => ?_⟩
      have n2 := no x (by omega) _ (Or.inr ⟨k, hk, Or.inl rfl⟩)
      have n3 := no x (by omega) _ (Or.inr ⟨k, hk, Or.inr rfl⟩)
      omega)
    rw [h1, h0] at this
    cases this
/-! whether a mark would hold, in the class -/
def whB (R : RR) (day m H : Nat) : Bool := decide (∀ h, h < 2 * R 0 → H.testBit h = true → hoB R day m h = true)
theorem orS_all {R : RR} {h d : Nat} : orS R h d (2 ^ R 1 - 1).testBit (R 1) = orL R h d := by
  rw [orS_filter]
  refine List.filter_eq_self.mpr (fun x hx => ?_)
  exact all_tb (orS_mem.mp hx).1
section
variable {R : RR} {G : GH} {n m day : Nat}
set_option maxHeartbeats 1000000 in
theorem wI_wouldHold {post : Bool → GH → Prop} {H : Nat} (hV : VR n R) (hn : n ≤ 13) (hC : CR R (G 9)) (h7 : ∀ i, i < R 1 → G 7 7 i = zI (alS R i)) (hm : m < R 1) (hH : H < 8192) (hr : ∀ h, h < 2 * R 0 → RKd (G 5) h (orL R h day)) (hp : ∀ G', Ag WSt G G' → post (whB R day m H) G') : wp_X7_wouldHold post (zI m) (zI H) G := by
  have h13 := Nat.le_trans hV.mk hn
  have l6 := hV.l6
  unfold wp_X7_wouldHold
  intro P K
  have main : ∀ f h : Nat, h + f = 2 * R 0 → (∀ i, i < h → H.testBit i = true → hoB R day m i = true) → ∀ G', Ag WSt G G' → P (zI m) (zI H) (zI h) G' := by
    intro f
    induction f with
    | zero =>
      intro h hh hno G' ag
      have hC' : CR R (G' 9) := hC.fr ag (fun c j z => by unfold WSt at z; omega)
      refine K _ _ _ _ ?_
      unfold lb_X7_wouldHold_2
      rw [wI_halfCount hC']
      refine br_t (by rw [zI_le (by omega)]; omega) ?_
      have := hp G' ag
      unfold whB at this
      rw [decide_eq_true (fun i hi => hno i (by omega))] at this
      exact this
    | succ f ih =>
      intro h hh hno G' ag
      have hC' : CR R (G' 9) := hC.fr ag (fun c j z => by unfold WSt at z; omega)
      have h7' : ∀ i, i < R 1 → G' 7 7 i = zI (alS R i) := fun i hi => by rw [ag 7 7 i (fun z => by unfold WSt at z; omega)]; exact h7 i hi
      have nx : ∀ {G''}, Ag WSt G G'' → (H.testBit h = true → hoB R day m h = true) → P (zI m) (zI H) (zI h + (1 : Int32)) G'' := fun {G''} ag2 hx => by
        rw [show zI (h : Int) + (1 : Int32) = zI ((h + 1 : Nat) : Int) from zI_add _ 1]
        refine ih (h + 1) (by omega) (fun i hi hb => ?_) G'' ag2
        by_cases z : i = h
        · rw [z] at hb ⊢
          exact hx hb
        · exact hno i (by omega) hb
      refine K _ _ _ _ ?_
      unfold lb_X7_wouldHold_2
      rw [wI_halfCount hC']
      refine br_f (by rw [zI_le (by omega)]; omega) ?_
      rw [wI_isIn (by omega) (by omega)]
      cases hb : H.testBit h
      · exact br_bf rfl (nx ag (fun z => by rw [hb] at z; cases z))
      · refine br_bt rfl ?_
        have hlen : (orL R h day).length ≤ 13 := Nat.le_trans (orS_len _ _ _ _ _) h13
        have hr' : RKd (G' 5) h (orL R h day) := (hr h (by omega)).fr hlen ag (fun j _ _ w => by unfold WSt at w; omega) (fun w => by unfold WSt at w; omega)
        refine wI_settle hV hn hC' (by decide) (by decide) h7' (by omega) hr' hlen orS_lt (orS_nodup _) (fun G1 ag1 e7 e2 => ?_)
        have ag1' := ag.tr ag1
        have hst : stl R 0 (orL R h day) < 8192 := stl_lt (fun x hx => by have := orS_lt x hx; omega) (by omega)
        rw [e7, wI_isIn (by omega) (by omega), show (stl R 0 (orL R h day)).testBit m = hoB R day m h from rfl]
        cases ho : hoB R day m h
        · refine br_bf rfl ?_
          have := hp G1 ag1'
          unfold whB at this
          rw [decide_eq_false (fun z => by
            have := z h (by omega) hb
            rw [ho] at this
            cases this)] at this
          exact this
        · exact br_bt rfl (nx ag1' (fun _ => ho))
  exact main (2 * R 0) 0 (by omega) (fun i hi => by omega) G (Ag.rf G)
def WFf (m x c j : Nat) : Prop := x = 5 ∨ x = 9 ∧ c = 3 ∧ j = m
/-- those halves that were held last, going round -/
def rnd (Hc half held h : Nat) : Prop := h < half ∧ half ≤ h + held ∨ half ≤ h ∧ half + Hc ≤ h + held
set_option maxHeartbeats 2000000 in
theorem wI_firstFreeDay {post : Int32 → GH → Prop} {d0 : Nat} (hV : VR n R) (hn : n ≤ 13) (hC : CR R (G 9)) (h7 : ∀ i, i < R 1 → G 7 7 i = zI (alS R i)) (hm : m + 1 = R 1) (hu : qq R m 13 = 0) (hd : d0 ≤ 9999) (hp : ∀ G', Ag (WFf m) G G' → post (zI (ffI R m d0)) G') : wp_X7_firstFreeDay post (zI m) (zI d0) G := by
  have h13 := Nat.le_trans hV.mk hn
  have l6 := hV.l6
  have l1 := hV.l1
  have hmR : m < R 1 := by omega
  have hcl := gp_clo hV hn hmR
  have hgl := gp_lt hV hn hmR
  unfold wp_X7_firstFreeDay
  refine wI_groupOf hV hn hC hmR h7 ?_
  intro P K
  have main : ∀ f day half held t : Nat, 120000 ≤ 12 * day + held + f → day ≤ 10000 → half < 2 * R 0 → held < 2 * R 0 → t ≤ 12 * day + held → d0 ≤ day → (day = 10000 → held = 0) → (∀ e, e < day → ffB R m d0 e = false) → (∀ h, h < 2 * R 0 → rnd (2 * R 0) half held h → hoB (flR R m day) day m h = true) → ∀ G', Ag (WFf m) G G' → P (zI m) (zI (gpS R m)) (zI day) (zI half) (zI held) (zI t) G' := by
    intro f
    induction f with
    | zero =>
      intro day half held t h1 h2 h3 h4 h5 h6 h9 hno hin G' ag
      have w : day = 10000 := by omega
      subst w
      have fin : post (-1 : Int32) G' := by
        have := hp G' ag
        unfold ffI at this
        rw [fsB_no 10000 (fun i hi => hno i (by omega))] at this
        exact this
      refine K _ _ _ _ _ _ _ ?_
      unfold lb_X7_firstFreeDay_25
      refine br_f (by rw [zl1000000, zI_le (by omega)]; omega) (br_t (by rw [zl9999, zI_lt (by omega)]; omega) fin)
    | succ f ih =>
      intro day half held t h1 h2 h3 h4 h5 h6 h9 hno hin G' ag
      by_cases w : day = 10000
      · subst w
        have fin : post (-1 : Int32) G' := by
          have := hp G' ag
          unfold ffI at this
          rw [fsB_no 10000 (fun i hi => hno i (by omega))] at this
          exact this
        have := h9 rfl
        refine K _ _ _ _ _ _ _ ?_
        unfold lb_X7_firstFreeDay_25
        refine br_f (by rw [zl1000000, zI_le (by omega)]; omega) (br_t (by rw [zl9999, zI_lt (by omega)]; omega) fin)
      · refine K _ _ _ _ _ _ _ ?_
        unfold lb_X7_firstFreeDay_25
        refine br_f (by rw [zl1000000, zI_le (by omega)]; omega) (br_f (by rw [zl9999, zI_lt (by omega)]; omega) ⟨zI_in (by omega), ?_⟩)
        intro G5 e5
        rw [zI_clN (by omega)] at e5
        have ag5 : Ag (WFf m) G G5 := by
          rw [e5]
          exact ag.up (Or.inr ⟨rfl, rfl, rfl⟩)
        have Vd : VR n (flR R m day) := flR_V hV (by omega)
        have Ad : eqA R (flR R m day) := flR_A hV
        have hC5 : CR (flR R m day) (G5 9) := by
          refine hC.fl1 hV ?_ (fun c hc => ag5.ce 9 c (fun j z => by unfold WFf at z; omega))
          funext j
          by_cases z : j = m
          · rw [z, upd_eq, e5, gs_eq, upd_eq]
          · rw [upd_ne z]
            exact ag5 9 3 j (fun y => by unfold WFf at y; omega)
        have h75 : ∀ i, i < flR R m day 1 → G5 7 7 i = zI (alS (flR R m day) i) := fun i hi => by
          rw [flR_lo (by omega)] at hi
          rw [ag5 7 7 i (fun y => by unfold WFf at y; omega), ← Ad.al hi]
          exact h7 i hi
        refine wI_rs Vd hn hC5 (by decide) (by decide) h75 (by omega) (by omega) hgl (fun G6 ag6 er e7 e2 => ?_)
        have ag6' : Ag (WFf m) G G6 := ag5.wk ag6 (fun x c j z => Or.inl (WRS.o z))
        have hC6 : CR (flR R m day) (G6 9) := hC5.fr ag6 (fun c j z => by have := WRS.o z; omega)
        have hst : stl (flR R m day) 0 (orS (flR R m day) half day (gpS R m).testBit (flR R m day 1)) < 8192 := stl_lt (fun x hx => by have := orS_lt x hx; rw [flR_lo (by omega)] at this; omega) (by omega)
        have eh : (flR R m day 0) = R 0 := flR_lo (by omega)
        rw [e7, wI_isIn (by omega) (by omega), hoB_in Vd hn (Ad.clo hcl) gp_self]
        cases hb : hoB (flR R m day) day m half
        · refine br_bf rfl ?_
          refine wI_nextChange Vd hn hC6 (by omega) hgl (by omega) (fun N g1 g2 hq => ?_)
          unfold j_X7_firstFreeDay_146
          rw [wI_halfCount hC6, eh]
          refine br_f (by rw [zl0, zI_eq (by omega)]; omega) ?_
          rw [show zI (t : Int) + (1 : Int32) = zI ((t + 1 : Nat) : Int) from zI_add _ 1]
          refine ih N half 0 (t + 1) (by omega) (by omega) h3 (by omega) (by omega) (by omega) (fun _ => rfl) (fun e he => ?_) (fun h hh z => by unfold rnd at z; omega) G6 ag6'
          by_cases z : e < day
          · exact hno e z
          · have hke : hoB (flR R m e) e m half = false := by
              rw [fh_key hV hn hm hu hcl gp_self (show day ≤ e by omega) (by omega) (fun x hx hs => ?_), hb]
              have q := (hq x (by rw [flR_lo (by omega)]; omega) hs).le (show e + 1 ≤ N by omega)
              unfold qui at q ⊢
              have hxR : x < R 1 := by omega
              have hux := hV.uc hxR
              rw [flR_q (w := 12) (by omega) (Or.inl (by omega)), flR_q (w := 13) (by omega) (Or.inl (by omega)), flR_lo (by omega)] at q
              refine ⟨q.1, fun k hk he2 => ?_⟩
              have := q.2 k hk (by rw [flR_q (w := 14 + 3 * k) (by omega) (Or.inl (by omega))]; exact he2)
              rw [flR_q (w := 15 + 3 * k) (by omega) (Or.inl (by omega)), flR_q (w := 16 + 3 * k) (by omega) (Or.inl (by omega))] at this
              exact this
            have hfh : fhB R m e = false := by
              unfold fhB
              refine decide_eq_false (fun y => ?_)
              have := y half h3
              rw [hke] at this
              cases this
            unfold ffB
            rw [hfh, Bool.and_false]
        · refine br_bt rfl ?_
          -- the next half of the round
          have step : ∀ half' : Nat, (half' = half + 1 ∧ half + 1 < 2 * R 0 ∨ half' = 0 ∧ half + 1 = 2 * R 0) → j_X7_firstFreeDay_124 post P (zI m) (zI (gpS R m)) (zI day) (zI held + (1 : Int32)) (zI t) (zI half') G6 := by
            intro half' hx
            have hin' : ∀ h, h < 2 * R 0 → rnd (2 * R 0) half' (held + 1) h → hoB (flR R m day) day m h = true := by
              intro h hh z
              by_cases y : h = half
              · rw [y]
                exact hb
              · refine hin h hh ?_
                unfold rnd at z ⊢
                omega
            unfold j_X7_firstFreeDay_124 j_X7_firstFreeDay_146
            rw [wI_halfCount hC6, eh, show zI (held : Int) + (1 : Int32) = zI ((held + 1 : Nat) : Int) from zI_add _ 1, show zI (t : Int) + (1 : Int32) = zI ((t + 1 : Nat) : Int) from zI_add _ 1, zI_eq (by omega)]
            refine br_c (fun q => ?_) (fun q => ?_)
            · have hfh : fhB R m day = true := by
                unfold fhB
                refine decide_eq_true (fun h hh => hin' h hh ?_)
                unfold rnd
                omega
              have := hp G6 ag6'
              unfold ffI at this
              have e := fsB_at (p := ffB R m d0) (m := day) hno (by unfold ffB; rw [decide_eq_true h6, hfh]; rfl) (9999 - day)
              rw [show day + (9999 - day) + 1 = 10000 by omega] at e
              rw [e] at this
              exact this
            · exact ih day half' (held + 1) (t + 1) (by omega) h2 (by omega) (by omega) (by omega) h6 (fun z => absurd z w) hno hin' G6 ag6'
          rw [wI_halfCount hC6, eh, show zI (half : Int) + (1 : Int32) = zI ((half + 1 : Nat) : Int) from zI_add _ 1, zI_le (by omega)]
          refine br_c (fun q => step 0 (Or.inr ⟨rfl, by omega⟩)) (fun q => step (half + 1) (Or.inl ⟨rfl, by omega⟩))
  exact main 120000 d0 0 0 0 (by omega) (by omega) (by omega) (by omega) (by omega) (Nat.le_refl _) (fun _ => rfl) (fun e he => by unfold ffB; rw [decide_eq_false (by omega)]; rfl) (fun h hh z => by unfold rnd at z; omega) G (Ag.rf G)
end
