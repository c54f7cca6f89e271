/-! ===== what follows from names and goods alone is the same where these are the same ===== -/
theorem uni_cg {f f' : Nat → Nat} {s : Nat} : ∀ n, (∀ c, c < n → f c = f' c) → uni f s n = uni f' s n
  | 0, _ => rfl
  | n + 1, h => by
    unfold uni
    rw [uni_cg n (fun c hc => h c (by omega)), h n (by omega)]
theorem rc_cg {f f' : Nat → Nat} {n s : Nat} (h : ∀ c, c < n → f c = f' c) : ∀ t, rc f n s t = rc f' n s t
  | 0 => rfl
  | t + 1 => by
    unfold rc wd
    rw [rc_cg h t, uni_cg n h]
theorem fsn_cg {f f' : Nat → Nat} {n a b : Nat} (h : ∀ c, c < n → f c = f' c) : ∀ N, fsn f n a b N = fsn f' n a b N
  | 0 => rfl
  | N + 1 => by
    unfold fsn
    rw [fsn_cg h N, rc_cg h N]
theorem stp_cg {R R' : RR} {a b : Nat} (h : ∀ i, 8 ≤ i → i < 18 → R i = R' i) : stp R a b = stp R' a b := fsn_cg (fun c hc => h (8 + c) (by omega) (by omega)) 10
/-- the names of a mark are the same -/
def eqN (R R' : RR) (m : Nat) : Prop := qq R m 0 ≤ 10 ∧ ∀ w, w < 11 → qq R m w = qq R' m w
theorem ltr_cg {R R' : RR} {m : Nat} (h : eqN R R' m) (k : Nat) : ltr R m k = ltr R' m k := by
  have h1 := h.1
  unfold ltr
  rw [← h.2 0 (by omega)]
  by_cases w : k < qq R m 0
  · rw [if_pos w, if_pos w, h.2 (1 + k) (by omega)]
  · rw [if_neg w, if_neg w]
theorem hrS_cg {R R' : RR} {m : Nat} (h : eqN R R' m) : ∀ f k (L : List Nat), hrS R m f k L = hrS R' m f k L
  | 0, _, _ => rfl
  | f + 1, k, L => by
    unfold hrS
    rw [hrS_cg h f, hrS_cg h f, hrS_cg h f, ltr_cg h k, ltr_cg h (k + 1), h.2 0 (by omega)]
theorem snd_cg {R R' : RR} {m : Nat} (h : eqN R R' m) : snd R m = snd R' m := hrS_cg h 10 0 []
theorem lkL_cg {R R' : RR} {a b : Nat} (ha : eqN R R' a) (hb : eqN R R' b) : lkL R a b = lkL R' a b := by
  have e : ∀ m, eqN R R' m → xl R m = xl R' m := fun m h => by
    funext i
    unfold xl
    rw [ltr_cg h i]
  unfold lkL
  rw [e a ha, e b hb, ha.2 0 (by omega), hb.2 0 (by omega)]
theorem lkS_cg {R R' : RR} {a b : Nat} (ha : eqN R R' a) (hb : eqN R R' b) : lkS R a b = lkS R' a b := by
  have e : ∀ m, eqN R R' m → xs R m = xs R' m := fun m h => by
    funext i
    unfold xs
    rw [snd_cg h]
  unfold lkS
  rw [e a ha, e b hb, snd_cg ha, snd_cg hb]
theorem apS_cg {R R' : RR} {a b : Nat} (h : ∀ i, 8 ≤ i → i < 18 → R i = R' i) (ha : qq R a 11 = qq R' a 11) (hb : qq R b 11 = qq R' b 11) : apS R a b = apS R' a b := by
  unfold apS
  rw [stp_cg h, ha, hb]
/-- names, goods, rules and nets are the same -/
def eqA (R R' : RR) : Prop := R 1 = R' 1 ∧ (∀ i, 2 ≤ i → i < 18 → R i = R' i) ∧ ∀ m, m < R 1 → eqN R R' m ∧ qq R m 11 = qq R' m 11
section
variable {R R' : RR} {a b : Nat}
theorem eqA.nr (h : eqA R R') (ha : a < R 1) (hb : b < R 1) : nrB R a b = nrB R' a b := by
  unfold nrB
  rw [apS_cg (fun i h1 h2 => h.2.1 i (by omega) h2) (h.2.2 a ha).2 (h.2.2 b hb).2, h.2.1 5 (by omega) (by omega)]
theorem eqA.nm (h : eqA R R') (ha : a < R 1) (hb : b < R 1) : nmS R a b = nmS R' a b := by
  unfold nmS
  rw [lkS_cg (h.2.2 a ha).1 (h.2.2 b hb).1, lkL_cg (h.2.2 a ha).1 (h.2.2 b hb).1, h.2.1 7 (by omega) (by omega)]
theorem eqA.fl (h : eqA R R') (ha : a < R 1) (hb : b < R 1) : fldB R a b = fldB R' a b := by
  unfold fldB
  rw [h.nr ha hb, h.nm ha hb, h.2.1 2 (by omega) (by omega)]
theorem eqA.fs (h : eqA R R') (ha : a < R 1) : fsS R a = fsS R' a := by
  unfold fsS
  rw [← h.1]
  exact bset_cg (fun i hi => h.fl ha hi)
theorem eqA.fn (h : eqA R R') (ha : a < R 1) : fnS R a = fnS R' a := by
  unfold fnS
  rw [← h.1]
  exact cntB_cg _ (fun i hi => h.fl ha hi)
theorem eqA.al (h : eqA R R') (ha : a < R 1) : alS R a = alS R' a := by
  unfold alS
  rw [← h.1]
  refine bset_cg (fun i hi => ?_)
  unfold alB brS crS
  rw [h.nr ha hi, h.nm ha hi, h.fn ha, h.fn hi, h.2.1 2 (by omega) (by omega), h.2.1 3 (by omega) (by omega), h.2.1 4 (by omega) (by omega)]
theorem eqA.KN {A : Nat → Nat → Int32} (h : eqA R R') (hK : KN R A) : KN R' A := by
  refine ⟨fun m hm => ?_, fun a b ha hb hab => ?_⟩
  · rw [← h.1] at hm
    rw [← snd_cg (h.2.2 m hm).1]
    exact hK.1 m hm
  · rw [← h.1] at ha hb
    rw [← lkL_cg (h.2.2 a ha).1 (h.2.2 b hb).1, ← lkS_cg (h.2.2 a ha).1 (h.2.2 b hb).1]
    exact hK.2 a b ha hb hab
theorem eqA.KG {A : Nat → Nat → Int32} (h : eqA R R') (hK : KG R A) : KG R' A := by
  intro a b ha hb
  rw [← h.1] at ha hb
  rw [← apS_cg (fun i h1 h2 => h.2.1 i (by omega) h2) (h.2.2 a ha).2 (h.2.2 b hb).2]
  exact hK a b ha hb
theorem eqA.KJ {A : Nat → Nat → Int32} (h : eqA R R') (hK : KJ R A) : KJ R' A := by
  intro m hm
  rw [← h.1] at hm
  rw [← h.fs hm, ← h.al hm]
  exact hK m hm
theorem eqA.clo {s : Nat} (h : eqA R R') (hc : clo R s) : clo R' s := by
  intro m hm hs i hi
  rw [← h.1] at hm
  rw [← h.al hm] at hi
  exact hc m hm hs i hi
end
/-! uses, filings: the priority -/
theorem lvB_cg {R R' : RR} {m h d : Nat} (hu : qq R m 13 ≤ 12) (hw : ∀ w, 13 ≤ w → w < 50 → qq R m w = qq R' m w) (h6 : R 6 = R' 6) : lvB R m h d = lvB R' m h d := by
  have e13 := hw 13 (by omega) (by omega)
  have key : ∀ k, k < qq R m 13 → qq R m (14 + 3 * k) = qq R' m (14 + 3 * k) ∧ qq R m (15 + 3 * k) = qq R' m (15 + 3 * k) ∧ qq R m (16 + 3 * k) = qq R' m (16 + 3 * k) := fun k hk => ⟨hw _ (by omega) (by omega), hw _ (by omega) (by omega), hw _ (by omega) (by omega)⟩
  cases h1 : lvB R' m h d
  · rw [← Bool.not_eq_true] at h1 ⊢
    intro z
    apply h1
    obtain ⟨k, a, b, c⟩ := lvB_iff.mp z
    obtain ⟨x, y, u⟩ := key k a
    exact lvB_iff.mpr ⟨k, by omega, by omega, by omega⟩
  · obtain ⟨k, a, b, c⟩ := lvB_iff.mp h1
    obtain ⟨x, y, u⟩ := key k (by omega)
    exact lvB_iff.mpr ⟨k, by omega, by omega, by omega⟩
theorem snc_cg {R R' : RR} {m h : Nat} (hu : qq R m 13 ≤ 12) (hw : ∀ w, 13 ≤ w → w < 50 → qq R m w = qq R' m w) (h6 : R 6 = R' 6) : ∀ d, snc R m h d = snc R' m h d
  | 0 => by
    unfold snc
    rw [lvB_cg hu hw h6]
  | d + 1 => by
    rw [snc_s, snc_s, snc_cg hu hw h6 d, lvB_cg hu hw h6, lvB_cg hu hw h6]
theorem pri_cg {R R' : RR} {m h d : Nat} (hu : qq R m 13 ≤ 12) (hw : ∀ w, 12 ≤ w → w < 50 → qq R m w = qq R' m w) (h6 : R 6 = R' 6) : pri R m h d = pri R' m h d := by
  unfold pri
  rw [snc_cg hu (fun w h1 h2 => hw w (by omega) h2) h6, hw 12 (by omega) (by omega)]
theorem orS_g {R R' : RR} {h d h' d' : Nat} {am : Nat → Bool} : ∀ n, (∀ x, x < n → am x = true → pri R x h d = pri R' x h' d') → orS R h d am n = orS R' h' d' am n
  | 0, _ => rfl
  | n + 1, hx => by
    have ih := orS_g n (fun x hx1 hx2 => hx x (by omega) hx2)
    unfold orS
    rw [ih]
    by_cases w : am n = true
    · have e1 := hx n (by omega) w
      rw [e1]
      split
      · refine inS_cg e1 (fun y hy => ?_)
        have := orS_mem.mp hy
        exact hx y (by omega) this.2.1
      · rfl
    · rw [if_neg (fun z => w z.1), if_neg (fun z => w z.1)]
theorem stl_cg {R R' : RR} : ∀ {L : List Nat} {H : Nat}, (∀ x, x ∈ L → alS R x = alS R' x ∧ qq R x 50 = qq R' x 50) → stl R H L = stl R' H L
  | [], _, _ => rfl
  | m :: L, H, h => by
    have h0 := h m (List.mem_cons_self ..)
    have hL : ∀ x, x ∈ L → alS R x = alS R' x ∧ qq R x 50 = qq R' x 50 := fun x hx => h x (List.mem_cons_of_mem _ hx)
    have e : agn R H m = agn R' H m := by
      unfold agn
      rw [h0.1, h0.2]
    unfold stl
    rw [e, stl_cg hL, stl_cg hL]
/-- who holds, told among a closed set -/
theorem hoB_in {n : Nat} {R : RR} (hV : VR n R) (hn : n ≤ 13) {h d s m : Nat} (hcl : clo R s) (hsm : s.testBit m = true) : (stl R 0 (orS R h d s.testBit (R 1))).testBit m = hoB R d m h := by
  have h13 := Nat.le_trans hV.mk hn
  have hal : ∀ m, alS R m < 8192 := fun m => bset_lt13 _ h13
  rw [orS_filter, stl_cut hal hcl (fun x hx => (orS_mem.mp hx).1) (H := 0) (fun i => by rw [Nat.zero_testBit]; rfl), hsm, Bool.and_true]
  rfl
theorem inS_last {key : Nat → Int} {x : Nat} : ∀ {L : List Nat}, (∀ y, y ∈ L → key y ≤ key x) → inS key x L = L ++ [x]
  | [], _ => rfl
  | y :: ys, h => by
    have h0 := h y (List.mem_cons_self ..)
    rw [inS_cons, if_neg (by omega), inS_last (fun z hz => h z (List.mem_cons_of_mem _ hz))]
    rfl
