/-! ===== sets as bits; the union of a row over a set ===== -/
theorem zI_difX {s t : Nat} (ht : t < 4294967296) : zI s &&& (zI t ^^^ (-1 : Int32)) = zI ((bdf s t : Nat) : Int) := by
  rw [Int32.xor_neg_one]
  exact zI_dif ht
def uni (f : Nat → Nat) (s : Nat) : Nat → Nat
  | 0 => 0
  | c + 1 => uni f s c ||| (if s.testBit c then f c else 0)
theorem uni_tb {f : Nat → Nat} {s i : Nat} : ∀ {n : Nat}, (uni f s n).testBit i = true ↔ ∃ c, c < n ∧ s.testBit c = true ∧ (f c).testBit i = true
  | 0 => by
    simp [uni]
  | n + 1 => by
    have ih := uni_tb (f := f) (s := s) (i := i) (n := n)
    unfold uni
    rw [Nat.testBit_or, Bool.or_eq_true, ih]
    constructor
    · rintro (⟨c, a, b, d⟩ | q)
      · exact ⟨c, by omega, b, d⟩
      · by_cases z : s.testBit n = true
        · rw [if_pos z] at q
          exact ⟨n, by omega, z, q⟩
        · rw [if_neg z] at q
          simp at q
    · rintro ⟨c, a, b, d⟩
      by_cases z : c = n
      · subst z
        right
        rw [if_pos b]
        exact d
      · exact Or.inl ⟨c, by omega, b, d⟩
theorem tb_lt {s k i : Nat} (h : s < 2 ^ k) (hi : s.testBit i = true) : i < k := by
  by_cases q : i < k
  · exact q
  · have := Nat.testBit_lt_two_pow (Nat.lt_of_lt_of_le h (Nat.pow_le_pow_right (n := 2) (by decide) (by omega : k ≤ i)))
    rw [this] at hi
    cases hi
theorem lt_tb {s k : Nat} (h : ∀ i, s.testBit i = true → i < k) : s < 2 ^ k := by
  apply Nat.lt_pow_two_of_testBit
  intro i hi
  rw [Bool.eq_false_iff]
  intro q
  have := h i q
  omega
theorem uni_lt {f : Nat → Nat} {s n k : Nat} (h : ∀ c, c < n → f c < 2 ^ k) : uni f s n < 2 ^ k := by
  apply lt_tb
  intro i hi
  obtain ⟨c, a, b, d⟩ := uni_tb.mp hi
  exact tb_lt (h c a) d
def wd (f : Nat → Nat) (n s : Nat) : Nat := s ||| uni f s n
theorem wd_tb {f : Nat → Nat} {n s i : Nat} : (wd f n s).testBit i = true ↔ s.testBit i = true ∨ ∃ c, c < n ∧ s.testBit c = true ∧ (f c).testBit i = true := by
  unfold wd
  rw [Nat.testBit_or, Bool.or_eq_true, uni_tb]
theorem wd_lt {f : Nat → Nat} {n s k : Nat} (h : ∀ c, c < n → f c < 2 ^ k) (hs : s < 2 ^ k) : wd f n s < 2 ^ k := Nat.or_lt_two_pow hs (uni_lt h)
def rc (f : Nat → Nat) (n : Nat) (s : Nat) : Nat → Nat
  | 0 => s
  | k + 1 => wd f n (rc f n s k)
theorem rc_lt {f : Nat → Nat} {n s k : Nat} (h : ∀ c, c < n → f c < 2 ^ k) (hs : s < 2 ^ k) : ∀ t, rc f n s t < 2 ^ k
  | 0 => hs
  | t + 1 => wd_lt h (rc_lt h hs t)
theorem rc_1 {f : Nat → Nat} {n s : Nat} : ∀ t, rc f n s (t + 1) = rc f n (wd f n s) t
  | 0 => rfl
  | t + 1 => by
    show wd f n (rc f n s (t + 1)) = _
    rw [rc_1 t]
    rfl
theorem rc_mono1 {f : Nat → Nat} {n s i t : Nat} (h : (rc f n s t).testBit i = true) : (rc f n s (t + 1)).testBit i = true := wd_tb.mpr (Or.inl h)
theorem rc_mono {f : Nat → Nat} {n s i t : Nat} (h : (rc f n s t).testBit i = true) : ∀ d, (rc f n s (t + d)).testBit i = true
  | 0 => h
  | d + 1 => rc_mono1 (rc_mono h d)
theorem rc_le {f : Nat → Nat} {n s i t t' : Nat} (hl : t ≤ t') (h : (rc f n s t).testBit i = true) : (rc f n s t').testBit i = true := by
  have := rc_mono h (t' - t)
  rwa [show t + (t' - t) = t' by omega] at this
/-- two sets meet -/
def mee (a b : Nat) : Prop := ∃ i, a.testBit i = true ∧ b.testBit i = true
theorem mee_iff {a b : Nat} : a &&& b = 0 ↔ ¬ mee a b := by
  constructor
  · rintro h ⟨i, x, y⟩
    have : (a &&& b).testBit i = true := by rw [Nat.testBit_and, x, y]; rfl
    rw [h] at this
    simp at this
  · intro h
    apply Nat.eq_of_testBit_eq
    intro i
    rw [Nat.testBit_and, Nat.zero_testBit, Bool.eq_false_iff]
    intro q
    rw [Bool.and_eq_true] at q
    exact h ⟨i, q.1, q.2⟩
theorem mee_wd {f : Nat → Nat} {n a b : Nat} (hs : ∀ c d, c < n → d < n → (f c).testBit d = (f d).testBit c) (ha : a < 2 ^ n) (hb : b < 2 ^ n) : mee (wd f n a) b → mee a (wd f n b) := by
  rintro ⟨i, x, y⟩
  rcases wd_tb.mp x with x | ⟨c, x1, x2, x3⟩
  · exact ⟨i, x, wd_tb.mpr (Or.inl y)⟩
  · have hi := tb_lt hb y
    exact ⟨c, x2, wd_tb.mpr (Or.inr ⟨i, hi, y, by rw [hs i c hi x1]; exact x3⟩)⟩
theorem mee_sym {a b : Nat} (h : mee a b) : mee b a := by
  obtain ⟨i, x, y⟩ := h
  exact ⟨i, y, x⟩
theorem mee_rc {f : Nat → Nat} {n : Nat} (hf : ∀ c, c < n → f c < 2 ^ n) (hs : ∀ c d, c < n → d < n → (f c).testBit d = (f d).testBit c) : ∀ t a b, a < 2 ^ n → b < 2 ^ n → mee (rc f n a t) b → mee (rc f n b t) a
  | 0, a, b, _, _, h => mee_sym h
  | t + 1, a, b, ha, hb, h => by
    rw [rc_1]
    exact mee_rc hf hs t a (wd f n b) ha (wd_lt hf hb) (mee_wd hs (rc_lt hf ha t) hb h)
/-- the first of N turns at which it meets -/
def fsn (f : Nat → Nat) (n a b : Nat) : Nat → Int
  | 0 => -1
  | N + 1 => if fsn f n a b N = -1 then (if rc f n a N &&& b = 0 then -1 else (N : Int)) else fsn f n a b N
theorem fsn_no {f : Nat → Nat} {n a b : Nat} : ∀ N, (∀ t, t < N → ¬ mee (rc f n a t) b) → fsn f n a b N = -1
  | 0, _ => rfl
  | N + 1, h => by
    unfold fsn
    rw [if_pos (fsn_no N (fun t ht => h t (by omega))), if_pos (mee_iff.mpr (h N (by omega)))]
theorem fsn_at {f : Nat → Nat} {n a b t : Nat} (h1 : mee (rc f n a t) b) (h2 : ∀ t', t' < t → ¬ mee (rc f n a t') b) : ∀ N, t < N → fsn f n a b N = t
  | 0, h => by omega
  | N + 1, h => by
    unfold fsn
    by_cases q : t = N
    · subst q
      rw [if_pos (fsn_no t h2), if_neg (fun z => mee_iff.mp z h1)]
    · have := fsn_at h1 h2 N (by omega)
      rw [this, if_neg (by omega)]
theorem fsn_cs {f : Nat → Nat} {n a b : Nat} : ∀ N, (fsn f n a b N = -1 ∧ ∀ t, t < N → ¬ mee (rc f n a t) b) ∨ ∃ t, t < N ∧ fsn f n a b N = t ∧ mee (rc f n a t) b ∧ ∀ t', t' < t → ¬ mee (rc f n a t') b
  | 0 => Or.inl ⟨rfl, fun t h => by omega⟩
  | N + 1 => by
    rcases fsn_cs (f := f) (n := n) (a := a) (b := b) N with ⟨x, y⟩ | ⟨t, x1, x2, x3, x4⟩
    · by_cases q : mee (rc f n a N) b
      · exact Or.inr ⟨N, by omega, fsn_at q y _ (by omega), q, y⟩
      · have : ∀ t, t < N + 1 → ¬ mee (rc f n a t) b := fun t ht => by
          by_cases z : t = N
          · subst z; exact q
          · exact y t (by omega)
        exact Or.inl ⟨fsn_no _ this, this⟩
    · exact Or.inr ⟨t, by omega, fsn_at x3 x4 _ (by omega), x3, x4⟩
theorem fsn_sym {f : Nat → Nat} {n a b : Nat} (hf : ∀ c, c < n → f c < 2 ^ n) (hs : ∀ c d, c < n → d < n → (f c).testBit d = (f d).testBit c) (ha : a < 2 ^ n) (hb : b < 2 ^ n) (N : Nat) : fsn f n a b N = fsn f n b a N := by
  rcases fsn_cs (f := f) (n := n) (a := a) (b := b) N with ⟨x, y⟩ | ⟨t, x1, x2, x3, x4⟩
  · rw [x, fsn_no N (fun t ht z => y t ht (mee_rc hf hs t b a hb ha z))]
  · rw [x2, fsn_at (mee_rc hf hs t a b ha hb x3) (fun t' ht z => x4 t' ht (mee_rc hf hs t' b a hb ha z)) N x1]
theorem fsn_rg (f : Nat → Nat) (n a b N : Nat) : -1 ≤ fsn f n a b N ∧ fsn f n a b N < N ∨ fsn f n a b N = -1 := by
  rcases fsn_cs (f := f) (n := n) (a := a) (b := b) N with ⟨x, y⟩ | ⟨t, x1, x2, x3, x4⟩
  · exact Or.inr x
  · left; omega
/-- the neighbours of the register, and the steps between two sets of its classes -/
def nei (R : RR) (c : Nat) : Nat := R (8 + c)
def stp (R : RR) (a b : Nat) : Int := fsn (nei R) 10 a b 10
theorem stp_rg (R : RR) (a b : Nat) : -1 ≤ stp R a b ∧ stp R a b ≤ 9 := by
  unfold stp
  rcases fsn_rg (nei R) 10 a b 10 with h | h <;> omega
theorem nei_lt {n : Nat} {R : RR} (hV : VR n R) : ∀ c, c < 10 → nei R c < 2 ^ 10 := fun c hc => hV.nb hc
theorem stp_sym {n : Nat} {R : RR} (hV : VR n R) {a b : Nat} (ha : a < 1024) (hb : b < 1024) : stp R a b = stp R b a := fsn_sym (nei_lt hV) (fun c d hc hd => hV.ns hc hd) ha hb 10
section
variable {R : RR} {G : GH} {n o : Nat} {post : Int32 → GH → Prop}
set_option maxHeartbeats 1000000 in
theorem wI_stepsApart {a b : Nat} (hV : VR n R) (hC : CR R (G o)) (ha : a < 1024) (hb : b < 1024) (hp : post (zI (stp R a b)) G) : wp_X4_stepsApart post o (zI a) (zI b) G := by
  unfold wp_X4_stepsApart
  intro P5 K5
  have main : ∀ f t : Nat, t + f = 10 → (∀ t', t' < t → ¬ mee (rc (nei R) 10 a t') b) → P5 (zI b) (zI (rc (nei R) 10 a t)) (zI t) G := by
    intro f
    induction f with
    | zero =>
      intro t ht hno
      refine K5 _ _ _ _ ?_
      unfold lb_X4_stepsApart_5
      refine br_t (by rw [zl10, zI_le (by omega)]; omega) ?_
      have : t = 10 := by omega
      subst this
      have e : stp R a b = -1 := fsn_no 10 hno
      rw [e] at hp
      exact hp
    | succ f ih =>
      intro t ht hno
      have hr : rc (nei R) 10 a t < 1024 := rc_lt (nei_lt hV) ha t
      refine K5 _ _ _ _ ?_
      unfold lb_X4_stepsApart_5
      refine br_f (by rw [zl10, zI_le (by omega)]; omega) ?_
      rw [zI_and]
      have hand : rc (nei R) 10 a t &&& b ≤ 1024 := Nat.le_trans Nat.and_le_left (by omega)
      refine br_c (fun q => ?_) (fun q => ?_)
      · rw [zl0, zI_eq (by omega)] at q
        have q : rc (nei R) 10 a t &&& b = 0 := by omega
        intro P27 K27
        have inner : ∀ g k : Nat, k + g = 10 → P27 (zI b) (zI (rc (nei R) 10 a t)) (zI t) (zI ((rc (nei R) 10 a t ||| uni (nei R) (rc (nei R) 10 a t) k : Nat) : Int)) (zI k) G := by
          intro g
          induction g with
          | zero =>
            intro k hk
            have : k = 10 := by omega
            subst this
            refine K27 _ _ _ _ _ _ ?_
            unfold lb_X4_stepsApart_27
            refine br_t (by rw [zl10, zI_le (by omega)]; omega) ?_
            rw [zl1, zI_add]
            refine ih (t + 1) (by omega) (fun t' ht' => ?_)
            by_cases z : t' = t
            · subst z; exact mee_iff.mp q
            · exact hno t' (by omega)
          | succ g ih2 =>
            intro k hk
            have hn : R (8 + k) < 1024 := hV.nb (by omega)
            refine K27 _ _ _ _ _ _ ?_
            unfold lb_X4_stepsApart_27
            refine br_f (by rw [zl10, zI_le (by omega)]; omega) ?_
            rw [wI_isIn (by omega) (by omega), zl1, zI_add]
            have := ih2 (k + 1) (by omega)
            unfold uni at this
            by_cases z : (rc (nei R) 10 a t).testBit k = true
            · refine br_bt z ⟨zI_in (by omega), ?_⟩
              rintro _ rfl
              rw [zI_clN (by omega), hC.nb (by omega), zI_or, Nat.or_assoc]
              rw [if_pos z] at this
              exact this
            · refine br_bf (by simpa using z) ?_
              rw [if_neg z, Nat.or_zero] at this
              exact this
        have := inner 10 0 (by omega)
        unfold uni at this
        rw [Nat.or_zero] at this
        exact this
      · rw [zl0, zI_eq (by omega)] at q
        have e : stp R a b = t := fsn_at (by
          by_cases z : mee (rc (nei R) 10 a t) b
          · exact z
          · exact absurd (mee_iff.mpr z) (by omega)) hno 10 (by omega)
        rw [e] at hp
        exact hp
  exact main 10 0 (by omega) (fun t' h => by omega)
end
