/-! ===== the halves of a mark on a day ===== -/
def orL (R : RR) (h d : Nat) : List Nat := orS R h d (fun _ => true) (R 1)
def enB (R : RR) (d m h : Nat) : Bool := decide (pri R m h d ≠ -1)
def hoB (R : RR) (d m h : Nat) : Bool := (stl R 0 (orL R h d)).testBit m
def reB (R : RR) (d m h : Nat) : Bool := (stR R 0 0 (orL R h d)).testBit m
def rfI (R : RR) (d m h : Nat) : Int := rfF R [] 0 (orL R h d) m
def hvB (R : RR) (d m what h : Nat) : Bool := if what = 0 then enB R d m h else if what = 1 then hoB R d m h else reB R d m h
def hvS (R : RR) (d m what : Nat) : Nat := bset (hvB R d m what) (2 * R 0)
theorem orL_mem {R : RR} {h d m : Nat} : m ∈ orL R h d ↔ m < R 1 ∧ pri R m h d ≠ -1 := by
  unfold orL
  rw [orS_mem]
  exact ⟨fun z => ⟨z.1, z.2.2⟩, fun z => ⟨z.1, rfl, z.2⟩⟩
theorem reB_eq {R : RR} {d m h : Nat} (hm : m < R 1) : reB R d m h = (enB R d m h && !hoB R d m h) := by
  unfold reB enB hoB
  have := stR_tb (R := R) (i := m) (L := orL R h d) (H := 0) (acc := 0) (orS_nodup _) (fun x _ => Nat.zero_testBit x)
  rw [this, Nat.zero_testBit, Bool.false_or]
  congr 1
  exact decide_eq_decide.mpr ⟨fun z => (orL_mem.mp z).2, fun z => orL_mem.mpr ⟨hm, z⟩⟩
theorem hoB_en {R : RR} {d m h : Nat} (hh : hoB R d m h = true) : enB R d m h = true ∧ m < R 1 := by
  unfold hoB at hh
  rcases stl_sub hh with z | z
  · rw [Nat.zero_testBit] at z
    cases z
  · have := orL_mem.mp z
    exact ⟨decide_eq_true this.2, this.1⟩
/-- refused is who has a right and does not hold, and then for somebody -/
theorem rfF_ne {R : RR} {x : Nat} : ∀ {L pre : List Nat} {H : Nat}, L.Nodup → (∀ i, H.testBit i = true → i ∈ pre) → (∀ y, y ∈ L → y ∉ pre) → (rfF R pre H L x ≠ -1 ↔ x ∈ L ∧ (stl R H L).testBit x = false)
  | [], pre, H, _, _, _ => by simp [rfF]
  | m :: L, pre, H, hn, hH, hd => by
    have hn' := List.nodup_cons.mp hn
    have hmp := hd m (List.mem_cons_self ..)
    have hd' : ∀ y, y ∈ L → y ∉ pre ++ [m] := fun y hy z => by
      rcases List.mem_append.mp z with z | z
      · exact hd y (List.mem_cons_of_mem _ hy) z
      · rw [List.mem_singleton] at z
        exact hn'.1 (z ▸ hy)
    show ((if agn R H m = 0 then rfF R (pre ++ [m]) (H ||| 2 ^ m) L x else if x = m then fstIn (agn R H m) pre else rfF R (pre ++ [m]) H L x) ≠ -1) ↔ x ∈ m :: L ∧ (if agn R H m = 0 then stl R (H ||| 2 ^ m) L else stl R H L).testBit x = false
    by_cases q : agn R H m = 0
    · rw [if_pos q, if_pos q]
      have ih := rfF_ne (R := R) (x := x) (L := L) (pre := pre ++ [m]) (H := H ||| 2 ^ m) hn'.2 (fun i hi => by
        rw [Nat.testBit_or, Bool.or_eq_true, Nat.testBit_two_pow, decide_eq_true_eq] at hi
        rcases hi with hi | hi
        · exact List.mem_append_left _ (hH i hi)
        · exact List.mem_append_right _ (List.mem_singleton.mpr hi.symm)) hd'
      rw [ih]
      constructor
      · rintro ⟨a, b⟩
        exact ⟨List.mem_cons_of_mem _ a, b⟩
      · rintro ⟨a, b⟩
        refine ⟨?_, b⟩
        rcases List.mem_cons.mp a with rfl | a
        · have : (stl R (H ||| 2 ^ x) L).testBit x = true := stl_mono (by rw [Nat.testBit_or, Nat.testBit_two_pow_self, Bool.or_true])
          rw [this] at b
          cases b
        · exact a
    · rw [if_neg q, if_neg q]
      have ih := rfF_ne (R := R) (x := x) (L := L) (pre := pre ++ [m]) (H := H) hn'.2 (fun i hi => List.mem_append_left _ (hH i hi)) hd'
      by_cases u : x = m
      · subst u
        rw [if_pos rfl]
        have h1 : fstIn (agn R H x) pre ≠ -1 := by
          obtain ⟨i, hi⟩ := agn_ne q
          have hip := hH i (agn_H hi)
          have : ∀ L : List Nat, i ∈ L → fstIn (agn R H x) L ≠ -1 := by
            intro L
            induction L with
            | nil => intro z; cases z
            | cons y ys ihl =>
              intro z
              show (if (agn R H x).testBit y = true then (y : Int) else fstIn (agn R H x) ys) ≠ -1
              by_cases w : (agn R H x).testBit y = true
              · rw [if_pos w]
                omega
              · rw [if_neg w]
                rcases List.mem_cons.mp z with rfl | z
                · exact absurd hi w
                · exact ihl z
          exact this pre hip
        have h2 : (stl R H L).testBit x = false := by
          rw [Bool.eq_false_iff]
          intro z
          rcases stl_sub z with z | z
          · exact hmp (hH x z)
          · exact hn'.1 z
        exact ⟨fun _ => ⟨List.mem_cons_self .., h2⟩, fun _ => h1⟩
      · rw [if_neg u, ih]
        constructor
        · rintro ⟨a, b⟩
          exact ⟨List.mem_cons_of_mem _ a, b⟩
        · rintro ⟨a, b⟩
          exact ⟨(List.mem_cons.mp a).resolve_left u, b⟩
theorem rfI_ne {R : RR} {d m h : Nat} (hm : m < R 1) : rfI R d m h ≠ -1 ↔ enB R d m h = true ∧ hoB R d m h = false := by
  unfold rfI hoB
  rw [rfF_ne (L := orL R h d) (pre := []) (H := 0) (orS_nodup _) (fun i hi => by rw [Nat.zero_testBit] at hi; cases hi) (fun y _ z => by cases z)]
  unfold enB
  rw [decide_eq_true_eq]
  exact ⟨fun z => ⟨(orL_mem.mp z.1).2, z.2⟩, fun z => ⟨orL_mem.mpr ⟨hm, z.1⟩, z.2⟩⟩
section
variable {R : RR} {G : GH} {n m day : Nat} {post : Int32 → GH → Prop}
set_option maxHeartbeats 2000000 in
theorem wM_halvesOf {what : Nat} (hV : VR n R) (hn : n ≤ 13) (hM : MR R (G 24 1)) (hLd : G 24 0 7 ≠ 0 → LT R (G 24)) (hm : m < R 1) (hd : day ≤ 9999) (hw : what ≤ 2) (hp : ∀ G', Ag WH G G' → (G' 24 0 7 ≠ 0 → LT R (G' 24)) → post (zI (hvS R day m what)) G') : wp_X8_halvesOf post (zI m) (zI day) (zI what) G := by
  have h13 := Nat.le_trans hV.mk hn
  have l6 := hV.l6
  unfold wp_X8_halvesOf
  intro P6 K6
  have main : ∀ f h : Nat, h + f = 2 * R 0 → ∀ G', Ag WH G G' → (G' 24 0 7 ≠ 0 → LT R (G' 24)) → P6 (zI m) (zI day) (zI what) (zI (bset (hvB R day m what) h)) (zI h) G' := by
    intro f
    induction f with
    | zero =>
      intro h hh G' ag hl
      have : h = 2 * R 0 := by omega
      subst this
      have hM2 : MR R (G' 24 1) := by
        rw [ag.ce 24 1 (fun j w => by unfold WH at w; omega)]
        exact hM
      refine K6 _ _ _ _ _ _ ?_
      unfold lb_X8_halvesOf_6
      rw [wM_halvesMany hM2]
      refine br_t (by rw [zI_le (by omega)]; omega) ?_
      exact hp G' ag hl
    | succ f ih =>
      intro h hh G' ag hl
      have hM2 : MR R (G' 24 1) := by
        rw [ag.ce 24 1 (fun j w => by unfold WH at w; omega)]
        exact hM
      refine K6 _ _ _ _ _ _ ?_
      unfold lb_X8_halvesOf_6
      rw [wM_halvesMany hM2]
      refine br_f (by rw [zI_le (by omega)]; omega) ?_
      refine wM_layHalf hV hn hM2 hl (by omega) hd (fun G3 ag3 hl3 => ?_)
      have agn3 := ag.tr ag3
      have fin : ∀ (b : Bool) (v : Int32), b = hvB R day m what h → v = (if b then 1 else 0) → j_X8_halvesOf_64 post P6 (zI m) (zI day) (zI what) (zI (bset (hvB R day m what) h)) (zI h) v G3 := by
        intro b v hb hv
        have := ih (h + 1) (by omega) G3 agn3 (fun _ => hl3.1)
        have e : bset (hvB R day m what) (h + 1) = bset (hvB R day m what) h ||| (if hvB R day m what h = true then 2 ^ h else 0) := rfl
        rw [e, ← hb] at this
        unfold j_X8_halvesOf_64
        rw [zl1, zI_add]
        cases b
        · refine br_t hv ?_
          rw [if_neg (by decide), Nat.or_zero] at this
          exact this
        · refine br_f (by rw [hv]; decide) ?_
          rintro _ rfl
          rw [show zI (1 : Int) = (1 : Int32) from rfl, zI_bit (by omega), zI_or]
          rw [if_pos rfl] at this
          exact this
      have hst : stl R 0 (orL R h day) < 8192 := stl_lt (fun x hx => by have := (orL_mem.mp hx).1; omega) (by omega)
      have hsr : stR R 0 0 (orL R h day) < 8192 := by
        apply Nat.lt_of_lt_of_le (m := 2 ^ 13) _ (by decide)
        apply lt_tb
        intro i hi
        rw [stR_tb (L := orL R h day) (H := 0) (orS_nodup _) (fun x _ => Nat.zero_testBit x), Nat.zero_testBit, Bool.false_or, Bool.and_eq_true, decide_eq_true_eq] at hi
        have := (orL_mem.mp hi.1).1
        omega
      obtain ⟨_, _, _, _, q25, q26, _, q22⟩ := hl3
      have hpr := pri_rg R m h day
      refine br_c (fun w => ?_) (fun w => ?_)
      · rw [zl0, zI_eq (by omega)] at w
        have w : what = 0 := by omega
        refine ⟨zI_in (by omega), ?_⟩
        rw [zI_clN (by omega), q22 m hm]
        have eh : hvB R day m what h = decide (pri R m h day ≠ -1) := by
          unfold hvB enB
          rw [if_pos w]
        refine br_c (fun z => ?_) (fun z => ?_)
        · rw [zl1, zI_neg, zI_eq (by omega)] at z
          exact fin false 0 (by rw [eh, decide_eq_false (by omega)]) rfl
        · rw [zl1, zI_neg, zI_eq (by omega)] at z
          exact fin true 1 (by rw [eh, decide_eq_true (by omega)]) rfl
      · rw [zl0, zI_eq (by omega)] at w
        unfold j_X8_halvesOf_60
        have bI2 : ∀ b : Bool, bI b = if b then 1 else 0 := fun b => by cases b <;> rfl
        refine br_c (fun z => ?_) (fun z => ?_)
        · rw [zl1, zI_eq (by omega)] at z
          have z : what = 1 := by omega
          rw [q25]
          show wp_X8_has _ (zI ((stl R 0 (orL R h day) : Nat) : Int)) _ _
          rw [wM_has (by omega) (by omega)]
          exact fin _ _ (by unfold hvB hoB; rw [if_neg (by omega), if_pos z]) (bI2 _)
        · rw [zl1, zI_eq (by omega)] at z
          rw [q26]
          show wp_X8_has _ (zI ((stR R 0 0 (orL R h day) : Nat) : Int)) _ _
          rw [wM_has (by omega) (by omega)]
          exact fin _ _ (by unfold hvB reB; rw [if_neg (by omega), if_neg (by omega)]) (bI2 _)
  exact main (2 * R 0) 0 (by omega) G (Ag.rf G) hLd
end
