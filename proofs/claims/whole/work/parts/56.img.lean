/-! ===== a name imagined, in the class ===== -/
section
variable {R : RR} {G : GH} {b : Nat → Nat} {n day goods : Nat}
theorem mkR_N {N : Nat} {g : Nat → Nat} {len d s m : Nat} (hV : VR N R) (hm : m < R 1) : eqN R (mkR R g len d s) m := ⟨hV.ln hm, fun w hw => (mkR_old hm (by omega)).symm⟩
theorem HS.cg {A A' : Nat → Nat → Int32} {c1 c2 m : Nat} {L : List Nat} (h : HS A c1 c2 m L) (hl : L.length ≤ 20) (e2 : A' c2 m = A c2 m) (e1 : ∀ j, 20 * m ≤ j → j < 20 * m + 20 → A' c1 j = A c1 j) : HS A' c1 c2 m L := by
  refine ⟨by rw [e2]; exact h.1, fun j hj => ?_⟩
  rw [e1 _ (by omega) (by omega)]
  exact h.2 j hj
set_option maxHeartbeats 2000000 in
theorem wI_imagine {post : Int32 → GH → Prop} (hV : VR 12 R) (hC : CR R (G 8)) (hK : KN R (G 6)) (hKG : KG R (G 6)) (hB : TB b (G 1 1)) (hnm : nmB b n = true) (hgo : goods < 1024) (hd : day ≤ 9999) (hp : ∀ G', Ag (fun x _ _ => x = 7 ∨ x = 9) G G' → CR (mkR R b n day goods) (G' 9) → KN (mkR R b n day goods) (G' 7) → KG (mkR R b n day goods) (G' 7) → KJ (mkR R b n day goods) (G' 7) → post (zI (R 1)) G') : wp_X7_imagine post 6 (zI n) (zI goods) (zI day) G := by
  have hm12 := hV.mk
  obtain ⟨hn1, hn2, hnl⟩ : 1 ≤ n ∧ n ≤ 10 ∧ ∀ k, k < n → sml (b k) = true := of_decide_eq_true hnm
  have hlet : ∀ k, k < n → 97 ≤ b k ∧ b k ≤ 122 := fun k hk => of_decide_eq_true (hnl k hk)
  have V2 : VR 13 (mkR R b n day goods) := mkR_V (hV.up (by omega)) (by omega) ⟨hn1, hn2⟩ hlet hd hgo
  have r1 : mkR R b n day goods 1 = R 1 + 1 := mkR_1
  have hmm : R 1 < mkR R b n day goods 1 := by omega
  unfold wp_X7_imagine
  refine wI_copyR hV (by omega) hC (by decide) (fun G1 ag1 hC1 => ?_)
  refine wI_copyL (by decide) (fun G3 ag3 hc3 => ?_)
  have a3 : Ag (fun x _ _ => x = 7 ∨ x = 9) G G3 := (ag1.mo (fun x c j z => Or.inr z)).wk ag3 (fun x c j z => Or.inl z.1)
  have hB3 : TB b (G3 1 1) := by
    rw [a3.ob 1 (fun c j z => by omega)]
    exact hB
  have e6 : G1 6 = G 6 := ag1.ob 6 (fun c j z => by omega)
  rw [e6] at hc3
  have hC3 : CR R (G3 9) := hC1.fr ag3 (fun c j z => by omega)
  rw [show (0 : Int32) = zI ((0 : Nat) : Int) from rfl]
  refine wI_addMark (s := 0) (hV.up (show 12 ≤ 13 by omega)) (by omega) hC3 (by decide) hB3 ⟨hn1, hn2⟩ (by omega) (fun k hk => by rw [Nat.zero_add]; exact hlet k hk) (fun G5 ag5 hC5 => ⟨zI_in (by omega), ?_⟩)
  rw [show (fun k => b (0 + k)) = b from funext (fun k => by rw [Nat.zero_add])] at hC5
  intro G7 e7
  rw [zI_clN (by omega)] at e7
  have a7 : Ag (fun x _ _ => x = 7 ∨ x = 9) G G7 := by
    rw [e7]
    exact (a3.wk ag5 (fun x c j z => Or.inr z)).up (Or.inr rfl)
  have hC7 : CR (mkR R b n day goods) (G7 9) := hC5.cls (hV.up (show 12 ≤ 13 by omega)) hn2 (by rw [e7, gs_eq]) (fun c hc => by rw [e7, gs_ne (by omega)])
  have k7 : ∀ c, G7 7 c = G3 7 c := fun c => by
    rw [e7, gs_ne (by omega), ag5.ob 7 (fun c j z => by omega)]
  refine wI_hear V2 (by omega) hC7 hmm (by decide) (fun G8 ag8 hH => ?_)
  have a8 : Ag (fun x _ _ => x = 7 ∨ x = 9) G G8 := a7.wk ag8 (fun x c j z => Or.inl z.1)
  -- what is known of the old ones
  have eN : ∀ i, i < R 1 → eqN R (mkR R b n day goods) i := fun i hi => mkR_N hV hi
  have hS8 : ∀ i, i < R 1 → HS (G8 7) 1 2 i (snd (mkR R b n day goods) i) := by
    intro i hi
    rw [← snd_cg (eN i hi)]
    refine (hK.1 i hi).cg (snd_len R i) ?_ (fun j h1 h2 => ?_)
    · rw [ag8 7 2 i (fun z => by unfold WS at z; omega), k7, hc3.2.1 i (by omega)]
    · rw [ag8 7 1 j (fun z => by unfold WS at z; omega), k7, hc3.1 j (by omega)]
  have hP8 : ∀ i j, i < R 1 → j < R 1 → i ≠ j → G8 7 3 (13 * i + j) = zI (lkL (mkR R b n day goods) i j) ∧ G8 7 4 (13 * i + j) = zI (lkS (mkR R b n day goods) i j) := by
    intro i j hi hj hij
    rw [← lkL_cg (eN i hi) (eN j hj), ← lkS_cg (eN i hi) (eN j hj), ag8 7 3 _ (fun z => by unfold WS at z; omega), ag8 7 4 _ (fun z => by unfold WS at z; omega), k7, k7, hc3.2.2.1 _ (by omega), hc3.2.2.2.1 _ (by omega)]
    exact hK.2 i j hi hj hij
  have hG8 : ∀ i j, i < R 1 → j < R 1 → G8 7 5 (13 * i + j) = zI (apS (mkR R b n day goods) i j) := by
    intro i j hi hj
    rw [← apS_cg (R := R) (fun x h1 h2 => (mkR_lo (by omega) h2).symm) (mkR_old hi (by omega)).symm (mkR_old hj (by omega)).symm, ag8 7 5 _ (fun z => by unfold WS at z; omega), k7, hc3.2.2.2.2.1 _ (by omega)]
    exact hKG i j hi hj
  have hC8 : CR (mkR R b n day goods) (G8 9) := hC7.fr ag8 (fun c j z => by unfold WS at z; omega)
  clear hc3 k7 hK hKG e7 e6
  intro P K
  have main : ∀ f k : Nat, k + f = R 1 → ∀ G', Ag (fun x _ _ => x = 7 ∨ x = 9) G G' → CR (mkR R b n day goods) (G' 9) → (∀ i, i < R 1 + 1 → HS (G' 7) 1 2 i (snd (mkR R b n day goods) i)) → (∀ i j, i < R 1 → j < R 1 → i ≠ j → G' 7 3 (13 * i + j) = zI (lkL (mkR R b n day goods) i j) ∧ G' 7 4 (13 * i + j) = zI (lkS (mkR R b n day goods) i j)) → (∀ i j, i < R 1 → j < R 1 → G' 7 5 (13 * i + j) = zI (apS (mkR R b n day goods) i j)) → (∀ i, i < k → (G' 7 3 (13 * R 1 + i) = zI (lkL (mkR R b n day goods) (R 1) i) ∧ G' 7 3 (13 * i + R 1) = zI (lkL (mkR R b n day goods) (R 1) i)) ∧ G' 7 4 (13 * R 1 + i) = zI (lkS (mkR R b n day goods) (R 1) i) ∧ G' 7 4 (13 * i + R 1) = zI (lkS (mkR R b n day goods) (R 1) i)) → P (zI (R 1)) (zI k) G' := by
    intro f
    induction f with
    | zero =>
      intro k hk G' ag hC' hS' hP' hG' hN'
      have : k = R 1 := by omega
      subst this
      refine K _ _ _ ?_
      unfold lb_X7_imagine_66
      refine br_t (by rw [zI_le (by omega)]; omega) ?_
      have kn : KN (mkR R b n day goods) (G' 7) := by
        refine ⟨fun i hi => hS' i (by omega), fun i j hi hj hij => ?_⟩
        by_cases wi : i = R 1
        · subst wi
          exact ⟨(hN' j (by omega)).1.1, (hN' j (by omega)).2.1⟩
        · by_cases wj : j = R 1
          · subst wj
            rw [lkL_sym V2 hi hmm, lkS_sym]
            exact ⟨(hN' i (by omega)).1.2, (hN' i (by omega)).2.2⟩
          · exact hP' i j (by omega) (by omega) hij
      refine wI_compareGoods V2 (by omega) hC' hmm (by decide) (fun G11 ag11 hg11 => ?_)
      have a11 : Ag (fun x _ _ => x = 7 ∨ x = 9) G G11 := ag.wk ag11 (fun x c j z => Or.inl z.1)
      have hC11 : CR (mkR R b n day goods) (G11 9) := hC'.fr ag11 (fun c j z => by omega)
      have c11 : ∀ c, c ≠ 5 → G11 7 c = G' 7 c := fun c hc => ag11.ce 7 c (fun j z => hc z.2.1)
      have kn11 : KN (mkR R b n day goods) (G11 7) := by
        unfold KN HS
        rw [c11 1 (by decide), c11 2 (by decide), c11 3 (by decide), c11 4 (by decide)]
        exact kn
      have kg11 : KG (mkR R b n day goods) (G11 7) := by
        intro i j hi hj
        by_cases wi : i = R 1
        · subst wi
          exact (hg11 j hj).1
        · by_cases wj : j = R 1
          · subst wj
            rw [apS_sym V2 hi hmm]
            exact (hg11 i hi).2
          · rw [ag11 7 5 _ (fun z => by
              obtain ⟨-, -, x, hx, z⟩ := z
              omega)]
            exact hG' i j (by omega) (by omega)
      refine wI_judge V2 (by omega) hC11 (by decide) kn11.n kg11 (fun G13 ag13 kj13 => ?_)
      have c13 : ∀ c, c ≠ 6 → c ≠ 7 → G13 7 c = G11 7 c := fun c h1 h2 => ag13.ce 7 c (fun j z => by omega)
      refine hp G13 (a11.wk ag13 (fun x c j z => Or.inl z.1)) (hC11.fr ag13 (fun c j z => by omega)) ?_ ?_ kj13
      · unfold KN HS
        rw [c13 1 (by decide) (by decide), c13 2 (by decide) (by decide), c13 3 (by decide) (by decide), c13 4 (by decide) (by decide)]
        exact kn11
      · unfold KG
        rw [c13 5 (by decide) (by decide)]
        exact kg11
    | succ f ih =>
      intro k hk G' ag hC' hS' hP' hG' hN'
      refine K _ _ _ ?_
      unfold lb_X7_imagine_66
      refine br_f (by rw [zI_le (by omega)]; omega) ?_
      refine wI_compareNames V2 (by omega) hC' hmm (by omega) (by decide) (hS' (R 1) (by omega)) (hS' k (by omega)) (fun G15 ag15 q3 q4 => ?_)
      rw [show zI (k : Int) + (1 : Int32) = zI ((k + 1 : Nat) : Int) from zI_add _ 1]
      refine ih (k + 1) (by omega) G15 (ag.wk ag15 (fun x c j z => Or.inl z.1)) (hC'.fr ag15 (fun c j z => by unfold WN at z; omega)) (fun i hi => ?_) (fun i j hi hj hij => ?_) (fun i j hi hj => ?_) (fun i hi => ?_)
      · unfold HS
        rw [ag15.ce 7 1 (fun j z => by unfold WN at z; omega), ag15.ce 7 2 (fun j z => by unfold WN at z; omega)]
        exact hS' i hi
      · rw [ag15 7 3 _ (fun z => by unfold WN at z; omega), ag15 7 4 _ (fun z => by unfold WN at z; omega)]
        exact hP' i j hi hj hij
      · rw [ag15 7 5 _ (fun z => by unfold WN at z; omega)]
        exact hG' i j hi hj
      · by_cases u : i = k
        · subst u
          exact ⟨q3, q4⟩
        · rw [ag15 7 3 _ (fun z => by unfold WN at z; omega), ag15 7 4 _ (fun z => by unfold WN at z; omega), ag15 7 3 _ (fun z => by unfold WN at z; omega), ag15 7 4 _ (fun z => by unfold WN at z; omega)]
          exact hN' i (by omega)
  refine main (R 1) 0 (by omega) G8 a8 hC8 (fun i hi => ?_) hP8 hG8 (fun i hi => by omega)
  by_cases u : i = R 1
  · rw [u]
    exact hH
  · exact hS8 i (by omega)
end
