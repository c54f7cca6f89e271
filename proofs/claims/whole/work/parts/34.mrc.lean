def sM : Nat → ((Bool → GH → Prop) → GH → Prop) × ((Bool → GH → Prop) → GH → Prop) × ((Bool → GH → Prop) → GH → Prop)
  | 0 => (fun _ _ => False, fun _ _ => False, fun _ _ => False)
  | d + 1 => ((fun post G => wr_X8_readFact post (sM d).1 (sM d).2.1 (sM d).2.2 G), (fun post G => wr_X8_readBoth post (sM d).1 (sM d).2.1 (sM d).2.2 G), (fun post G => wr_X8_readTest post (sM d).1 (sM d).2.1 (sM d).2.2 G))
theorem sM_k : ∀ d : Nat, (∀ (l : Launch) (E : Ev) (P : Nat → Prop) (sd : Nat → Nat → Nat) (post : Bool → GH → Prop) (G : GH) (hPP : ∀ o, stt o = true → P o) , (sM d).1 post G → Ct l yX8_readFact cX8_readFact 4 (some .boolean) (24 + d) 0 0 E P sd G [.ref (sd 24 0)] (pB post)) ∧ (∀ (l : Launch) (E : Ev) (P : Nat → Prop) (sd : Nat → Nat → Nat) (post : Bool → GH → Prop) (G : GH) (hPP : ∀ o, stt o = true → P o) , (sM d).2.1 post G → Ct l yX8_readBoth cX8_readBoth 3 (some .boolean) (24 + d) 0 0 E P sd G [.ref (sd 24 0)] (pB post)) ∧ (∀ (l : Launch) (E : Ev) (P : Nat → Prop) (sd : Nat → Nat → Nat) (post : Bool → GH → Prop) (G : GH) (hPP : ∀ o, stt o = true → P o) , (sM d).2.2 post G → Ct l yX8_readTest cX8_readTest 3 (some .boolean) (24 + d) 0 0 E P sd G [.ref (sd 24 0)] (pB post))
  | 0 => ⟨fun _ _ _ _ _ _ _ h => h.elim, fun _ _ _ _ _ _ _ h => h.elim, fun _ _ _ _ _ _ _ h => h.elim⟩
  | d + 1 => by
    have ih := sM_k d
    refine ⟨?_, ?_, ?_⟩
    · intro l E P sd post G hPP h
      refine ct_of (own := "MarkFieldModel") (by decide) rfl (Nat.le_of_ble_eq_true rfl) hPP (fun X F T el eP es => ?_)
      subst el; subst eP; subst es
      exact kr_X8_readFact (h2 := 24 + d) F T (fun post G h => (ih).1 _ E _ _ post G F.P h) (fun post G h => (ih).2.1 _ E _ _ post G F.P h) (fun post G h => (ih).2.2 _ E _ _ post G F.P h) (by omega) (by omega) h
    · intro l E P sd post G hPP h
      refine ct_of (own := "MarkFieldModel") (by decide) rfl (Nat.le_of_ble_eq_true rfl) hPP (fun X F T el eP es => ?_)
      subst el; subst eP; subst es
      exact kr_X8_readBoth (h2 := 24 + d) F T (fun post G h => (ih).1 _ E _ _ post G F.P h) (fun post G h => (ih).2.1 _ E _ _ post G F.P h) (fun post G h => (ih).2.2 _ E _ _ post G F.P h) (by omega) (by omega) h
    · intro l E P sd post G hPP h
      refine ct_of (own := "MarkFieldModel") (by decide) rfl (Nat.le_of_ble_eq_true rfl) hPP (fun X F T el eP es => ?_)
      subst el; subst eP; subst es
      exact kr_X8_readTest (h2 := 24 + d) F T (fun post G h => (ih).1 _ E _ _ post G F.P h) (fun post G h => (ih).2.1 _ E _ _ post G F.P h) (fun post G h => (ih).2.2 _ E _ _ post G F.P h) (by omega) (by omega) h
def wp_X8_readFact (post : Bool → GH → Prop) (G : GH) : Prop := (sM 32).1 post G
theorem k_X8_readFact {l : Launch} {E : Ev} {P : Nat → Prop} {sd : Nat → Nat → Nat} {G : GH} {post : Bool → GH → Prop} (hPP : ∀ o, stt o = true → P o) (h : wp_X8_readFact post G) : Ct l yX8_readFact cX8_readFact 4 (some .boolean) 56 0 0 E P sd G [.ref (sd 24 0)] (pB post) := (sM_k 32).1 l E P sd post G hPP h
def wp_X8_readBoth (post : Bool → GH → Prop) (G : GH) : Prop := (sM 32).2.1 post G
theorem k_X8_readBoth {l : Launch} {E : Ev} {P : Nat → Prop} {sd : Nat → Nat → Nat} {G : GH} {post : Bool → GH → Prop} (hPP : ∀ o, stt o = true → P o) (h : wp_X8_readBoth post G) : Ct l yX8_readBoth cX8_readBoth 3 (some .boolean) 56 0 0 E P sd G [.ref (sd 24 0)] (pB post) := (sM_k 32).2.1 l E P sd post G hPP h
def wp_X8_readTest (post : Bool → GH → Prop) (G : GH) : Prop := (sM 32).2.2 post G
theorem k_X8_readTest {l : Launch} {E : Ev} {P : Nat → Prop} {sd : Nat → Nat → Nat} {G : GH} {post : Bool → GH → Prop} (hPP : ∀ o, stt o = true → P o) (h : wp_X8_readTest post G) : Ct l yX8_readTest cX8_readTest 3 (some .boolean) 56 0 0 E P sd G [.ref (sd 24 0)] (pB post) := (sM_k 32).2.2 l E P sd post G hPP h
