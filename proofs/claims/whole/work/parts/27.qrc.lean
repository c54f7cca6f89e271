def sQ : Nat → ((Int32 → GH → Prop) → Int32 → GH → Prop) × ((Int32 → GH → Prop) → Int32 → GH → Prop)
  | 0 => (fun _ _ _ => False, fun _ _ _ => False)
  | d + 1 => ((fun post x1 G => wr_X2_readFact post (sQ d).1 (sQ d).2 x1 G), (fun post x1 G => wr_X2_readTest post (sQ d).1 (sQ d).2 x1 G))
theorem sQ_k : ∀ d : Nat, (∀ (l : Launch) (E : Ev) (P : Nat → Prop) (sd : Nat → Nat → Nat) (post : Int32 → GH → Prop) (x1 : Int32) (G : GH) (hPP : ∀ o, stt o = true → P o) , (sQ d).1 post x1 G → Ct l yX2_readFact cX2_readFact 4 (some .int) (12 + d) 0 0 E P sd G [.ref (sd 3 0), .int x1] (pI post)) ∧ (∀ (l : Launch) (E : Ev) (P : Nat → Prop) (sd : Nat → Nat → Nat) (post : Int32 → GH → Prop) (x1 : Int32) (G : GH) (hPP : ∀ o, stt o = true → P o) , (sQ d).2 post x1 G → Ct l yX2_readTest cX2_readTest 5 (some .int) (12 + d) 0 0 E P sd G [.ref (sd 3 0), .int x1] (pI post))
  | 0 => ⟨fun _ _ _ _ _ _ _ _ h => h.elim, fun _ _ _ _ _ _ _ _ h => h.elim⟩
  | d + 1 => by
    have ih := sQ_k d
    refine ⟨?_, ?_⟩
    · intro l E P sd post x1 G hPP h
      refine ct_of (own := "MarkField$Question") (by decide) rfl (Nat.le_of_ble_eq_true rfl) hPP (fun X F T el eP es => ?_)
      subst el; subst eP; subst es
      exact kr_X2_readFact (h2 := 12 + d) F T (fun post x1 G h => (ih).1 _ E _ _ post x1 G F.P h) (fun post x1 G h => (ih).2 _ E _ _ post x1 G F.P h) (by omega) (by omega) h
    · intro l E P sd post x1 G hPP h
      refine ct_of (own := "MarkField$Question") (by decide) rfl (Nat.le_of_ble_eq_true rfl) hPP (fun X F T el eP es => ?_)
      subst el; subst eP; subst es
      exact kr_X2_readTest (h2 := 12 + d) F T (fun post x1 G h => (ih).1 _ E _ _ post x1 G F.P h) (fun post x1 G h => (ih).2 _ E _ _ post x1 G F.P h) (by omega) (by omega) h
def wp_X2_readFact (post : Int32 → GH → Prop) (x1 : Int32) (G : GH) : Prop := (sQ 24).1 post x1 G
theorem k_X2_readFact {l : Launch} {E : Ev} {P : Nat → Prop} {sd : Nat → Nat → Nat} {G : GH} {post : Int32 → GH → Prop} {x1 : Int32} (hPP : ∀ o, stt o = true → P o) (h : wp_X2_readFact post x1 G) : Ct l yX2_readFact cX2_readFact 4 (some .int) 36 0 0 E P sd G [.ref (sd 3 0), .int x1] (pI post) := (sQ_k 24).1 l E P sd post x1 G hPP h
def wp_X2_readTest (post : Int32 → GH → Prop) (x1 : Int32) (G : GH) : Prop := (sQ 24).2 post x1 G
theorem k_X2_readTest {l : Launch} {E : Ev} {P : Nat → Prop} {sd : Nat → Nat → Nat} {G : GH} {post : Int32 → GH → Prop} {x1 : Int32} (hPP : ∀ o, stt o = true → P o) (h : wp_X2_readTest post x1 G) : Ct l yX2_readTest cX2_readTest 5 (some .int) 36 0 0 E P sd G [.ref (sd 3 0), .int x1] (pI post) := (sQ_k 24).2 l E P sd post x1 G hPP h
