theorem w_155 : (Jvm.Cond.fieldLink "MarkField$Acts" (21 : Nat) "MarkField$Acts" "size" "I") ∈ tb := tb_of (List.mem_of_getElem? (i := 155) (by decide +kernel)) rfl
-- X0_clear (height 0)
def wp_X0_clear (post : GH → Prop) (G : GH) : Prop :=
  (∀ G_1 : GH, G_1 = gs G 4 0 (upd (G 4 0) 2 (0 : Int32)) → post G_1)
set_option maxRecDepth 100000 in
set_option maxHeartbeats 4000000 in
theorem k_X0_clear {l : Launch} {E : Ev} {P : Nat → Prop} {sd : Nat → Nat → Nat} {G : GH} {post : GH → Prop} (hPP : ∀ o, stt o = true → P o) (h : wp_X0_clear post G) : Ct l yX0_clear cX0_clear 1 none 0 0 0 E P sd G [.ref (sd 4 0)] (pV post) := by
  refine ct_of (own := "MarkField$Acts") (by decide) rfl (Nat.le_of_ble_eq_true rfl) hPP (fun X F T el eP es => ?_)
  subst el; subst eP; subst es
  have hP := F.P
  change AW E X 1 0 [(0, .ref (sdX X 4 0))] [] G 0 0
  refine aw_al_n F 0 dX0_clear_0 rfl rfl ?_
  refine aw_ic F dX0_clear_1 ic_0 ?_
  refine pf0_2 F (lo_s rfl) (hP _ rfl) rfl w_155 dX0_clear_2 (fun G_1 eG_1 => ?_)
  replace h := h G_1 eG_1
  exact aw_vret F T (Nat.le_of_ble_eq_true rfl) (Nat.le_of_ble_eq_true rfl) ⟨rfl, h⟩ dX0_clear_5
