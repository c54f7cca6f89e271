def pS : Nat → Prop := fun o => stt o = true
theorem lo_gs4 {G : GH} {o k x : Nat} {f : Nat → Int32} (hc : oc o = 4) (h : lo G x) : lo (gs G o k f) x := by
  have h0 : ¬ o = 0 := fun q => by rw [q] at hc; exact absurd hc (by decide)
  have h4 : ¬ o = 4 := fun q => by rw [q] at hc; exact absurd hc (by decide)
  unfold lo at h ⊢
  rw [gs_ne (fun q => h0 q.1.symm), gs_ne (fun q => h4 q.1.symm)]
  exact h
section AWY
variable {E : Ev} {X : Cx} {own : String} {cc : ByteArray} {nL pc : Nat} {lv : List (Nat × Value)} {stk : List Value} {G : GH} {n1 n2 h mc ms k1 k2 : Nat} {px : Nat → GH → Prop}
theorem aw_cVXv (F : Fx E X own cc nL) {ret0 : Option FieldType} {post0 : Option Value → GH → Prop} (T : RTX E X h mc ms ret0 post0 px) {y : MethodName} {bytes : ByteArray} {maxL : Nat} {ret : Option FieldType} {n index h' mc' ms' o c : Nat} {post : GH → Prop} {pxC : Nat → GH → Prop} (As : List Value)
    (hM : CtX (lX X) y bytes maxL ret h' mc' ms' E (PX X) (sdX X) G (.ref (sdX X o 0) :: As) (pV post) pxC) (mv : MV y bytes maxL ret n) (hw : Cond.methodLink own index y ∈ tb) {T9 : u_T} {N : Nat} {ty : Nat → FieldType} (cf : CF c y.cls T9 N ty) (hlo : lo G o) (hP : PX X o) (hc : oc o = c) (hc9 : c < 9)
    (hn : As.length = n) {st0 : List Value} (hst : st0 = As.reverse ++ .ref (sdX X o 0) :: stk) (hrm : (stk.map fun v => v.category).sum ≤ 8) (hfr : h' + 1 ≤ h ∧ 8 + (maxL + 11) + 64 * h' ≤ 64 * h) (hce : n1 + mc' ≤ mc ∧ n2 + ms' ≤ ms) (hk : n1 + mc' = k1 ∧ n2 + ms' = k2) (d : decode cc pc = .ok (.invokevirtual index, 3))
    (kx : ∀ i G', pxC i G' → px i G') (kk : ∀ G1 : GH, post G1 → AW E X nL (pc + 3) lv stk G1 k1 k2) : AW E X nL pc lv st0 G n1 n2 := by
  obtain ⟨rfl, rfl⟩ := hk
  exact aw_cVX F T As hM mv hw cf hlo hP hc hc9 hn hst hrm hfr hce d kx (fun v G1 hp => by obtain ⟨rfl, hp⟩ := hp; exact kk G1 hp)
theorem aw_cSXv (F : Fx E X own cc nL) {ret0 : Option FieldType} {post0 : Option Value → GH → Prop} (T : RTX E X h mc ms ret0 post0 px) {y : MethodName} {bytes : ByteArray} {maxL : Nat} {ret : Option FieldType} {n index h' mc' ms' : Nat} {post : GH → Prop} {pxC : Nat → GH → Prop} (As : List Value)
    (hM : CtX (lX X) y bytes maxL ret h' mc' ms' E (PX X) (sdX X) G As (pV post) pxC) (mv : MS y bytes maxL ret n) (hw : Cond.methodLink own index y ∈ tb)
    (hn : As.length = n) {st0 : List Value} (hst : st0 = As.reverse ++ stk) (hrm : (stk.map fun v => v.category).sum ≤ 8) (hfr : h' + 1 ≤ h ∧ 8 + (maxL + 11) + 64 * h' ≤ 64 * h) (hce : n1 + mc' ≤ mc ∧ n2 + ms' ≤ ms) (hk : n1 + mc' = k1 ∧ n2 + ms' = k2) (d : decode cc pc = .ok (.invokestatic index, 3))
    (kx : ∀ i G', pxC i G' → px i G') (kk : ∀ G1 : GH, post G1 → AW E X nL (pc + 3) lv stk G1 k1 k2) : AW E X nL pc lv st0 G n1 n2 := by
  obtain ⟨rfl, rfl⟩ := hk
  exact aw_cSX F T As hM mv hw hn hst hrm hfr hce d kx (fun v G1 hp => by obtain ⟨rfl, hp⟩ := hp; exact kk G1 hp)
theorem aw_cVAv (F : Fx E X own cc nL) (hR : RX X = rmh h mc ms) {y : MethodName} {bytes : ByteArray} {maxL : Nat} {ret : Option FieldType} {n index h' mc' ms' o c : Nat} {post : GH → Prop} (As : List Value)
    (hM : Ct (lX X) y bytes maxL ret h' mc' ms' E (PX X) (sdX X) G (.ref (sdX X o 0) :: As) (pV post)) (mv : MV y bytes maxL ret n) (hw : Cond.methodLink own index y ∈ tb) {T9 : u_T} {N : Nat} {ty : Nat → FieldType} (cf : CF c y.cls T9 N ty) (hlo : lo G o) (hP : PX X o) (hc : oc o = c) (hc9 : c < 9)
    (hn : As.length = n) {st0 : List Value} (hst : st0 = As.reverse ++ .ref (sdX X o 0) :: stk) (hrm : (stk.map fun v => v.category).sum ≤ 8) (hfr : h' + 1 ≤ h ∧ 8 + (maxL + 11) + 64 * h' ≤ 64 * h) (hce : n1 + mc' ≤ mc ∧ n2 + ms' ≤ ms) (hk : n1 + mc' = k1 ∧ n2 + ms' = k2) (d : decode cc pc = .ok (.invokevirtual index, 3))
    (kk : ∀ G1 : GH, post G1 → AW E X nL (pc + 3) lv stk G1 k1 k2) : AW E X nL pc lv st0 G n1 n2 := by
  obtain ⟨rfl, rfl⟩ := hk
  exact aw_cV F hR As hM mv hw cf hlo hP hc hc9 hn hst hrm hfr hce d (fun v G1 hp => by obtain ⟨rfl, hp⟩ := hp; exact kk G1 hp)
end AWY
