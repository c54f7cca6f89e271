section AWL
variable {E : Ev} {X : Cx} {own : String} {cc : ByteArray} {nL pc : Nat} {lv : List (Nat × Value)} {stk : List Value} {G : GH} {n1 n2 : Nat}
theorem aw_ldcSw (F : Fx E X own cc nL) (i : Nat) (hi : i < nsx) {index : Nat} {tx : String} (hq : sxT[i]? = some (own, index, tx)) (d : decode cc pc = .ok (.ldc_w index, 3)) (kk : AW E X nL (pc + 3) lv (.ref (E.2.2.2.1 i) :: stk) G n1 n2) : AW E X nL pc lv stk G n1 n2 := by
  obtain ⟨p, l, e, R, s, m, args, below, meth, c2, Q, sd, P⟩ := X
  intro ls H locs ad hag hl hH hS
  have hZ := (F.2.2.2.2.2.2.1.2.2.1 i hi).1 _ hq
  have k := kk ls H locs ad hag hl hH hS
  intro T hT X
  obtain ⟨t, a1, b1⟩ := k T hT X
  exact ⟨t, X.ldcStringW F.1 F.2.2.2.1 (text := tx) (a := E.2.2.2.1 i) hZ.1 hZ.2 (g := F0 m pc ls stk) rfl (by rw [F.2.1]; exact d) t a1, b1⟩
end AWL
