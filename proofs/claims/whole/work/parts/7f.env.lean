theorem v_1799 : (Jvm.Cond.arrayClass Jvm.ClassFile.FieldType.long) ∈ tb := tb_of (List.mem_of_getElem? (i := 1799) (by decide +kernel)) rfl
/-! ===== what the statement gives of the start ===== -/
theorem lw_w (i : Nat) {w : Cond} (h : tables_1[i]? = some w) : w ∈ lw_tbl := List.mem_append_right _ (List.mem_of_getElem? h)
def sxQ (i : Nat) : String × Nat × String := sxT.getD i ("", 0, "")
def tmS (i : Nat) : Term := .string (sxQ i).1 (sxQ i).2.1
def tmV (i : Nat) : Term := .field (tmS i) "java/lang/String" "value" "[B"
def txC (i : Nat) : List Cond := [.exactly (tmS i) "java/lang/String", .eq (.field (tmS i) "java/lang/String" "coder" "B") (.int 0), .arrayOf (tmV i) .byte, .eq (.length (tmV i)) (.int (Int32.ofNat (sxL i)))] ++ (List.range (sxL i)).map (fun j => .eq (.elem (tmV i) (.int (Int32.ofNat j))) (.int (nI (sxC i j))))
def txO : List Nat := [247, 280, 306, 333, 398, 448, 472, 488, 518, 264, 377, 417, 348, 433, 120, 541, 549, 651, 658, 558, 565, 574, 583, 594, 602, 612, 622, 631, 640, 154, 163, 171, 178, 186, 197, 205, 214, 222, 231, 240, 713, 722, 732, 741, 751, 761, 674, 683, 693, 701, 664, 796, 806, 818, 827, 838, 849, 859, 869, 788, 881, 889, 779, 769]
def srI : List Nat := [738, 763, 771, 779, 808, 1021, 1043, 1075, 1091, 760, 796, 821, 783, 828, 423, 1097, 1099, 1144, 1145, 1113, 1127, 1128, 1129, 1130, 1131, 1132, 1133, 1134, 1135, 485, 559, 578, 595, 604, 609, 610, 611, 612, 613, 614, 1740, 1741, 1742, 1743, 1744, 1745, 1704, 1713, 1722, 1727, 1665, 1785, 1786, 1787, 1788, 1789, 1790, 1791, 1792, 1772, 1797, 1798, 1759, 1754]
def gvF : List Cond := flatC (Cond.and given_1 narrow_1)
set_option maxRecDepth 100000 in
theorem txm : (List.range 64).all (fun i => decide ((gvF.drop (txO.getD i 0)).take (txC i).length = txC i)) = true := by decide +kernel
set_option maxRecDepth 100000 in
theorem srm : (List.range 64).all (fun i => decide (tables_1[srI.getD i 0]? = some (.stringRef (sxQ i).1 (sxQ i).2.1 (sxQ i).2.2))) = true := by decide +kernel
def tmT (i : Nat) : Term := .static "MarkField" (sNm i) "[I"
def stC (i : Nat) : List Cond := [.arrayOf (tmT i) .int, .eq (.length (tmT i)) (.int (Int32.ofNat (sTb i).length))] ++ (List.range (sTb i).length).map (fun j => .eq (.elem (tmT i) (.int (Int32.ofNat j))) (.int ((sTb i).getD j 0)))
def stO : List Nat := [5, 21, 30, 59, 88]
def slI : List Nat := [76, 616, 658, 664, 688]
set_option maxRecDepth 100000 in
theorem stm : (List.range 5).all (fun i => decide ((gvF.drop (stO.getD i 0)).take (stC i).length = stC i)) = true := by decide +kernel
set_option maxRecDepth 100000 in
theorem slm : (List.range 5).all (fun i => decide (tables_1[slI.getD i 0]? = some (.laysStatic "MarkField" (sNm i) "[I"))) = true := by decide +kernel
def nfI : List Nat := [657, 663, 687, 615, 75]
def nmI : List Nat := [147, 166, 205, 33, 714, 715, 1150, 572, 575, 600, 701, 847]
set_option maxRecDepth 100000 in
theorem nfm : (List.range nsF.length).all (fun i => decide ((nsF[i]?).map (fun q => Cond.fieldLinkNest q.1 q.2.1 "MarkField" q.2.2 "[I" "MarkField") = tables_1[nfI.getD i 0]?)) = true := by decide +kernel
set_option maxRecDepth 100000 in
theorem nmm : (List.range nsM.length).all (fun i => decide ((nsM[i]?).map (fun q => Cond.methodLinkNest q.1 q.2.1 q.2.2 "MarkField") = tables_1[nmI.getD i 0]?)) = true := by decide +kernel
theorem all_lt {n : Nat} {f : Nat → Bool} (h : (List.range n).all f = true) {i : Nat} (hi : i < n) : f i = true := List.all_eq_true.mp h i (List.mem_range.mpr hi)
theorem txm' {i : Nat} (hi : i < 64) {c : Cond} (hc : c ∈ txC i) : c ∈ gvF := by
  have h := of_decide_eq_true (all_lt txm hi)
  rw [← h] at hc
  exact List.mem_of_mem_drop (List.mem_of_mem_take hc)
theorem stm' {i : Nat} (hi : i < 5) {c : Cond} (hc : c ∈ stC i) : c ∈ gvF := by
  have h := of_decide_eq_true (all_lt stm hi)
  rw [← h] at hc
  exact List.mem_of_mem_drop (List.mem_of_mem_take hc)
theorem sx_len : sxT.length = 64 := by decide
section
variable {p : Program} {s : State} {m : MethodId} {meth : Method} {c : Code} {b L : Nat} {xs : Nat → Int32}
theorem st_text {args : Array Value} {A : Nat → Prop} (hA : ∀ a : Nat, a < s.heap.size → ¬ A a) (hts : ∀ w ∈ lw_tbl, w.before args s = true) (hg : ∀ w ∈ gvF, w.before args s = true) {i : Nat} (hi : i < 64) :
    ∃ q : Nat × Nat, (∀ r : String × Nat × String, sxT[i]? = some r → vk_R r.1 r.2.1 r.2.2 q.1 s) ∧ va_O "java/lang/String" q.1 A s s.heap ∧ va_OF "java/lang/String" "coder" "B" (.int 0) q.1 A s s.heap ∧ va_OF "java/lang/String" "value" "[B" (.ref q.2) q.1 A s s.heap ∧ va_T .byte q.2 (sxL i) (fun j => .int (nI (sxC i j))) A s s.heap := by
  have hex : (Cond.exactly (tmS i) "java/lang/String").before args s = true := hg _ (txm' hi (by simp [txC]))
  have hco : (Cond.eq (.field (tmS i) "java/lang/String" "coder" "B") (.int 0)).before args s = true := hg _ (txm' hi (by simp [txC]))
  have har : (Cond.arrayOf (tmV i) .byte).before args s = true := hg _ (txm' hi (by simp [txC]))
  have hle : (Cond.eq (.length (tmV i)) (.int (Int32.ofNat (sxL i)))).before args s = true := hg _ (txm' hi (by simp [txC]))
  have hel : ∀ j : Nat, j < sxL i → (Cond.eq (.elem (tmV i) (.int (Int32.ofNat j))) (.int (nI (sxC i j)))).before args s = true := fun j hj => hg _ (txm' hi (List.mem_append_right _ (List.mem_map.mpr ⟨j, List.mem_range.mpr hj, rfl⟩)))
  have hN : sxL i < 2 ^ 31 := by
    have : (List.range 64).all (fun i => decide (sxL i < 1000)) = true := by decide +kernel
    have := of_decide_eq_true (all_lt this hi)
    omega
  obtain ⟨a, c9, cA, kA, q1, q2, q3, q4, q5, q6, -⟩ := Cond.exactly_spec (args := args) (first := s) (o := none) (s := s) (idx := []) (t := tmS i) (cls := "java/lang/String") hex
  obtain ⟨t, ht, hT⟩ := va_Tof (f := fun j => .int (nI (sxC i j))) (A := A) hN har (va_eqt hle) (fun j hj => va_eqt (hel j hj)) hA
  refine ⟨(a, t), fun r hr => ?_, ⟨cA, q3, q5, by rw [q6]; exact q2, hA a (Array.getElem?_eq_some_iff.mp q3).1⟩, vk_OFof q1 (va_eqt hco) hA, vk_OFof q1 ht hA, hT⟩
  have hQ : sxQ i = r := by
    unfold sxQ
    rw [List.getD_eq_getElem?_getD, hr]
    rfl
  have hw := of_decide_eq_true (all_lt srm hi)
  rw [hQ] at hw
  refine vk_R.of (hts _ (lw_w _ hw)) ?_
  have : tmS i = .string r.1 r.2.1 := by
    unfold tmS
    rw [hQ]
  rw [← this]
  exact q1
theorem st_row {args : Array Value} {A : Nat → Prop} (hA : ∀ a : Nat, a < s.heap.size → ¬ A a) (hts : ∀ w ∈ lw_tbl, w.before args s = true) (hg : ∀ w ∈ gvF, w.before args s = true) {i : Nat} (hi : i < 5) :
    ∃ t : Nat, va_Z "MarkField" (sNm i) "[I" (.ref t) A s s.heap ∧ va_T .int t (sTb i).length (fun j => .int ((sTb i).getD j 0)) A s s.heap := by
  have har : (Cond.arrayOf (tmT i) .int).before args s = true := hg _ (stm' hi (by simp [stC]))
  have hle : (Cond.eq (.length (tmT i)) (.int (Int32.ofNat (sTb i).length))).before args s = true := hg _ (stm' hi (by simp [stC]))
  have hel : ∀ j : Nat, j < (sTb i).length → (Cond.eq (.elem (tmT i) (.int (Int32.ofNat j))) (.int ((sTb i).getD j 0))).before args s = true := fun j hj => hg _ (stm' hi (List.mem_append_right _ (List.mem_map.mpr ⟨j, List.mem_range.mpr hj, rfl⟩)))
  have hN : (sTb i).length < 2 ^ 31 := by
    have : (List.range 5).all (fun i => decide ((sTb i).length < 1000)) = true := by decide +kernel
    have := of_decide_eq_true (all_lt this hi)
    omega
  obtain ⟨t, ht, hT⟩ := va_Tof (f := fun j => .int ((sTb i).getD j 0)) (A := A) hN har (va_eqt hle) (fun j hj => va_eqt (hel j hj)) hA
  exact ⟨t, va_Zof (hts _ (lw_w _ (of_decide_eq_true (all_lt slm hi)))) (hts _ (lw_w 1 (by decide +kernel))) ht hA, hT⟩
theorem st_arr {args : Array Value} {ty : FieldType} (hno : ∀ C, ty ≠ .object C) (h : (Cond.arrayClass ty).before args s = true) : ∃ cA : ClassId, ArrOfT s cA ty ∧ va_RA s cA ty := by
  obtain ⟨c9, k9, comp, h1, h2, h3⟩ := Cond.arrayClass_spec h
  refine ⟨c9, fun n z => ⟨fun k h => (by cases h), k9, h2, comp, h3⟩, ?_⟩
  cases ty <;> first | exact h1 | exact absurd rfl (hno _)
theorem st_obj {args : Array Value} {C : String} (h : (Cond.arrayOver (.object C)).before args s = true) : ∃ cA : ClassId, ArrOfT s cA (.object C) ∧ va_RA s cA (.object C) := by
  obtain ⟨comp, c9, k9, h1, h2, h3, h4, h5⟩ := Cond.arrayOver_spec h
  exact ⟨c9, fun n z => ⟨fun k h => (by cases h), k9, h3, comp, h4⟩, k9, comp, h3, h4, h1, h5⟩
set_option maxRecDepth 100000 in
theorem st_env (C0 : lw_At p s m meth c b L xs) : ∃ E : Ev, E.2.2.2.2.2 = s.heap.size ∧ KE E s ∧ SE E s := by
  obtain ⟨hx, hb, hr, hml, hown, hts, hX, hbl, hlocks, hgv⟩ := id C0
  have hg : ∀ w ∈ gvF, w.before #[Value.ref b] s = true := flat_of_before _ hgv
  have htb : ∀ w ∈ tb, w.before #[Value.ref b] s = true := fun w hw => hts w (List.mem_filter.mp hw).1
  have hA : ∀ a : Nat, a < s.heap.size → ¬ (fun q => s.heap.size ≤ q) a := fun a h1 h2 => by
    have : s.heap.size ≤ a := h2
    omega
  obtain ⟨c0, iS0, hKn0⟩ := u_known (C := RX0) (T := TX0) (N := 3) (n := 3) htb cf0.2.1 (hts _ (lw_w 146 (w := .instantiable RX0 3) (by decide +kernel)))
  obtain ⟨c1, iS1, hKn1⟩ := u_known (C := RX1) (T := TX1) (N := 8) (n := 8) htb cf1.2.1 (hts _ (lw_w 165 (w := .instantiable RX1 8) (by decide +kernel)))
  obtain ⟨c2, iS2, hKn2⟩ := u_known (C := RX2) (T := TX2) (N := 7) (n := 7) htb cf2.2.1 (hts _ (lw_w 265 (w := .instantiable RX2 7) (by decide +kernel)))
  obtain ⟨c3, iS3, hKn3⟩ := u_known (C := RX3) (T := TX3) (N := 5) (n := 5) htb cf3.2.1 (hts _ (lw_w 242 (w := .instantiable RX3 5) (by decide +kernel)))
  obtain ⟨c4, iS4, hKn4⟩ := u_known (C := RX4) (T := TX4) (N := 11) (n := 11) htb cf4.2.1 (hts _ (lw_w 70 (w := .instantiable RX4 11) (by decide +kernel)))
  obtain ⟨c5, iS5, hKn5⟩ := u_known (C := RX5) (T := TX5) (N := 8) (n := 8) htb cf5.2.1 (hts _ (lw_w 204 (w := .instantiable RX5 8) (by decide +kernel)))
  obtain ⟨c6, iS6, hKn6⟩ := u_known (C := RX6) (T := TX6) (N := 7) (n := 7) htb cf6.2.1 (hts _ (lw_w 32 (w := .instantiable RX6 7) (by decide +kernel)))
  obtain ⟨c7, iS7, hKn7⟩ := u_known (C := RX7) (T := TX7) (N := 13) (n := 13) htb cf7.2.1 (hts _ (lw_w 24 (w := .instantiable RX7 13) (by decide +kernel)))
  obtain ⟨c8, iS8, hKn8⟩ := u_known (C := RX8) (T := TX8) (N := 44) (n := 44) htb cf8.2.1 (hts _ (lw_w 1152 (w := .instantiable RX8 44) (by decide +kernel)))
  obtain ⟨dC, dI, hKc⟩ : ∃ (dC : Nat → ClassId) (dI : Nat → Nat → Nat), ∀ (k : Nat) (q : vw_C), vwCl[k]? = some q → u_Kn s q.1 q.2.1 q.2.2 (dC k) (dI k) := by
    refine ⟨fun k => match k with | 0 => c0 | 1 => c1 | 2 => c2 | 3 => c3 | 4 => c4 | 5 => c5 | 6 => c6 | 7 => c7 | _ => c8, fun k => match k with | 0 => iS0 | 1 => iS1 | 2 => iS2 | 3 => iS3 | 4 => iS4 | 5 => iS5 | 6 => iS6 | 7 => iS7 | _ => iS8, ?_⟩
    intro k q hq
    match k, hq with
    | 0, hq => cases hq; exact hKn0
    | 1, hq => cases hq; exact hKn1
    | 2, hq => cases hq; exact hKn2
    | 3, hq => cases hq; exact hKn3
    | 4, hq => cases hq; exact hKn4
    | 5, hq => cases hq; exact hKn5
    | 6, hq => cases hq; exact hKn6
    | 7, hq => cases hq; exact hKn7
    | 8, hq => cases hq; exact hKn8
    | k + 9, hq => cases hq
  obtain ⟨a0, g0⟩ := st_arr (ty := .int) (fun _ h => by cases h) (htb _ v_144)
  obtain ⟨a1, g1⟩ := st_arr (ty := .byte) (fun _ h => by cases h) (htb _ v_68)
  obtain ⟨a2, g2⟩ := st_arr (ty := .long) (fun _ h => by cases h) (htb _ v_1799)
  obtain ⟨a3, g3⟩ := st_obj (C := RX4) (hts _ (lw_w 152 (w := .arrayOver (.object RX4)) (by decide +kernel)))
  have hrow : ∀ i : Nat, ∃ t : Nat, i < 5 → va_Z "MarkField" (sNm i) "[I" (.ref t) (fun q => s.heap.size ≤ q) s s.heap ∧ va_T .int t (sTb i).length (fun j => .int ((sTb i).getD j 0)) (fun q => s.heap.size ≤ q) s s.heap := by
    intro i
    by_cases hi : i < 5
    · obtain ⟨t, h⟩ := st_row hA hts hg hi
      exact ⟨t, fun _ => h⟩
    · exact ⟨0, fun h => absurd h hi⟩
  have hst := fun i => Classical.choose_spec (hrow i)
  have htx : ∀ i : Nat, ∃ q : Nat × Nat, i < 64 → (∀ r : String × Nat × String, sxT[i]? = some r → vk_R r.1 r.2.1 r.2.2 q.1 s) ∧ va_O "java/lang/String" q.1 (fun q => s.heap.size ≤ q) s s.heap ∧ va_OF "java/lang/String" "coder" "B" (.int 0) q.1 (fun q => s.heap.size ≤ q) s s.heap ∧ va_OF "java/lang/String" "value" "[B" (.ref q.2) q.1 (fun q => s.heap.size ≤ q) s s.heap ∧ va_T .byte q.2 (sxL i) (fun j => .int (nI (sxC i j))) (fun q => s.heap.size ≤ q) s s.heap := by
    intro i
    by_cases hi : i < 64
    · obtain ⟨t, h⟩ := st_text hA hts hg hi
      exact ⟨t, fun _ => h⟩
    · exact ⟨(0, 0), fun h => absurd h hi⟩
  have htxs := fun i => Classical.choose_spec (htx i)
  refine ⟨((dC, dI), fun k => match k with | 0 => a0 | 1 => a1 | 2 => a2 | _ => a3, fun i => Classical.choose (hrow i), fun i => (Classical.choose (htx i)).1, fun i => (Classical.choose (htx i)).2, s.heap.size), rfl, ⟨hKc, fun k q hq => ?_⟩, fun i hi => hst i hi, ⟨fun q hq => ?_, fun q hq => ?_⟩, fun i hi => htxs i hi, ?_⟩
  · match k, hq with
    | 0, hq => cases hq; exact g0
    | 1, hq => cases hq; exact g1
    | 2, hq => cases hq; exact g2
    | 3, hq => cases hq; exact g3
    | k + 4, hq => cases hq
  · obtain ⟨i, hi⟩ := List.getElem?_of_mem hq
    have hl : i < nsF.length := (List.getElem?_eq_some_iff.mp hi).1
    have h := of_decide_eq_true (all_lt nfm hl)
    rw [hi] at h
    exact va_Nw.of rfl (hts _ (lw_w _ h.symm))
  · obtain ⟨i, hi⟩ := List.getElem?_of_mem hq
    have hl : i < nsM.length := (List.getElem?_eq_some_iff.mp hi).1
    have h := of_decide_eq_true (all_lt nmm hl)
    rw [hi] at h
    exact va_Nw.of rfl (hts _ (lw_w _ h.symm))
  · refine ⟨vx_Zqof (hts _ (lw_w 410 (by decide +kernel))) (hts _ (lw_w 11 (by decide +kernel))) (hg _ (List.mem_of_getElem? (i := 13) (by decide +kernel))) hA, vx_Zqof (hts _ (lw_w 412 (by decide +kernel))) (hts _ (lw_w 11 (by decide +kernel))) (hg _ (List.mem_of_getElem? (i := 14) (by decide +kernel))) hA, va_Zof (hts _ (lw_w 499 (by decide +kernel))) (hts _ (lw_w 17 (by decide +kernel))) (va_eqi (hg _ (List.mem_of_getElem? (i := 15) (by decide +kernel)))) hA, va_Zqof (hts _ (lw_w 515 (by decide +kernel))) (hts _ (lw_w 19 (by decide +kernel))) (hg _ (List.mem_of_getElem? (i := 16) (by decide +kernel))) hA, fun y hy => ?_, fun i => ?_, va_Nc.of (args := #[Value.ref b]) (hg _ (List.mem_of_getElem? (i := 119) (by decide +kernel)))⟩
    · have hy2 : y = Bundle.initS "java/lang/RuntimeException" ∨ y = Bundle.initS "java/lang/Exception" ∨ y = Bundle.initS Bundle.tN := by simpa [dcl] using hy
      rcases hy2 with rfl | rfl | rfl
      · exact va_Nw.of rfl (hts _ (lw_w 387 (by decide +kernel)))
      · exact va_Nw.of rfl (hts _ (lw_w 389 (by decide +kernel)))
      · exact va_Nw.of rfl (hts _ (lw_w 391 (by decide +kernel)))
    · cases i with
      | zero => exact va_Nw.of rfl (hts _ (lw_w 731 (by decide +kernel)))
      | succ i => exact va_Nw.of rfl (hts _ (lw_w 385 (w := .castable "java/lang/IllegalArgumentException" "java/lang/IllegalArgumentException") (by decide +kernel)))
end
