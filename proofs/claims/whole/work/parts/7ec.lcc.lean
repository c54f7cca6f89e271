theorem v_772 : (Jvm.Cond.methodLink "MarkFieldLaw" (128 : Nat) ({ cls := "MarkFieldLaw", name := "used", desc := "(LMarkField;III[J)I" } : Jvm.MethodName)) ∈ tb := tb_of (List.mem_of_getElem? (i := 772) (by decide +kernel)) rfl
theorem v_773 : (Jvm.Cond.static ({ cls := "MarkFieldLaw", name := "used", desc := "(LMarkField;III[J)I" } : Jvm.MethodName)) ∈ tb := tb_of (List.mem_of_getElem? (i := 773) (by decide +kernel)) rfl
theorem v_774 : (Jvm.Cond.codeWith ({ cls := "MarkFieldLaw", name := "used", desc := "(LMarkField;III[J)I" } : Jvm.MethodName) method_7_code (6 : Nat) (Option.some Jvm.ClassFile.FieldType.int) [((0 : Nat), (12 : Nat), (15 : Nat), (18 : Nat))]) ∈ tb := tb_of (List.mem_of_getElem? (i := 774) (by decide +kernel)) rfl
theorem v_785 : (Jvm.Cond.methodLink "MarkFieldLaw" (132 : Nat) ({ cls := "MarkFieldLaw", name := "two", desc := "(LMarkField;III[J)I" } : Jvm.MethodName)) ∈ tb := tb_of (List.mem_of_getElem? (i := 785) (by decide +kernel)) rfl
theorem v_786 : (Jvm.Cond.static ({ cls := "MarkFieldLaw", name := "two", desc := "(LMarkField;III[J)I" } : Jvm.MethodName)) ∈ tb := tb_of (List.mem_of_getElem? (i := 786) (by decide +kernel)) rfl
theorem v_787 : (Jvm.Cond.codeWith ({ cls := "MarkFieldLaw", name := "two", desc := "(LMarkField;III[J)I" } : Jvm.MethodName) method_8_code (6 : Nat) (Option.some Jvm.ClassFile.FieldType.int) [((0 : Nat), (12 : Nat), (15 : Nat), (18 : Nat))]) ∈ tb := tb_of (List.mem_of_getElem? (i := 787) (by decide +kernel)) rfl
theorem v_1434 : (Jvm.Cond.methodLink "MarkFieldLaw" (131 : Nat) ({ cls := "MarkFieldModel", name := "used", desc := "(III)I" } : Jvm.MethodName)) ∈ tb := tb_of (List.mem_of_getElem? (i := 1434) (by decide +kernel)) rfl
theorem v_1435 : (Jvm.Cond.instanceMethod ({ cls := "MarkFieldModel", name := "used", desc := "(III)I" } : Jvm.MethodName)) ∈ tb := tb_of (List.mem_of_getElem? (i := 1435) (by decide +kernel)) rfl
theorem v_1436 : (Jvm.Cond.selects "MarkFieldModel" ({ cls := "MarkFieldModel", name := "used", desc := "(III)I" } : Jvm.MethodName) ({ cls := "MarkFieldModel", name := "used", desc := "(III)I" } : Jvm.MethodName)) ∈ tb := tb_of (List.mem_of_getElem? (i := 1436) (by decide +kernel)) rfl
theorem v_1437 : (Jvm.Cond.code ({ cls := "MarkFieldModel", name := "used", desc := "(III)I" } : Jvm.MethodName) prog_10_method_50_code (4 : Nat) (Option.some Jvm.ClassFile.FieldType.int)) ∈ tb := tb_of (List.mem_of_getElem? (i := 1437) (by decide +kernel)) rfl
theorem v_1438 : (Jvm.Cond.methodLink "MarkFieldLaw" (134 : Nat) ({ cls := "MarkFieldModel", name := "two", desc := "(III)I" } : Jvm.MethodName)) ∈ tb := tb_of (List.mem_of_getElem? (i := 1438) (by decide +kernel)) rfl
theorem v_1439 : (Jvm.Cond.instanceMethod ({ cls := "MarkFieldModel", name := "two", desc := "(III)I" } : Jvm.MethodName)) ∈ tb := tb_of (List.mem_of_getElem? (i := 1439) (by decide +kernel)) rfl
theorem v_1440 : (Jvm.Cond.selects "MarkFieldModel" ({ cls := "MarkFieldModel", name := "two", desc := "(III)I" } : Jvm.MethodName) ({ cls := "MarkFieldModel", name := "two", desc := "(III)I" } : Jvm.MethodName)) ∈ tb := tb_of (List.mem_of_getElem? (i := 1440) (by decide +kernel)) rfl
theorem v_1441 : (Jvm.Cond.code ({ cls := "MarkFieldModel", name := "two", desc := "(III)I" } : Jvm.MethodName) prog_10_method_52_code (5 : Nat) (Option.some Jvm.ClassFile.FieldType.int)) ∈ tb := tb_of (List.mem_of_getElem? (i := 1441) (by decide +kernel)) rfl
theorem dL_law_538 : decode cL_law 538 = .ok (.aload_n 1, 1) := by decide +kernel
theorem dL_law_539 : decode cL_law 539 = .ok (.aload_n 0, 1) := by decide +kernel
theorem dL_law_540 : decode cL_law 540 = .ok (.iload 4, 2) := by decide +kernel
theorem dL_law_542 : decode cL_law 542 = .ok (.iconst 1, 1) := by decide +kernel
theorem dL_law_543 : decode cL_law 543 = .ok (.iadd, 1) := by decide +kernel
theorem dL_law_544 : decode cL_law 544 = .ok (.iaload, 1) := by decide +kernel
theorem dL_law_545 : decode cL_law 545 = .ok (.aload_n 0, 1) := by decide +kernel
theorem dL_law_546 : decode cL_law 546 = .ok (.iload 4, 2) := by decide +kernel
theorem dL_law_548 : decode cL_law 548 = .ok (.iconst 2, 1) := by decide +kernel
theorem dL_law_549 : decode cL_law 549 = .ok (.iadd, 1) := by decide +kernel
theorem dL_law_550 : decode cL_law 550 = .ok (.iaload, 1) := by decide +kernel
theorem dL_law_551 : decode cL_law 551 = .ok (.aload_n 0, 1) := by decide +kernel
theorem dL_law_552 : decode cL_law 552 = .ok (.iload 4, 2) := by decide +kernel
theorem dL_law_554 : decode cL_law 554 = .ok (.iconst 3, 1) := by decide +kernel
theorem dL_law_555 : decode cL_law 555 = .ok (.iadd, 1) := by decide +kernel
theorem dL_law_556 : decode cL_law 556 = .ok (.iaload, 1) := by decide +kernel
theorem dL_law_557 : decode cL_law 557 = .ok (.aload_n 3, 1) := by decide +kernel
theorem dL_law_558 : decode cL_law 558 = .ok (.invokestatic 128, 3) := by decide +kernel
theorem dL_law_561 : decode cL_law 561 = .ok (.istore 5, 2) := by decide +kernel
theorem dL_law_563 : decode cL_law 563 = .ok (.aload_n 2, 1) := by decide +kernel
theorem dL_law_564 : decode cL_law 564 = .ok (.aload_n 0, 1) := by decide +kernel
theorem dL_law_565 : decode cL_law 565 = .ok (.iload 4, 2) := by decide +kernel
theorem dL_law_567 : decode cL_law 567 = .ok (.iconst 1, 1) := by decide +kernel
theorem dL_law_568 : decode cL_law 568 = .ok (.iadd, 1) := by decide +kernel
theorem dL_law_569 : decode cL_law 569 = .ok (.iaload, 1) := by decide +kernel
theorem dL_law_570 : decode cL_law 570 = .ok (.aload_n 0, 1) := by decide +kernel
theorem dL_law_571 : decode cL_law 571 = .ok (.iload 4, 2) := by decide +kernel
theorem dL_law_573 : decode cL_law 573 = .ok (.iconst 2, 1) := by decide +kernel
theorem dL_law_574 : decode cL_law 574 = .ok (.iadd, 1) := by decide +kernel
theorem dL_law_575 : decode cL_law 575 = .ok (.iaload, 1) := by decide +kernel
theorem dL_law_576 : decode cL_law 576 = .ok (.aload_n 0, 1) := by decide +kernel
theorem dL_law_577 : decode cL_law 577 = .ok (.iload 4, 2) := by decide +kernel
theorem dL_law_579 : decode cL_law 579 = .ok (.iconst 3, 1) := by decide +kernel
theorem dL_law_580 : decode cL_law 580 = .ok (.iadd, 1) := by decide +kernel
theorem dL_law_581 : decode cL_law 581 = .ok (.iaload, 1) := by decide +kernel
theorem dL_law_582 : decode cL_law 582 = .ok (.invokevirtual 131, 3) := by decide +kernel
theorem dL_law_585 : decode cL_law 585 = .ok (.istore 6, 2) := by decide +kernel
theorem dL_law_587 : decode cL_law 587 = .ok (.aload_n 2, 1) := by decide +kernel
theorem dL_law_588 : decode cL_law 588 = .ok (.invokevirtual 109, 3) := by decide +kernel
theorem dL_law_591 : decode cL_law 591 = .ok (.iload 5, 2) := by decide +kernel
theorem dL_law_593 : decode cL_law 593 = .ok (.if_icmp .eq 5, 3) := by decide +kernel
theorem dL_law_598 : decode cL_law 598 = .ok (.iload 5, 2) := by decide +kernel
theorem dL_law_600 : decode cL_law 600 = .ok (.ifCond .ne 15, 3) := by decide +kernel
theorem dL_law_603 : decode cL_law 603 = .ok (.aload_n 3, 1) := by decide +kernel
theorem dL_law_604 : decode cL_law 604 = .ok (.iconst 0, 1) := by decide +kernel
theorem dL_law_605 : decode cL_law 605 = .ok (.laload, 1) := by decide +kernel
theorem dL_law_606 : decode cL_law 606 = .ok (.iload 6, 2) := by decide +kernel
theorem dL_law_608 : decode cL_law 608 = .ok (.i2l, 1) := by decide +kernel
theorem dL_law_609 : decode cL_law 609 = .ok (.lcmp, 1) := by decide +kernel
theorem dL_law_610 : decode cL_law 610 = .ok (.ifCond .eq 5, 3) := by decide +kernel
theorem dL_law_615 : decode cL_law 615 = .ok (.goto 1554, 3) := by decide +kernel
theorem dL_law_618 : decode cL_law 618 = .ok (.aload_n 1, 1) := by decide +kernel
theorem dL_law_619 : decode cL_law 619 = .ok (.aload_n 0, 1) := by decide +kernel
theorem dL_law_620 : decode cL_law 620 = .ok (.iload 4, 2) := by decide +kernel
theorem dL_law_622 : decode cL_law 622 = .ok (.iconst 1, 1) := by decide +kernel
theorem dL_law_623 : decode cL_law 623 = .ok (.iadd, 1) := by decide +kernel
theorem dL_law_624 : decode cL_law 624 = .ok (.iaload, 1) := by decide +kernel
theorem dL_law_625 : decode cL_law 625 = .ok (.aload_n 0, 1) := by decide +kernel
theorem dL_law_626 : decode cL_law 626 = .ok (.iload 4, 2) := by decide +kernel
theorem dL_law_628 : decode cL_law 628 = .ok (.iconst 2, 1) := by decide +kernel
theorem dL_law_629 : decode cL_law 629 = .ok (.iadd, 1) := by decide +kernel
theorem dL_law_630 : decode cL_law 630 = .ok (.iaload, 1) := by decide +kernel
theorem dL_law_631 : decode cL_law 631 = .ok (.aload_n 0, 1) := by decide +kernel
theorem dL_law_632 : decode cL_law 632 = .ok (.iload 4, 2) := by decide +kernel
theorem dL_law_634 : decode cL_law 634 = .ok (.iconst 3, 1) := by decide +kernel
theorem dL_law_635 : decode cL_law 635 = .ok (.iadd, 1) := by decide +kernel
theorem dL_law_636 : decode cL_law 636 = .ok (.iaload, 1) := by decide +kernel
theorem dL_law_637 : decode cL_law 637 = .ok (.aload_n 3, 1) := by decide +kernel
theorem dL_law_638 : decode cL_law 638 = .ok (.invokestatic 132, 3) := by decide +kernel
theorem dL_law_641 : decode cL_law 641 = .ok (.istore 5, 2) := by decide +kernel
theorem dL_law_643 : decode cL_law 643 = .ok (.aload_n 2, 1) := by decide +kernel
theorem dL_law_644 : decode cL_law 644 = .ok (.aload_n 0, 1) := by decide +kernel
theorem dL_law_645 : decode cL_law 645 = .ok (.iload 4, 2) := by decide +kernel
theorem dL_law_647 : decode cL_law 647 = .ok (.iconst 1, 1) := by decide +kernel
theorem dL_law_648 : decode cL_law 648 = .ok (.iadd, 1) := by decide +kernel
theorem dL_law_649 : decode cL_law 649 = .ok (.iaload, 1) := by decide +kernel
theorem dL_law_650 : decode cL_law 650 = .ok (.aload_n 0, 1) := by decide +kernel
theorem dL_law_651 : decode cL_law 651 = .ok (.iload 4, 2) := by decide +kernel
theorem dL_law_653 : decode cL_law 653 = .ok (.iconst 2, 1) := by decide +kernel
theorem dL_law_654 : decode cL_law 654 = .ok (.iadd, 1) := by decide +kernel
theorem dL_law_655 : decode cL_law 655 = .ok (.iaload, 1) := by decide +kernel
theorem dL_law_656 : decode cL_law 656 = .ok (.aload_n 0, 1) := by decide +kernel
theorem dL_law_657 : decode cL_law 657 = .ok (.iload 4, 2) := by decide +kernel
theorem dL_law_659 : decode cL_law 659 = .ok (.iconst 3, 1) := by decide +kernel
theorem dL_law_660 : decode cL_law 660 = .ok (.iadd, 1) := by decide +kernel
theorem dL_law_661 : decode cL_law 661 = .ok (.iaload, 1) := by decide +kernel
theorem dL_law_662 : decode cL_law 662 = .ok (.invokevirtual 134, 3) := by decide +kernel
theorem dL_law_665 : decode cL_law 665 = .ok (.istore 6, 2) := by decide +kernel
theorem dL_law_667 : decode cL_law 667 = .ok (.aload_n 2, 1) := by decide +kernel
theorem dL_law_668 : decode cL_law 668 = .ok (.invokevirtual 109, 3) := by decide +kernel
theorem dL_law_671 : decode cL_law 671 = .ok (.iload 5, 2) := by decide +kernel
theorem dL_law_673 : decode cL_law 673 = .ok (.if_icmp .eq 5, 3) := by decide +kernel
theorem dL_law_678 : decode cL_law 678 = .ok (.iload 5, 2) := by decide +kernel
theorem dL_law_680 : decode cL_law 680 = .ok (.ifCond .ne 15, 3) := by decide +kernel
theorem dL_law_683 : decode cL_law 683 = .ok (.aload_n 3, 1) := by decide +kernel
theorem dL_law_684 : decode cL_law 684 = .ok (.iconst 0, 1) := by decide +kernel
theorem dL_law_685 : decode cL_law 685 = .ok (.laload, 1) := by decide +kernel
theorem dL_law_686 : decode cL_law 686 = .ok (.iload 6, 2) := by decide +kernel
theorem dL_law_688 : decode cL_law 688 = .ok (.i2l, 1) := by decide +kernel
theorem dL_law_689 : decode cL_law 689 = .ok (.lcmp, 1) := by decide +kernel
theorem dL_law_690 : decode cL_law 690 = .ok (.ifCond .eq 5, 3) := by decide +kernel
theorem dL_law_695 : decode cL_law 695 = .ok (.goto 1474, 3) := by decide +kernel
/-! ===== the law's cases used two ===== -/
theorem x_used {q : Par} {a b c : Int} {j : Nat} (h : o_used q a b c = .inl j) : j = 0 := by
  unfold o_used at h
  repeat' split at h
  all_goals first | exact (Sum.inl.inj h).symm | exact absurd h (fun e => by cases e)
theorem mv_L8_used : MV yX8_used cX8_used 4 (some .int) 3 := ⟨⟨v_1437, v_10, by decide, by decide, by decide +kernel⟩, v_1435, v_1436⟩
theorem x_two {q : Par} {a b c : Int} {j : Nat} (h : o_two q a b c = .inl j) : j = 0 := by
  unfold o_two at h
  repeat' split at h
  all_goals first | exact (Sum.inl.inj h).symm | exact absurd h (fun e => by cases e)
theorem mv_L8_two : MV yX8_two cX8_two 5 (some .int) 3 := ⟨⟨v_1441, v_10, by decide, by decide, by decide +kernel⟩, v_1439, v_1440⟩
section
variable {E : Ev} {X : Cx} {G : GH} {n1 n2 b L : Nat} {xs : Nat → Int32} {q : Par}
theorem la_6 (Z : LwF E X b L xs) {i : Nat} (hi : i + 6 ≤ L) (hn1 : n1 + 13 ≤ 600000) (hn2 : n2 + 708 ≤ 7000000) (hC : IC q G) (hR : IR q G) (kk : ∀ G2, Inv G2 → AW E X 7 2169 (lvL X b i) [] G2 (n1 + 13) (n2 + 708)) : AW E X 7 538 (lvL X b i) [] G n1 n2 := by
  obtain ⟨F, hRm, hl0, hPe, hX, hL⟩ := id Z
  have hPP := Z.pp
  refine aw_al_n F 3 dL_law_538 rfl rfl ?_
  refine la_arg F hX (k := 1) hi hL (by decide) 4 0 rfl rfl (kv := (1 : Int32)) (by decide) dL_law_539 dL_law_540 dL_law_542 (by decide) dL_law_543 dL_law_544 rfl ?_
  refine la_arg F hX (k := 2) hi hL (by decide) 4 0 rfl rfl (kv := (2 : Int32)) (by decide) dL_law_545 dL_law_546 dL_law_548 (by decide) dL_law_549 dL_law_550 rfl ?_
  refine la_arg F hX (k := 3) hi hL (by decide) 4 0 rfl rfl (kv := (3 : Int32)) (by decide) dL_law_551 dL_law_552 dL_law_554 (by decide) dL_law_555 dL_law_556 rfl ?_
  refine aw_al_n F 1 dL_law_557 rfl rfl ?_
  have hI := cI_used (q := q) (G := G) (i32_self (xs (i + 1))) (i32_self (xs (i + 2))) (i32_self (xs (i + 3))) hC
  simp only [zI_self] at hI
  have hW : CtW (lX X) yL_used cL_used 6 [(0, 12, 15, 18)] 8 2 12 E (PX X) (sdX X) G [.ref (sdX X 0 0), .int (xs (i + 1)), .int (xs (i + 2)), .int (xs (i + 3)), .ref (sdX X 25 1)] (pI (LQ kc2 (o_used q (xs (i + 1)).toInt (xs (i + 2)).toInt (xs (i + 3)).toInt) q G)) := by
    refine kL_used hPP (k_X7_used hl0 hPP hI) (fun r G1 h => wq_r h) (fun i2 G1 hi2 h => ?_)
    have e0 := x_used h.1
    subst e0
    exact ⟨rfl, wq_x rfl (by decide) h⟩
  refine aw_cSW F hRm (n := 5) (stk := []) [.ref (sdX X 0 0), .int (xs (i + 1)), .int (xs (i + 2)), .int (xs (i + 3)), .ref (sdX X 25 1)] hW ⟨v_774, v_0, by decide, by decide, by decide +kernel⟩ v_773 v_772 rfl rfl (Nat.le_of_ble_eq_true rfl) ⟨(Nat.le_of_ble_eq_true rfl), (Nat.le_of_ble_eq_true rfl)⟩ ⟨by omega, by omega⟩ dL_law_558 (fun k G1 hk => ?_)
  refine aw_is F dL_law_561 (by decide) (lv1 := (5, .int k) :: lvL X b i) rfl ?_
  refine aw_al_n F 3 dL_law_563 rfl rfl ?_
  refine la_arg F hX (k := 1) hi hL (by decide) 5 1 rfl rfl (kv := (1 : Int32)) (by decide) dL_law_564 dL_law_565 dL_law_567 (by decide) dL_law_568 dL_law_569 rfl ?_
  refine la_arg F hX (k := 2) hi hL (by decide) 5 1 rfl rfl (kv := (2 : Int32)) (by decide) dL_law_570 dL_law_571 dL_law_573 (by decide) dL_law_574 dL_law_575 rfl ?_
  refine la_arg F hX (k := 3) hi hL (by decide) 5 1 rfl rfl (kv := (3 : Int32)) (by decide) dL_law_576 dL_law_577 dL_law_579 (by decide) dL_law_580 dL_law_581 rfl ?_
  have hM := cM_used (q := q) (G := G1) (i32_self (xs (i + 1))) (i32_self (xs (i + 2))) (i32_self (xs (i + 3))) hC.pv (hk.ir hR)
  simp only [zI_self] at hM
  refine aw_cVi F hRm (o := 24) (c := 8) (stk := []) [.int (xs (i + 1)), .int (xs (i + 2)), .int (xs (i + 3))] (k_X8_used hPP hM) mv_L8_used v_1434 cf8 (lo_s rfl) (hPP 24 rfl) rfl (by decide) rfl rfl (Nat.le_of_ble_eq_true rfl) ⟨(Nat.le_of_ble_eq_true rfl), (Nat.le_of_ble_eq_true rfl)⟩ ⟨by omega, by omega⟩ dL_law_582 (fun r G2 hr => ?_)
  obtain ⟨e5, er, hv⟩ := wq_m hk hr
  refine la_tail Z (i := i) e5 er (by omega) (by omega) dL_law_585 dL_law_587 dL_law_588 dL_law_591 dL_law_593 dL_law_598 dL_law_600 dL_law_603 dL_law_604 dL_law_605 dL_law_606 dL_law_608 dL_law_609 dL_law_610 dL_law_615 (by decide) ?_
  exact aw_wide (by omega) (by omega) (kk G2 hv)
theorem la_7 (Z : LwF E X b L xs) {i : Nat} (hi : i + 6 ≤ L) (hn1 : n1 + 13 ≤ 600000) (hn2 : n2 + 708 ≤ 7000000) (hC : IC q G) (hR : IR q G) (kk : ∀ G2, Inv G2 → AW E X 7 2169 (lvL X b i) [] G2 (n1 + 13) (n2 + 708)) : AW E X 7 618 (lvL X b i) [] G n1 n2 := by
  obtain ⟨F, hRm, hl0, hPe, hX, hL⟩ := id Z
  have hPP := Z.pp
  refine aw_al_n F 3 dL_law_618 rfl rfl ?_
  refine la_arg F hX (k := 1) hi hL (by decide) 4 0 rfl rfl (kv := (1 : Int32)) (by decide) dL_law_619 dL_law_620 dL_law_622 (by decide) dL_law_623 dL_law_624 rfl ?_
  refine la_arg F hX (k := 2) hi hL (by decide) 4 0 rfl rfl (kv := (2 : Int32)) (by decide) dL_law_625 dL_law_626 dL_law_628 (by decide) dL_law_629 dL_law_630 rfl ?_
  refine la_arg F hX (k := 3) hi hL (by decide) 4 0 rfl rfl (kv := (3 : Int32)) (by decide) dL_law_631 dL_law_632 dL_law_634 (by decide) dL_law_635 dL_law_636 rfl ?_
  refine aw_al_n F 1 dL_law_637 rfl rfl ?_
  have hI := cI_two (q := q) (G := G) (i32_self (xs (i + 1))) (i32_self (xs (i + 2))) (i32_self (xs (i + 3))) hC
  simp only [zI_self] at hI
  have hW : CtW (lX X) yL_two cL_two 6 [(0, 12, 15, 18)] 8 2 12 E (PX X) (sdX X) G [.ref (sdX X 0 0), .int (xs (i + 1)), .int (xs (i + 2)), .int (xs (i + 3)), .ref (sdX X 25 1)] (pI (LQ kc2 (o_two q (xs (i + 1)).toInt (xs (i + 2)).toInt (xs (i + 3)).toInt) q G)) := by
    refine kL_two hPP (k_X7_two hl0 hPP hI) (fun r G1 h => wq_r h) (fun i2 G1 hi2 h => ?_)
    have e0 := x_two h.1
    subst e0
    exact ⟨rfl, wq_x rfl (by decide) h⟩
  refine aw_cSW F hRm (n := 5) (stk := []) [.ref (sdX X 0 0), .int (xs (i + 1)), .int (xs (i + 2)), .int (xs (i + 3)), .ref (sdX X 25 1)] hW ⟨v_787, v_0, by decide, by decide, by decide +kernel⟩ v_786 v_785 rfl rfl (Nat.le_of_ble_eq_true rfl) ⟨(Nat.le_of_ble_eq_true rfl), (Nat.le_of_ble_eq_true rfl)⟩ ⟨by omega, by omega⟩ dL_law_638 (fun k G1 hk => ?_)
  refine aw_is F dL_law_641 (by decide) (lv1 := (5, .int k) :: lvL X b i) rfl ?_
  refine aw_al_n F 3 dL_law_643 rfl rfl ?_
  refine la_arg F hX (k := 1) hi hL (by decide) 5 1 rfl rfl (kv := (1 : Int32)) (by decide) dL_law_644 dL_law_645 dL_law_647 (by decide) dL_law_648 dL_law_649 rfl ?_
  refine la_arg F hX (k := 2) hi hL (by decide) 5 1 rfl rfl (kv := (2 : Int32)) (by decide) dL_law_650 dL_law_651 dL_law_653 (by decide) dL_law_654 dL_law_655 rfl ?_
  refine la_arg F hX (k := 3) hi hL (by decide) 5 1 rfl rfl (kv := (3 : Int32)) (by decide) dL_law_656 dL_law_657 dL_law_659 (by decide) dL_law_660 dL_law_661 rfl ?_
  have hM := cM_two (q := q) (G := G1) (i32_self (xs (i + 1))) (i32_self (xs (i + 2))) (i32_self (xs (i + 3))) hC.pv (hk.ir hR)
  simp only [zI_self] at hM
  refine aw_cVi F hRm (o := 24) (c := 8) (stk := []) [.int (xs (i + 1)), .int (xs (i + 2)), .int (xs (i + 3))] (k_X8_two hPP hM) mv_L8_two v_1438 cf8 (lo_s rfl) (hPP 24 rfl) rfl (by decide) rfl rfl (Nat.le_of_ble_eq_true rfl) ⟨(Nat.le_of_ble_eq_true rfl), (Nat.le_of_ble_eq_true rfl)⟩ ⟨by omega, by omega⟩ dL_law_662 (fun r G2 hr => ?_)
  obtain ⟨e5, er, hv⟩ := wq_m hk hr
  refine la_tail Z (i := i) e5 er (by omega) (by omega) dL_law_665 dL_law_667 dL_law_668 dL_law_671 dL_law_673 dL_law_678 dL_law_680 dL_law_683 dL_law_684 dL_law_685 dL_law_686 dL_law_688 dL_law_689 dL_law_690 dL_law_695 (by decide) ?_
  exact aw_wide (by omega) (by omega) (kk G2 hv)
end
