theorem v_617 : (Jvm.Cond.methodLink "MarkFieldLaw" (117 : Nat) ({ cls := "MarkFieldLaw", name := "count", desc := "(LMarkField;I[J)I" } : Jvm.MethodName)) ∈ tb := tb_of (List.mem_of_getElem? (i := 617) (by decide +kernel)) rfl
theorem v_618 : (Jvm.Cond.static ({ cls := "MarkFieldLaw", name := "count", desc := "(LMarkField;I[J)I" } : Jvm.MethodName)) ∈ tb := tb_of (List.mem_of_getElem? (i := 618) (by decide +kernel)) rfl
theorem v_619 : (Jvm.Cond.codeWith ({ cls := "MarkFieldLaw", name := "count", desc := "(LMarkField;I[J)I" } : Jvm.MethodName) method_4_code (4 : Nat) (Option.some Jvm.ClassFile.FieldType.int) [((0 : Nat), (9 : Nat), (12 : Nat), (18 : Nat))]) ∈ tb := tb_of (List.mem_of_getElem? (i := 619) (by decide +kernel)) rfl
theorem v_745 : (Jvm.Cond.methodLink "MarkFieldLaw" (120 : Nat) ({ cls := "MarkFieldLaw", name := "mark", desc := "(LMarkField;II[J)I" } : Jvm.MethodName)) ∈ tb := tb_of (List.mem_of_getElem? (i := 745) (by decide +kernel)) rfl
theorem v_746 : (Jvm.Cond.static ({ cls := "MarkFieldLaw", name := "mark", desc := "(LMarkField;II[J)I" } : Jvm.MethodName)) ∈ tb := tb_of (List.mem_of_getElem? (i := 746) (by decide +kernel)) rfl
theorem v_747 : (Jvm.Cond.codeWith ({ cls := "MarkFieldLaw", name := "mark", desc := "(LMarkField;II[J)I" } : Jvm.MethodName) method_5_code (5 : Nat) (Option.some Jvm.ClassFile.FieldType.int) [((0 : Nat), (10 : Nat), (13 : Nat), (18 : Nat))]) ∈ tb := tb_of (List.mem_of_getElem? (i := 747) (by decide +kernel)) rfl
theorem v_764 : (Jvm.Cond.methodLink "MarkFieldLaw" (124 : Nat) ({ cls := "MarkFieldLaw", name := "letter", desc := "(LMarkField;IIZ[J)I" } : Jvm.MethodName)) ∈ tb := tb_of (List.mem_of_getElem? (i := 764) (by decide +kernel)) rfl
theorem v_765 : (Jvm.Cond.static ({ cls := "MarkFieldLaw", name := "letter", desc := "(LMarkField;IIZ[J)I" } : Jvm.MethodName)) ∈ tb := tb_of (List.mem_of_getElem? (i := 765) (by decide +kernel)) rfl
theorem v_766 : (Jvm.Cond.codeWith ({ cls := "MarkFieldLaw", name := "letter", desc := "(LMarkField;IIZ[J)I" } : Jvm.MethodName) method_6_code (6 : Nat) (Option.some Jvm.ClassFile.FieldType.int) [((0 : Nat), (12 : Nat), (15 : Nat), (18 : Nat))]) ∈ tb := tb_of (List.mem_of_getElem? (i := 766) (by decide +kernel)) rfl
theorem v_1297 : (Jvm.Cond.methodLink "MarkFieldLaw" (119 : Nat) ({ cls := "MarkFieldModel", name := "count", desc := "(I)I" } : Jvm.MethodName)) ∈ tb := tb_of (List.mem_of_getElem? (i := 1297) (by decide +kernel)) rfl
theorem v_1298 : (Jvm.Cond.instanceMethod ({ cls := "MarkFieldModel", name := "count", desc := "(I)I" } : Jvm.MethodName)) ∈ tb := tb_of (List.mem_of_getElem? (i := 1298) (by decide +kernel)) rfl
theorem v_1299 : (Jvm.Cond.selects "MarkFieldModel" ({ cls := "MarkFieldModel", name := "count", desc := "(I)I" } : Jvm.MethodName) ({ cls := "MarkFieldModel", name := "count", desc := "(I)I" } : Jvm.MethodName)) ∈ tb := tb_of (List.mem_of_getElem? (i := 1299) (by decide +kernel)) rfl
theorem v_1300 : (Jvm.Cond.code ({ cls := "MarkFieldModel", name := "count", desc := "(I)I" } : Jvm.MethodName) prog_10_method_47_code (2 : Nat) (Option.some Jvm.ClassFile.FieldType.int)) ∈ tb := tb_of (List.mem_of_getElem? (i := 1300) (by decide +kernel)) rfl
theorem v_1419 : (Jvm.Cond.methodLink "MarkFieldLaw" (123 : Nat) ({ cls := "MarkFieldModel", name := "mark", desc := "(II)I" } : Jvm.MethodName)) ∈ tb := tb_of (List.mem_of_getElem? (i := 1419) (by decide +kernel)) rfl
theorem v_1420 : (Jvm.Cond.instanceMethod ({ cls := "MarkFieldModel", name := "mark", desc := "(II)I" } : Jvm.MethodName)) ∈ tb := tb_of (List.mem_of_getElem? (i := 1420) (by decide +kernel)) rfl
theorem v_1421 : (Jvm.Cond.selects "MarkFieldModel" ({ cls := "MarkFieldModel", name := "mark", desc := "(II)I" } : Jvm.MethodName) ({ cls := "MarkFieldModel", name := "mark", desc := "(II)I" } : Jvm.MethodName)) ∈ tb := tb_of (List.mem_of_getElem? (i := 1421) (by decide +kernel)) rfl
theorem v_1422 : (Jvm.Cond.code ({ cls := "MarkFieldModel", name := "mark", desc := "(II)I" } : Jvm.MethodName) prog_10_method_48_code (3 : Nat) (Option.some Jvm.ClassFile.FieldType.int)) ∈ tb := tb_of (List.mem_of_getElem? (i := 1422) (by decide +kernel)) rfl
theorem v_1430 : (Jvm.Cond.methodLink "MarkFieldLaw" (127 : Nat) ({ cls := "MarkFieldModel", name := "letter", desc := "(IIZ)I" } : Jvm.MethodName)) ∈ tb := tb_of (List.mem_of_getElem? (i := 1430) (by decide +kernel)) rfl
theorem v_1431 : (Jvm.Cond.instanceMethod ({ cls := "MarkFieldModel", name := "letter", desc := "(IIZ)I" } : Jvm.MethodName)) ∈ tb := tb_of (List.mem_of_getElem? (i := 1431) (by decide +kernel)) rfl
theorem v_1432 : (Jvm.Cond.selects "MarkFieldModel" ({ cls := "MarkFieldModel", name := "letter", desc := "(IIZ)I" } : Jvm.MethodName) ({ cls := "MarkFieldModel", name := "letter", desc := "(IIZ)I" } : Jvm.MethodName)) ∈ tb := tb_of (List.mem_of_getElem? (i := 1432) (by decide +kernel)) rfl
theorem v_1433 : (Jvm.Cond.code ({ cls := "MarkFieldModel", name := "letter", desc := "(IIZ)I" } : Jvm.MethodName) prog_10_method_49_code (4 : Nat) (Option.some Jvm.ClassFile.FieldType.int)) ∈ tb := tb_of (List.mem_of_getElem? (i := 1433) (by decide +kernel)) rfl
theorem dL_law_318 : decode cL_law 318 = .ok (.aload_n 1, 1) := by decide +kernel
theorem dL_law_319 : decode cL_law 319 = .ok (.aload_n 0, 1) := by decide +kernel
theorem dL_law_320 : decode cL_law 320 = .ok (.iload 4, 2) := by decide +kernel
theorem dL_law_322 : decode cL_law 322 = .ok (.iconst 1, 1) := by decide +kernel
theorem dL_law_323 : decode cL_law 323 = .ok (.iadd, 1) := by decide +kernel
theorem dL_law_324 : decode cL_law 324 = .ok (.iaload, 1) := by decide +kernel
theorem dL_law_325 : decode cL_law 325 = .ok (.aload_n 3, 1) := by decide +kernel
theorem dL_law_326 : decode cL_law 326 = .ok (.invokestatic 117, 3) := by decide +kernel
theorem dL_law_329 : decode cL_law 329 = .ok (.istore 5, 2) := by decide +kernel
theorem dL_law_331 : decode cL_law 331 = .ok (.aload_n 2, 1) := by decide +kernel
theorem dL_law_332 : decode cL_law 332 = .ok (.aload_n 0, 1) := by decide +kernel
theorem dL_law_333 : decode cL_law 333 = .ok (.iload 4, 2) := by decide +kernel
theorem dL_law_335 : decode cL_law 335 = .ok (.iconst 1, 1) := by decide +kernel
theorem dL_law_336 : decode cL_law 336 = .ok (.iadd, 1) := by decide +kernel
theorem dL_law_337 : decode cL_law 337 = .ok (.iaload, 1) := by decide +kernel
theorem dL_law_338 : decode cL_law 338 = .ok (.invokevirtual 119, 3) := by decide +kernel
theorem dL_law_341 : decode cL_law 341 = .ok (.istore 6, 2) := by decide +kernel
theorem dL_law_343 : decode cL_law 343 = .ok (.aload_n 2, 1) := by decide +kernel
theorem dL_law_344 : decode cL_law 344 = .ok (.invokevirtual 109, 3) := by decide +kernel
theorem dL_law_347 : decode cL_law 347 = .ok (.iload 5, 2) := by decide +kernel
theorem dL_law_349 : decode cL_law 349 = .ok (.if_icmp .eq 5, 3) := by decide +kernel
theorem dL_law_354 : decode cL_law 354 = .ok (.iload 5, 2) := by decide +kernel
theorem dL_law_356 : decode cL_law 356 = .ok (.ifCond .ne 15, 3) := by decide +kernel
theorem dL_law_359 : decode cL_law 359 = .ok (.aload_n 3, 1) := by decide +kernel
theorem dL_law_360 : decode cL_law 360 = .ok (.iconst 0, 1) := by decide +kernel
theorem dL_law_361 : decode cL_law 361 = .ok (.laload, 1) := by decide +kernel
theorem dL_law_362 : decode cL_law 362 = .ok (.iload 6, 2) := by decide +kernel
theorem dL_law_364 : decode cL_law 364 = .ok (.i2l, 1) := by decide +kernel
theorem dL_law_365 : decode cL_law 365 = .ok (.lcmp, 1) := by decide +kernel
theorem dL_law_366 : decode cL_law 366 = .ok (.ifCond .eq 5, 3) := by decide +kernel
theorem dL_law_371 : decode cL_law 371 = .ok (.goto 1798, 3) := by decide +kernel
theorem dL_law_374 : decode cL_law 374 = .ok (.aload_n 1, 1) := by decide +kernel
theorem dL_law_375 : decode cL_law 375 = .ok (.aload_n 0, 1) := by decide +kernel
theorem dL_law_376 : decode cL_law 376 = .ok (.iload 4, 2) := by decide +kernel
theorem dL_law_378 : decode cL_law 378 = .ok (.iconst 1, 1) := by decide +kernel
theorem dL_law_379 : decode cL_law 379 = .ok (.iadd, 1) := by decide +kernel
theorem dL_law_380 : decode cL_law 380 = .ok (.iaload, 1) := by decide +kernel
theorem dL_law_381 : decode cL_law 381 = .ok (.aload_n 0, 1) := by decide +kernel
theorem dL_law_382 : decode cL_law 382 = .ok (.iload 4, 2) := by decide +kernel
theorem dL_law_384 : decode cL_law 384 = .ok (.iconst 2, 1) := by decide +kernel
theorem dL_law_385 : decode cL_law 385 = .ok (.iadd, 1) := by decide +kernel
theorem dL_law_386 : decode cL_law 386 = .ok (.iaload, 1) := by decide +kernel
theorem dL_law_387 : decode cL_law 387 = .ok (.aload_n 3, 1) := by decide +kernel
theorem dL_law_388 : decode cL_law 388 = .ok (.invokestatic 120, 3) := by decide +kernel
theorem dL_law_391 : decode cL_law 391 = .ok (.istore 5, 2) := by decide +kernel
theorem dL_law_393 : decode cL_law 393 = .ok (.aload_n 2, 1) := by decide +kernel
theorem dL_law_394 : decode cL_law 394 = .ok (.aload_n 0, 1) := by decide +kernel
theorem dL_law_395 : decode cL_law 395 = .ok (.iload 4, 2) := by decide +kernel
theorem dL_law_397 : decode cL_law 397 = .ok (.iconst 1, 1) := by decide +kernel
theorem dL_law_398 : decode cL_law 398 = .ok (.iadd, 1) := by decide +kernel
theorem dL_law_399 : decode cL_law 399 = .ok (.iaload, 1) := by decide +kernel
theorem dL_law_400 : decode cL_law 400 = .ok (.aload_n 0, 1) := by decide +kernel
theorem dL_law_401 : decode cL_law 401 = .ok (.iload 4, 2) := by decide +kernel
theorem dL_law_403 : decode cL_law 403 = .ok (.iconst 2, 1) := by decide +kernel
theorem dL_law_404 : decode cL_law 404 = .ok (.iadd, 1) := by decide +kernel
theorem dL_law_405 : decode cL_law 405 = .ok (.iaload, 1) := by decide +kernel
theorem dL_law_406 : decode cL_law 406 = .ok (.invokevirtual 123, 3) := by decide +kernel
theorem dL_law_409 : decode cL_law 409 = .ok (.istore 6, 2) := by decide +kernel
theorem dL_law_411 : decode cL_law 411 = .ok (.aload_n 2, 1) := by decide +kernel
theorem dL_law_412 : decode cL_law 412 = .ok (.invokevirtual 109, 3) := by decide +kernel
theorem dL_law_415 : decode cL_law 415 = .ok (.iload 5, 2) := by decide +kernel
theorem dL_law_417 : decode cL_law 417 = .ok (.if_icmp .eq 5, 3) := by decide +kernel
theorem dL_law_422 : decode cL_law 422 = .ok (.iload 5, 2) := by decide +kernel
theorem dL_law_424 : decode cL_law 424 = .ok (.ifCond .ne 15, 3) := by decide +kernel
theorem dL_law_427 : decode cL_law 427 = .ok (.aload_n 3, 1) := by decide +kernel
theorem dL_law_428 : decode cL_law 428 = .ok (.iconst 0, 1) := by decide +kernel
theorem dL_law_429 : decode cL_law 429 = .ok (.laload, 1) := by decide +kernel
theorem dL_law_430 : decode cL_law 430 = .ok (.iload 6, 2) := by decide +kernel
theorem dL_law_432 : decode cL_law 432 = .ok (.i2l, 1) := by decide +kernel
theorem dL_law_433 : decode cL_law 433 = .ok (.lcmp, 1) := by decide +kernel
theorem dL_law_434 : decode cL_law 434 = .ok (.ifCond .eq 5, 3) := by decide +kernel
theorem dL_law_439 : decode cL_law 439 = .ok (.goto 1730, 3) := by decide +kernel
theorem dL_law_442 : decode cL_law 442 = .ok (.aload_n 1, 1) := by decide +kernel
theorem dL_law_443 : decode cL_law 443 = .ok (.aload_n 0, 1) := by decide +kernel
theorem dL_law_444 : decode cL_law 444 = .ok (.iload 4, 2) := by decide +kernel
theorem dL_law_446 : decode cL_law 446 = .ok (.iconst 1, 1) := by decide +kernel
theorem dL_law_447 : decode cL_law 447 = .ok (.iadd, 1) := by decide +kernel
theorem dL_law_448 : decode cL_law 448 = .ok (.iaload, 1) := by decide +kernel
theorem dL_law_449 : decode cL_law 449 = .ok (.aload_n 0, 1) := by decide +kernel
theorem dL_law_450 : decode cL_law 450 = .ok (.iload 4, 2) := by decide +kernel
theorem dL_law_452 : decode cL_law 452 = .ok (.iconst 2, 1) := by decide +kernel
theorem dL_law_453 : decode cL_law 453 = .ok (.iadd, 1) := by decide +kernel
theorem dL_law_454 : decode cL_law 454 = .ok (.iaload, 1) := by decide +kernel
theorem dL_law_455 : decode cL_law 455 = .ok (.aload_n 0, 1) := by decide +kernel
theorem dL_law_456 : decode cL_law 456 = .ok (.iload 4, 2) := by decide +kernel
theorem dL_law_458 : decode cL_law 458 = .ok (.iconst 3, 1) := by decide +kernel
theorem dL_law_459 : decode cL_law 459 = .ok (.iadd, 1) := by decide +kernel
theorem dL_law_460 : decode cL_law 460 = .ok (.iaload, 1) := by decide +kernel
theorem dL_law_461 : decode cL_law 461 = .ok (.ifCond .eq 7, 3) := by decide +kernel
theorem dL_law_464 : decode cL_law 464 = .ok (.iconst 1, 1) := by decide +kernel
theorem dL_law_465 : decode cL_law 465 = .ok (.goto 4, 3) := by decide +kernel
theorem dL_law_468 : decode cL_law 468 = .ok (.iconst 0, 1) := by decide +kernel
theorem dL_law_469 : decode cL_law 469 = .ok (.aload_n 3, 1) := by decide +kernel
theorem dL_law_470 : decode cL_law 470 = .ok (.invokestatic 124, 3) := by decide +kernel
theorem dL_law_473 : decode cL_law 473 = .ok (.istore 5, 2) := by decide +kernel
theorem dL_law_475 : decode cL_law 475 = .ok (.aload_n 2, 1) := by decide +kernel
theorem dL_law_476 : decode cL_law 476 = .ok (.aload_n 0, 1) := by decide +kernel
theorem dL_law_477 : decode cL_law 477 = .ok (.iload 4, 2) := by decide +kernel
theorem dL_law_479 : decode cL_law 479 = .ok (.iconst 1, 1) := by decide +kernel
theorem dL_law_480 : decode cL_law 480 = .ok (.iadd, 1) := by decide +kernel
theorem dL_law_481 : decode cL_law 481 = .ok (.iaload, 1) := by decide +kernel
theorem dL_law_482 : decode cL_law 482 = .ok (.aload_n 0, 1) := by decide +kernel
theorem dL_law_483 : decode cL_law 483 = .ok (.iload 4, 2) := by decide +kernel
theorem dL_law_485 : decode cL_law 485 = .ok (.iconst 2, 1) := by decide +kernel
theorem dL_law_486 : decode cL_law 486 = .ok (.iadd, 1) := by decide +kernel
theorem dL_law_487 : decode cL_law 487 = .ok (.iaload, 1) := by decide +kernel
theorem dL_law_488 : decode cL_law 488 = .ok (.aload_n 0, 1) := by decide +kernel
theorem dL_law_489 : decode cL_law 489 = .ok (.iload 4, 2) := by decide +kernel
theorem dL_law_491 : decode cL_law 491 = .ok (.iconst 3, 1) := by decide +kernel
theorem dL_law_492 : decode cL_law 492 = .ok (.iadd, 1) := by decide +kernel
theorem dL_law_493 : decode cL_law 493 = .ok (.iaload, 1) := by decide +kernel
theorem dL_law_494 : decode cL_law 494 = .ok (.ifCond .eq 7, 3) := by decide +kernel
theorem dL_law_497 : decode cL_law 497 = .ok (.iconst 1, 1) := by decide +kernel
theorem dL_law_498 : decode cL_law 498 = .ok (.goto 4, 3) := by decide +kernel
theorem dL_law_501 : decode cL_law 501 = .ok (.iconst 0, 1) := by decide +kernel
theorem dL_law_502 : decode cL_law 502 = .ok (.invokevirtual 127, 3) := by decide +kernel
theorem dL_law_505 : decode cL_law 505 = .ok (.istore 6, 2) := by decide +kernel
theorem dL_law_507 : decode cL_law 507 = .ok (.aload_n 2, 1) := by decide +kernel
theorem dL_law_508 : decode cL_law 508 = .ok (.invokevirtual 109, 3) := by decide +kernel
theorem dL_law_511 : decode cL_law 511 = .ok (.iload 5, 2) := by decide +kernel
theorem dL_law_513 : decode cL_law 513 = .ok (.if_icmp .eq 5, 3) := by decide +kernel
theorem dL_law_518 : decode cL_law 518 = .ok (.iload 5, 2) := by decide +kernel
theorem dL_law_520 : decode cL_law 520 = .ok (.ifCond .ne 15, 3) := by decide +kernel
theorem dL_law_523 : decode cL_law 523 = .ok (.aload_n 3, 1) := by decide +kernel
theorem dL_law_524 : decode cL_law 524 = .ok (.iconst 0, 1) := by decide +kernel
theorem dL_law_525 : decode cL_law 525 = .ok (.laload, 1) := by decide +kernel
theorem dL_law_526 : decode cL_law 526 = .ok (.iload 6, 2) := by decide +kernel
theorem dL_law_528 : decode cL_law 528 = .ok (.i2l, 1) := by decide +kernel
theorem dL_law_529 : decode cL_law 529 = .ok (.lcmp, 1) := by decide +kernel
theorem dL_law_530 : decode cL_law 530 = .ok (.ifCond .eq 5, 3) := by decide +kernel
theorem dL_law_535 : decode cL_law 535 = .ok (.goto 1634, 3) := by decide +kernel
/-! ===== the law's cases count mark letter ===== -/
theorem x_count {q : Par} {a : Int} {j : Nat} (h : o_count q a = .inl j) : j = 0 := by
  unfold o_count at h
  repeat' split at h
  all_goals first | exact (Sum.inl.inj h).symm | exact absurd h (fun e => by cases e)
theorem mv_L8_count : MV yX8_count cX8_count 2 (some .int) 1 := ⟨⟨v_1300, v_10, by decide, by decide, by decide +kernel⟩, v_1298, v_1299⟩
theorem x_mark {q : Par} {a b : Int} {j : Nat} (h : o_mark q a b = .inl j) : j = 0 := by
  unfold o_mark at h
  repeat' split at h
  all_goals first | exact (Sum.inl.inj h).symm | exact absurd h (fun e => by cases e)
theorem mv_L8_mark : MV yX8_mark cX8_mark 3 (some .int) 2 := ⟨⟨v_1422, v_10, by decide, by decide, by decide +kernel⟩, v_1420, v_1421⟩
theorem x_letter {q : Par} {a b : Int} {y : Int32} {j : Nat} (h : o_letter q a b y = .inl j) : j = 0 := by
  unfold o_letter at h
  repeat' split at h
  all_goals first | exact (Sum.inl.inj h).symm | exact absurd h (fun e => by cases e)
theorem mv_L8_letter : MV yX8_letter cX8_letter 4 (some .int) 3 := ⟨⟨v_1433, v_10, by decide, by decide, by decide +kernel⟩, v_1431, v_1432⟩
section
variable {E : Ev} {X : Cx} {G : GH} {n1 n2 b L : Nat} {xs : Nat → Int32} {q : Par}
theorem la_3 (Z : LwF E X b L xs) {i : Nat} (hi : i + 6 ≤ L) (hn1 : n1 + 13 ≤ 600000) (hn2 : n2 + 708 ≤ 7000000) (hC : IC q G) (hR : IR q G) (kk : ∀ G2, Inv G2 → AW E X 7 2169 (lvL X b i) [] G2 (n1 + 13) (n2 + 708)) : AW E X 7 318 (lvL X b i) [] G n1 n2 := by
  obtain ⟨F, hRm, hl0, hPe, hX, hL⟩ := id Z
  have hPP := Z.pp
  refine aw_al_n F 3 dL_law_318 rfl rfl ?_
  refine la_arg F hX (k := 1) hi hL (by decide) 4 0 rfl rfl (kv := (1 : Int32)) (by decide) dL_law_319 dL_law_320 dL_law_322 (by decide) dL_law_323 dL_law_324 rfl ?_
  refine aw_al_n F 1 dL_law_325 rfl rfl ?_
  have hI := cI_count (q := q) (G := G) (i32_self (xs (i + 1))) hC
  simp only [zI_self] at hI
  have hW : CtW (lX X) yL_count cL_count 4 [(0, 9, 12, 18)] 7 1 6 E (PX X) (sdX X) G [.ref (sdX X 0 0), .int (xs (i + 1)), .ref (sdX X 25 1)] (pI (LQ kc2 (o_count q (xs (i + 1)).toInt) q G)) := by
    refine kL_count hPP (k_X7_count hl0 hPP hI) (fun r G1 h => wq_r h) (fun i2 G1 hi2 h => ?_)
    have e0 := x_count h.1
    subst e0
    exact ⟨rfl, wq_x rfl (by decide) h⟩
  refine aw_cSW F hRm (n := 3) (stk := []) [.ref (sdX X 0 0), .int (xs (i + 1)), .ref (sdX X 25 1)] hW ⟨v_619, v_0, by decide, by decide, by decide +kernel⟩ v_618 v_617 rfl rfl (Nat.le_of_ble_eq_true rfl) ⟨(Nat.le_of_ble_eq_true rfl), (Nat.le_of_ble_eq_true rfl)⟩ ⟨by omega, by omega⟩ dL_law_326 (fun k G1 hk => ?_)
  refine aw_is F dL_law_329 (by decide) (lv1 := (5, .int k) :: lvL X b i) rfl ?_
  refine aw_al_n F 3 dL_law_331 rfl rfl ?_
  refine la_arg F hX (k := 1) hi hL (by decide) 5 1 rfl rfl (kv := (1 : Int32)) (by decide) dL_law_332 dL_law_333 dL_law_335 (by decide) dL_law_336 dL_law_337 rfl ?_
  have hM := cM_count (q := q) (G := G1) (i32_self (xs (i + 1))) hC.pv (hk.ir hR)
  simp only [zI_self] at hM
  refine aw_cVi F hRm (o := 24) (c := 8) (stk := []) [.int (xs (i + 1))] (k_X8_count hPP hM) mv_L8_count v_1297 cf8 (lo_s rfl) (hPP 24 rfl) rfl (by decide) rfl rfl (Nat.le_of_ble_eq_true rfl) ⟨(Nat.le_of_ble_eq_true rfl), (Nat.le_of_ble_eq_true rfl)⟩ ⟨by omega, by omega⟩ dL_law_338 (fun r G2 hr => ?_)
  obtain ⟨e5, er, hv⟩ := wq_m hk hr
  refine la_tail Z (i := i) e5 er (by omega) (by omega) dL_law_341 dL_law_343 dL_law_344 dL_law_347 dL_law_349 dL_law_354 dL_law_356 dL_law_359 dL_law_360 dL_law_361 dL_law_362 dL_law_364 dL_law_365 dL_law_366 dL_law_371 (by decide) ?_
  exact aw_wide (by omega) (by omega) (kk G2 hv)
theorem la_4 (Z : LwF E X b L xs) {i : Nat} (hi : i + 6 ≤ L) (hn1 : n1 + 13 ≤ 600000) (hn2 : n2 + 708 ≤ 7000000) (hC : IC q G) (hR : IR q G) (kk : ∀ G2, Inv G2 → AW E X 7 2169 (lvL X b i) [] G2 (n1 + 13) (n2 + 708)) : AW E X 7 374 (lvL X b i) [] G n1 n2 := by
  obtain ⟨F, hRm, hl0, hPe, hX, hL⟩ := id Z
  have hPP := Z.pp
  refine aw_al_n F 3 dL_law_374 rfl rfl ?_
  refine la_arg F hX (k := 1) hi hL (by decide) 4 0 rfl rfl (kv := (1 : Int32)) (by decide) dL_law_375 dL_law_376 dL_law_378 (by decide) dL_law_379 dL_law_380 rfl ?_
  refine la_arg F hX (k := 2) hi hL (by decide) 4 0 rfl rfl (kv := (2 : Int32)) (by decide) dL_law_381 dL_law_382 dL_law_384 (by decide) dL_law_385 dL_law_386 rfl ?_
  refine aw_al_n F 1 dL_law_387 rfl rfl ?_
  have hI := cI_mark (q := q) (G := G) (i32_self (xs (i + 1))) (i32_self (xs (i + 2))) hC
  simp only [zI_self] at hI
  have hW : CtW (lX X) yL_mark cL_mark 5 [(0, 10, 13, 18)] 8 2 12 E (PX X) (sdX X) G [.ref (sdX X 0 0), .int (xs (i + 1)), .int (xs (i + 2)), .ref (sdX X 25 1)] (pI (LQ kc2 (o_mark q (xs (i + 1)).toInt (xs (i + 2)).toInt) q G)) := by
    refine kL_mark hPP (k_X7_mark hl0 hPP hI) (fun r G1 h => wq_r h) (fun i2 G1 hi2 h => ?_)
    have e0 := x_mark h.1
    subst e0
    exact ⟨rfl, wq_x rfl (by decide) h⟩
  refine aw_cSW F hRm (n := 4) (stk := []) [.ref (sdX X 0 0), .int (xs (i + 1)), .int (xs (i + 2)), .ref (sdX X 25 1)] hW ⟨v_747, v_0, by decide, by decide, by decide +kernel⟩ v_746 v_745 rfl rfl (Nat.le_of_ble_eq_true rfl) ⟨(Nat.le_of_ble_eq_true rfl), (Nat.le_of_ble_eq_true rfl)⟩ ⟨by omega, by omega⟩ dL_law_388 (fun k G1 hk => ?_)
  refine aw_is F dL_law_391 (by decide) (lv1 := (5, .int k) :: lvL X b i) rfl ?_
  refine aw_al_n F 3 dL_law_393 rfl rfl ?_
  refine la_arg F hX (k := 1) hi hL (by decide) 5 1 rfl rfl (kv := (1 : Int32)) (by decide) dL_law_394 dL_law_395 dL_law_397 (by decide) dL_law_398 dL_law_399 rfl ?_
  refine la_arg F hX (k := 2) hi hL (by decide) 5 1 rfl rfl (kv := (2 : Int32)) (by decide) dL_law_400 dL_law_401 dL_law_403 (by decide) dL_law_404 dL_law_405 rfl ?_
  have hM := cM_mark (q := q) (G := G1) (i32_self (xs (i + 1))) (i32_self (xs (i + 2))) hC.pv (hk.ir hR)
  simp only [zI_self] at hM
  refine aw_cVi F hRm (o := 24) (c := 8) (stk := []) [.int (xs (i + 1)), .int (xs (i + 2))] (k_X8_mark hPP hM) mv_L8_mark v_1419 cf8 (lo_s rfl) (hPP 24 rfl) rfl (by decide) rfl rfl (Nat.le_of_ble_eq_true rfl) ⟨(Nat.le_of_ble_eq_true rfl), (Nat.le_of_ble_eq_true rfl)⟩ ⟨by omega, by omega⟩ dL_law_406 (fun r G2 hr => ?_)
  obtain ⟨e5, er, hv⟩ := wq_m hk hr
  refine la_tail Z (i := i) e5 er (by omega) (by omega) dL_law_409 dL_law_411 dL_law_412 dL_law_415 dL_law_417 dL_law_422 dL_law_424 dL_law_427 dL_law_428 dL_law_429 dL_law_430 dL_law_432 dL_law_433 dL_law_434 dL_law_439 (by decide) ?_
  exact aw_wide (by omega) (by omega) (kk G2 hv)
theorem la_5 (Z : LwF E X b L xs) {i : Nat} (hi : i + 6 ≤ L) (hn1 : n1 + 13 ≤ 600000) (hn2 : n2 + 708 ≤ 7000000) (hC : IC q G) (hR : IR q G) (kk : ∀ G2, Inv G2 → AW E X 7 2169 (lvL X b i) [] G2 (n1 + 13) (n2 + 708)) : AW E X 7 442 (lvL X b i) [] G n1 n2 := by
  obtain ⟨F, hRm, hl0, hPe, hX, hL⟩ := id Z
  have hPP := Z.pp
  refine aw_al_n F 3 dL_law_442 rfl rfl ?_
  refine la_arg F hX (k := 1) hi hL (by decide) 4 0 rfl rfl (kv := (1 : Int32)) (by decide) dL_law_443 dL_law_444 dL_law_446 (by decide) dL_law_447 dL_law_448 rfl ?_
  refine la_arg F hX (k := 2) hi hL (by decide) 4 0 rfl rfl (kv := (2 : Int32)) (by decide) dL_law_449 dL_law_450 dL_law_452 (by decide) dL_law_453 dL_law_454 rfl ?_
  refine la_arg F hX (k := 3) hi hL (by decide) 4 0 rfl rfl (kv := (3 : Int32)) (by decide) dL_law_455 dL_law_456 dL_law_458 (by decide) dL_law_459 dL_law_460 rfl ?_
  refine la_bool F dL_law_461 dL_law_464 dL_law_465 dL_law_468 rfl ?_
  refine aw_al_n F 1 dL_law_469 rfl rfl ?_
  have hI := cI_letter (q := q) (G := G) (x := bI (decide (xs (i + 3) ≠ 0))) (i32_self (xs (i + 1))) (i32_self (xs (i + 2))) hC
  simp only [zI_self] at hI
  have hW : CtW (lX X) yL_letter cL_letter 6 [(0, 12, 15, 18)] 8 2 12 E (PX X) (sdX X) G [.ref (sdX X 0 0), .int (xs (i + 1)), .int (xs (i + 2)), .int (bI (decide (xs (i + 3) ≠ 0))), .ref (sdX X 25 1)] (pI (LQ kc2 (o_letter q (xs (i + 1)).toInt (xs (i + 2)).toInt (bI (decide (xs (i + 3) ≠ 0)))) q G)) := by
    refine kL_letter hPP (k_X7_letter hl0 hPP hI) (fun r G1 h => wq_r h) (fun i2 G1 hi2 h => ?_)
    have e0 := x_letter h.1
    subst e0
    exact ⟨rfl, wq_x rfl (by decide) h⟩
  refine aw_cSW F hRm (n := 5) (stk := []) [.ref (sdX X 0 0), .int (xs (i + 1)), .int (xs (i + 2)), .int (bI (decide (xs (i + 3) ≠ 0))), .ref (sdX X 25 1)] hW ⟨v_766, v_0, by decide, by decide, by decide +kernel⟩ v_765 v_764 rfl rfl (Nat.le_of_ble_eq_true rfl) ⟨(Nat.le_of_ble_eq_true rfl), (Nat.le_of_ble_eq_true rfl)⟩ ⟨by omega, by omega⟩ dL_law_470 (fun k G1 hk => ?_)
  refine aw_is F dL_law_473 (by decide) (lv1 := (5, .int k) :: lvL X b i) rfl ?_
  refine aw_al_n F 3 dL_law_475 rfl rfl ?_
  refine la_arg F hX (k := 1) hi hL (by decide) 5 1 rfl rfl (kv := (1 : Int32)) (by decide) dL_law_476 dL_law_477 dL_law_479 (by decide) dL_law_480 dL_law_481 rfl ?_
  refine la_arg F hX (k := 2) hi hL (by decide) 5 1 rfl rfl (kv := (2 : Int32)) (by decide) dL_law_482 dL_law_483 dL_law_485 (by decide) dL_law_486 dL_law_487 rfl ?_
  refine la_arg F hX (k := 3) hi hL (by decide) 5 1 rfl rfl (kv := (3 : Int32)) (by decide) dL_law_488 dL_law_489 dL_law_491 (by decide) dL_law_492 dL_law_493 rfl ?_
  refine la_bool F dL_law_494 dL_law_497 dL_law_498 dL_law_501 rfl ?_
  have hM := cM_letter (q := q) (G := G1) (x := bI (decide (xs (i + 3) ≠ 0))) (i32_self (xs (i + 1))) (i32_self (xs (i + 2))) hC.pv (hk.ir hR)
  simp only [zI_self] at hM
  refine aw_cVi F hRm (o := 24) (c := 8) (stk := []) [.int (xs (i + 1)), .int (xs (i + 2)), .int (bI (decide (xs (i + 3) ≠ 0)))] (k_X8_letter hPP hM) mv_L8_letter v_1430 cf8 (lo_s rfl) (hPP 24 rfl) rfl (by decide) rfl rfl (Nat.le_of_ble_eq_true rfl) ⟨(Nat.le_of_ble_eq_true rfl), (Nat.le_of_ble_eq_true rfl)⟩ ⟨by omega, by omega⟩ dL_law_502 (fun r G2 hr => ?_)
  obtain ⟨e5, er, hv⟩ := wq_m hk hr
  refine la_tail Z (i := i) e5 er (by omega) (by omega) dL_law_505 dL_law_507 dL_law_508 dL_law_511 dL_law_513 dL_law_518 dL_law_520 dL_law_523 dL_law_524 dL_law_525 dL_law_526 dL_law_528 dL_law_529 dL_law_530 dL_law_535 (by decide) ?_
  exact aw_wide (by omega) (by omega) (kk G2 hv)
end
