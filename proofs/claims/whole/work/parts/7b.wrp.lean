theorem v_1 : (Jvm.Cond.initialized "MarkField") ∈ tb := tb_of (List.mem_of_getElem? (i := 1) (by decide +kernel)) rfl
theorem v_374 : (Jvm.Cond.classLink "MarkFieldLaw" (13 : Nat) "java/lang/IllegalArgumentException") ∈ tb := tb_of (List.mem_of_getElem? (i := 374) (by decide +kernel)) rfl
theorem v_375 : (Jvm.Cond.methodLink "MarkFieldLaw" (7 : Nat) ({ cls := "MarkField", name := "register", desc := "(I)I" } : Jvm.MethodName)) ∈ tb := tb_of (List.mem_of_getElem? (i := 375) (by decide +kernel)) rfl
theorem v_376 : (Jvm.Cond.instanceMethod ({ cls := "MarkField", name := "register", desc := "(I)I" } : Jvm.MethodName)) ∈ tb := tb_of (List.mem_of_getElem? (i := 376) (by decide +kernel)) rfl
theorem v_377 : (Jvm.Cond.selects "MarkField" ({ cls := "MarkField", name := "register", desc := "(I)I" } : Jvm.MethodName) ({ cls := "MarkField", name := "register", desc := "(I)I" } : Jvm.MethodName)) ∈ tb := tb_of (List.mem_of_getElem? (i := 377) (by decide +kernel)) rfl
theorem v_378 : (Jvm.Cond.code ({ cls := "MarkField", name := "register", desc := "(I)I" } : Jvm.MethodName) prog_1_method_3_code (3 : Nat) (Option.some Jvm.ClassFile.FieldType.int)) ∈ tb := tb_of (List.mem_of_getElem? (i := 378) (by decide +kernel)) rfl
theorem v_620 : (Jvm.Cond.classLink "MarkFieldLaw" (18 : Nat) "java/util/NoSuchElementException") ∈ tb := tb_of (List.mem_of_getElem? (i := 620) (by decide +kernel)) rfl
theorem v_621 : (Jvm.Cond.methodLink "MarkFieldLaw" (15 : Nat) ({ cls := "MarkField", name := "count", desc := "(I)I" } : Jvm.MethodName)) ∈ tb := tb_of (List.mem_of_getElem? (i := 621) (by decide +kernel)) rfl
theorem v_622 : (Jvm.Cond.instanceMethod ({ cls := "MarkField", name := "count", desc := "(I)I" } : Jvm.MethodName)) ∈ tb := tb_of (List.mem_of_getElem? (i := 622) (by decide +kernel)) rfl
theorem v_623 : (Jvm.Cond.selects "MarkField" ({ cls := "MarkField", name := "count", desc := "(I)I" } : Jvm.MethodName) ({ cls := "MarkField", name := "count", desc := "(I)I" } : Jvm.MethodName)) ∈ tb := tb_of (List.mem_of_getElem? (i := 623) (by decide +kernel)) rfl
theorem v_624 : (Jvm.Cond.code ({ cls := "MarkField", name := "count", desc := "(I)I" } : Jvm.MethodName) prog_1_method_5_code (2 : Nat) (Option.some Jvm.ClassFile.FieldType.int)) ∈ tb := tb_of (List.mem_of_getElem? (i := 624) (by decide +kernel)) rfl
theorem v_748 : (Jvm.Cond.methodLink "MarkFieldLaw" (20 : Nat) ({ cls := "MarkField", name := "mark", desc := "(II)I" } : Jvm.MethodName)) ∈ tb := tb_of (List.mem_of_getElem? (i := 748) (by decide +kernel)) rfl
theorem v_749 : (Jvm.Cond.instanceMethod ({ cls := "MarkField", name := "mark", desc := "(II)I" } : Jvm.MethodName)) ∈ tb := tb_of (List.mem_of_getElem? (i := 749) (by decide +kernel)) rfl
theorem v_750 : (Jvm.Cond.selects "MarkField" ({ cls := "MarkField", name := "mark", desc := "(II)I" } : Jvm.MethodName) ({ cls := "MarkField", name := "mark", desc := "(II)I" } : Jvm.MethodName)) ∈ tb := tb_of (List.mem_of_getElem? (i := 750) (by decide +kernel)) rfl
theorem v_751 : (Jvm.Cond.code ({ cls := "MarkField", name := "mark", desc := "(II)I" } : Jvm.MethodName) prog_1_method_6_code (3 : Nat) (Option.some Jvm.ClassFile.FieldType.int)) ∈ tb := tb_of (List.mem_of_getElem? (i := 751) (by decide +kernel)) rfl
theorem v_767 : (Jvm.Cond.methodLink "MarkFieldLaw" (24 : Nat) ({ cls := "MarkField", name := "letter", desc := "(IIZ)I" } : Jvm.MethodName)) ∈ tb := tb_of (List.mem_of_getElem? (i := 767) (by decide +kernel)) rfl
theorem v_768 : (Jvm.Cond.instanceMethod ({ cls := "MarkField", name := "letter", desc := "(IIZ)I" } : Jvm.MethodName)) ∈ tb := tb_of (List.mem_of_getElem? (i := 768) (by decide +kernel)) rfl
theorem v_769 : (Jvm.Cond.selects "MarkField" ({ cls := "MarkField", name := "letter", desc := "(IIZ)I" } : Jvm.MethodName) ({ cls := "MarkField", name := "letter", desc := "(IIZ)I" } : Jvm.MethodName)) ∈ tb := tb_of (List.mem_of_getElem? (i := 769) (by decide +kernel)) rfl
theorem v_770 : (Jvm.Cond.code ({ cls := "MarkField", name := "letter", desc := "(IIZ)I" } : Jvm.MethodName) prog_1_method_7_code (5 : Nat) (Option.some Jvm.ClassFile.FieldType.int)) ∈ tb := tb_of (List.mem_of_getElem? (i := 770) (by decide +kernel)) rfl
theorem v_775 : (Jvm.Cond.methodLink "MarkFieldLaw" (28 : Nat) ({ cls := "MarkField", name := "used", desc := "(III)I" } : Jvm.MethodName)) ∈ tb := tb_of (List.mem_of_getElem? (i := 775) (by decide +kernel)) rfl
theorem v_776 : (Jvm.Cond.instanceMethod ({ cls := "MarkField", name := "used", desc := "(III)I" } : Jvm.MethodName)) ∈ tb := tb_of (List.mem_of_getElem? (i := 776) (by decide +kernel)) rfl
theorem v_777 : (Jvm.Cond.selects "MarkField" ({ cls := "MarkField", name := "used", desc := "(III)I" } : Jvm.MethodName) ({ cls := "MarkField", name := "used", desc := "(III)I" } : Jvm.MethodName)) ∈ tb := tb_of (List.mem_of_getElem? (i := 777) (by decide +kernel)) rfl
theorem v_778 : (Jvm.Cond.code ({ cls := "MarkField", name := "used", desc := "(III)I" } : Jvm.MethodName) prog_1_method_8_code (4 : Nat) (Option.some Jvm.ClassFile.FieldType.int)) ∈ tb := tb_of (List.mem_of_getElem? (i := 778) (by decide +kernel)) rfl
theorem v_788 : (Jvm.Cond.methodLink "MarkFieldLaw" (32 : Nat) ({ cls := "MarkField", name := "two", desc := "(III)I" } : Jvm.MethodName)) ∈ tb := tb_of (List.mem_of_getElem? (i := 788) (by decide +kernel)) rfl
theorem v_789 : (Jvm.Cond.instanceMethod ({ cls := "MarkField", name := "two", desc := "(III)I" } : Jvm.MethodName)) ∈ tb := tb_of (List.mem_of_getElem? (i := 789) (by decide +kernel)) rfl
theorem v_790 : (Jvm.Cond.selects "MarkField" ({ cls := "MarkField", name := "two", desc := "(III)I" } : Jvm.MethodName) ({ cls := "MarkField", name := "two", desc := "(III)I" } : Jvm.MethodName)) ∈ tb := tb_of (List.mem_of_getElem? (i := 790) (by decide +kernel)) rfl
theorem v_791 : (Jvm.Cond.code ({ cls := "MarkField", name := "two", desc := "(III)I" } : Jvm.MethodName) prog_1_method_9_code (5 : Nat) (Option.some Jvm.ClassFile.FieldType.int)) ∈ tb := tb_of (List.mem_of_getElem? (i := 791) (by decide +kernel)) rfl
theorem v_803 : (Jvm.Cond.methodLink "MarkFieldLaw" (35 : Nat) ({ cls := "MarkField", name := "steps", desc := "(II)I" } : Jvm.MethodName)) ∈ tb := tb_of (List.mem_of_getElem? (i := 803) (by decide +kernel)) rfl
theorem v_804 : (Jvm.Cond.instanceMethod ({ cls := "MarkField", name := "steps", desc := "(II)I" } : Jvm.MethodName)) ∈ tb := tb_of (List.mem_of_getElem? (i := 804) (by decide +kernel)) rfl
theorem v_805 : (Jvm.Cond.selects "MarkField" ({ cls := "MarkField", name := "steps", desc := "(II)I" } : Jvm.MethodName) ({ cls := "MarkField", name := "steps", desc := "(II)I" } : Jvm.MethodName)) ∈ tb := tb_of (List.mem_of_getElem? (i := 805) (by decide +kernel)) rfl
theorem v_806 : (Jvm.Cond.code ({ cls := "MarkField", name := "steps", desc := "(II)I" } : Jvm.MethodName) prog_1_method_10_code (3 : Nat) (Option.some Jvm.ClassFile.FieldType.int)) ∈ tb := tb_of (List.mem_of_getElem? (i := 806) (by decide +kernel)) rfl
theorem v_813 : (Jvm.Cond.methodLink "MarkFieldLaw" (38 : Nat) ({ cls := "MarkField", name := "here", desc := "(IIII)I" } : Jvm.MethodName)) ∈ tb := tb_of (List.mem_of_getElem? (i := 813) (by decide +kernel)) rfl
theorem v_814 : (Jvm.Cond.instanceMethod ({ cls := "MarkField", name := "here", desc := "(IIII)I" } : Jvm.MethodName)) ∈ tb := tb_of (List.mem_of_getElem? (i := 814) (by decide +kernel)) rfl
theorem v_815 : (Jvm.Cond.selects "MarkField" ({ cls := "MarkField", name := "here", desc := "(IIII)I" } : Jvm.MethodName) ({ cls := "MarkField", name := "here", desc := "(IIII)I" } : Jvm.MethodName)) ∈ tb := tb_of (List.mem_of_getElem? (i := 815) (by decide +kernel)) rfl
theorem v_816 : (Jvm.Cond.code ({ cls := "MarkField", name := "here", desc := "(IIII)I" } : Jvm.MethodName) prog_1_method_11_code (6 : Nat) (Option.some Jvm.ClassFile.FieldType.int)) ∈ tb := tb_of (List.mem_of_getElem? (i := 816) (by decide +kernel)) rfl
theorem v_865 : (Jvm.Cond.methodLink "MarkFieldLaw" (42 : Nat) ({ cls := "MarkField", name := "halves", desc := "(III)I" } : Jvm.MethodName)) ∈ tb := tb_of (List.mem_of_getElem? (i := 865) (by decide +kernel)) rfl
theorem v_866 : (Jvm.Cond.instanceMethod ({ cls := "MarkField", name := "halves", desc := "(III)I" } : Jvm.MethodName)) ∈ tb := tb_of (List.mem_of_getElem? (i := 866) (by decide +kernel)) rfl
theorem v_867 : (Jvm.Cond.selects "MarkField" ({ cls := "MarkField", name := "halves", desc := "(III)I" } : Jvm.MethodName) ({ cls := "MarkField", name := "halves", desc := "(III)I" } : Jvm.MethodName)) ∈ tb := tb_of (List.mem_of_getElem? (i := 867) (by decide +kernel)) rfl
theorem v_868 : (Jvm.Cond.code ({ cls := "MarkField", name := "halves", desc := "(III)I" } : Jvm.MethodName) prog_1_method_12_code (5 : Nat) (Option.some Jvm.ClassFile.FieldType.int)) ∈ tb := tb_of (List.mem_of_getElem? (i := 868) (by decide +kernel)) rfl
theorem v_887 : (Jvm.Cond.methodLink "MarkFieldLaw" (45 : Nat) ({ cls := "MarkField", name := "holders", desc := "(II)I" } : Jvm.MethodName)) ∈ tb := tb_of (List.mem_of_getElem? (i := 887) (by decide +kernel)) rfl
theorem v_888 : (Jvm.Cond.instanceMethod ({ cls := "MarkField", name := "holders", desc := "(II)I" } : Jvm.MethodName)) ∈ tb := tb_of (List.mem_of_getElem? (i := 888) (by decide +kernel)) rfl
theorem v_889 : (Jvm.Cond.selects "MarkField" ({ cls := "MarkField", name := "holders", desc := "(II)I" } : Jvm.MethodName) ({ cls := "MarkField", name := "holders", desc := "(II)I" } : Jvm.MethodName)) ∈ tb := tb_of (List.mem_of_getElem? (i := 889) (by decide +kernel)) rfl
theorem v_890 : (Jvm.Cond.code ({ cls := "MarkField", name := "holders", desc := "(II)I" } : Jvm.MethodName) prog_1_method_13_code (3 : Nat) (Option.some Jvm.ClassFile.FieldType.int)) ∈ tb := tb_of (List.mem_of_getElem? (i := 890) (by decide +kernel)) rfl
theorem v_898 : (Jvm.Cond.methodLink "MarkFieldLaw" (48 : Nat) ({ cls := "MarkField", name := "shared", desc := "(I)I" } : Jvm.MethodName)) ∈ tb := tb_of (List.mem_of_getElem? (i := 898) (by decide +kernel)) rfl
theorem v_899 : (Jvm.Cond.instanceMethod ({ cls := "MarkField", name := "shared", desc := "(I)I" } : Jvm.MethodName)) ∈ tb := tb_of (List.mem_of_getElem? (i := 899) (by decide +kernel)) rfl
theorem v_900 : (Jvm.Cond.selects "MarkField" ({ cls := "MarkField", name := "shared", desc := "(I)I" } : Jvm.MethodName) ({ cls := "MarkField", name := "shared", desc := "(I)I" } : Jvm.MethodName)) ∈ tb := tb_of (List.mem_of_getElem? (i := 900) (by decide +kernel)) rfl
theorem v_901 : (Jvm.Cond.code ({ cls := "MarkField", name := "shared", desc := "(I)I" } : Jvm.MethodName) prog_1_method_14_code (5 : Nat) (Option.some Jvm.ClassFile.FieldType.int)) ∈ tb := tb_of (List.mem_of_getElem? (i := 901) (by decide +kernel)) rfl
theorem v_913 : (Jvm.Cond.methodLink "MarkFieldLaw" (51 : Nat) ({ cls := "MarkField", name := "refused", desc := "(II)I" } : Jvm.MethodName)) ∈ tb := tb_of (List.mem_of_getElem? (i := 913) (by decide +kernel)) rfl
theorem v_914 : (Jvm.Cond.instanceMethod ({ cls := "MarkField", name := "refused", desc := "(II)I" } : Jvm.MethodName)) ∈ tb := tb_of (List.mem_of_getElem? (i := 914) (by decide +kernel)) rfl
theorem v_915 : (Jvm.Cond.selects "MarkField" ({ cls := "MarkField", name := "refused", desc := "(II)I" } : Jvm.MethodName) ({ cls := "MarkField", name := "refused", desc := "(II)I" } : Jvm.MethodName)) ∈ tb := tb_of (List.mem_of_getElem? (i := 915) (by decide +kernel)) rfl
theorem v_916 : (Jvm.Cond.code ({ cls := "MarkField", name := "refused", desc := "(II)I" } : Jvm.MethodName) prog_1_method_15_code (6 : Nat) (Option.some Jvm.ClassFile.FieldType.int)) ∈ tb := tb_of (List.mem_of_getElem? (i := 916) (by decide +kernel)) rfl
theorem v_920 : (Jvm.Cond.methodLink "MarkFieldLaw" (54 : Nat) ({ cls := "MarkField", name := "firstDay", desc := "(II)I" } : Jvm.MethodName)) ∈ tb := tb_of (List.mem_of_getElem? (i := 920) (by decide +kernel)) rfl
theorem v_921 : (Jvm.Cond.instanceMethod ({ cls := "MarkField", name := "firstDay", desc := "(II)I" } : Jvm.MethodName)) ∈ tb := tb_of (List.mem_of_getElem? (i := 921) (by decide +kernel)) rfl
theorem v_922 : (Jvm.Cond.selects "MarkField" ({ cls := "MarkField", name := "firstDay", desc := "(II)I" } : Jvm.MethodName) ({ cls := "MarkField", name := "firstDay", desc := "(II)I" } : Jvm.MethodName)) ∈ tb := tb_of (List.mem_of_getElem? (i := 922) (by decide +kernel)) rfl
theorem v_923 : (Jvm.Cond.code ({ cls := "MarkField", name := "firstDay", desc := "(II)I" } : Jvm.MethodName) prog_1_method_16_code (7 : Nat) (Option.some Jvm.ClassFile.FieldType.int)) ∈ tb := tb_of (List.mem_of_getElem? (i := 923) (by decide +kernel)) rfl
theorem v_934 : (Jvm.Cond.methodLink "MarkFieldLaw" (57 : Nat) ({ cls := "MarkField", name := "would", desc := "(IIII)I" } : Jvm.MethodName)) ∈ tb := tb_of (List.mem_of_getElem? (i := 934) (by decide +kernel)) rfl
theorem v_935 : (Jvm.Cond.instanceMethod ({ cls := "MarkField", name := "would", desc := "(IIII)I" } : Jvm.MethodName)) ∈ tb := tb_of (List.mem_of_getElem? (i := 935) (by decide +kernel)) rfl
theorem v_936 : (Jvm.Cond.selects "MarkField" ({ cls := "MarkField", name := "would", desc := "(IIII)I" } : Jvm.MethodName) ({ cls := "MarkField", name := "would", desc := "(IIII)I" } : Jvm.MethodName)) ∈ tb := tb_of (List.mem_of_getElem? (i := 936) (by decide +kernel)) rfl
theorem v_937 : (Jvm.Cond.code ({ cls := "MarkField", name := "would", desc := "(IIII)I" } : Jvm.MethodName) prog_1_method_17_code (6 : Nat) (Option.some Jvm.ClassFile.FieldType.int)) ∈ tb := tb_of (List.mem_of_getElem? (i := 937) (by decide +kernel)) rfl
theorem v_968 : (Jvm.Cond.methodLink "MarkFieldLaw" (60 : Nat) ({ cls := "MarkField", name := "free", desc := "(II)I" } : Jvm.MethodName)) ∈ tb := tb_of (List.mem_of_getElem? (i := 968) (by decide +kernel)) rfl
theorem v_969 : (Jvm.Cond.instanceMethod ({ cls := "MarkField", name := "free", desc := "(II)I" } : Jvm.MethodName)) ∈ tb := tb_of (List.mem_of_getElem? (i := 969) (by decide +kernel)) rfl
theorem v_970 : (Jvm.Cond.selects "MarkField" ({ cls := "MarkField", name := "free", desc := "(II)I" } : Jvm.MethodName) ({ cls := "MarkField", name := "free", desc := "(II)I" } : Jvm.MethodName)) ∈ tb := tb_of (List.mem_of_getElem? (i := 970) (by decide +kernel)) rfl
theorem v_971 : (Jvm.Cond.code ({ cls := "MarkField", name := "free", desc := "(II)I" } : Jvm.MethodName) prog_1_method_18_code (6 : Nat) (Option.some Jvm.ClassFile.FieldType.int)) ∈ tb := tb_of (List.mem_of_getElem? (i := 971) (by decide +kernel)) rfl
theorem v_989 : (Jvm.Cond.methodLink "MarkFieldLaw" (63 : Nat) ({ cls := "MarkField", name := "letterFor", desc := "(II)I" } : Jvm.MethodName)) ∈ tb := tb_of (List.mem_of_getElem? (i := 989) (by decide +kernel)) rfl
theorem v_990 : (Jvm.Cond.instanceMethod ({ cls := "MarkField", name := "letterFor", desc := "(II)I" } : Jvm.MethodName)) ∈ tb := tb_of (List.mem_of_getElem? (i := 990) (by decide +kernel)) rfl
theorem v_991 : (Jvm.Cond.selects "MarkField" ({ cls := "MarkField", name := "letterFor", desc := "(II)I" } : Jvm.MethodName) ({ cls := "MarkField", name := "letterFor", desc := "(II)I" } : Jvm.MethodName)) ∈ tb := tb_of (List.mem_of_getElem? (i := 991) (by decide +kernel)) rfl
theorem v_992 : (Jvm.Cond.code ({ cls := "MarkField", name := "letterFor", desc := "(II)I" } : Jvm.MethodName) prog_1_method_19_code (6 : Nat) (Option.some Jvm.ClassFile.FieldType.int)) ∈ tb := tb_of (List.mem_of_getElem? (i := 992) (by decide +kernel)) rfl
theorem v_1010 : (Jvm.Cond.methodLink "MarkFieldLaw" (66 : Nat) ({ cls := "MarkField", name := "group", desc := "(I)I" } : Jvm.MethodName)) ∈ tb := tb_of (List.mem_of_getElem? (i := 1010) (by decide +kernel)) rfl
theorem v_1011 : (Jvm.Cond.instanceMethod ({ cls := "MarkField", name := "group", desc := "(I)I" } : Jvm.MethodName)) ∈ tb := tb_of (List.mem_of_getElem? (i := 1011) (by decide +kernel)) rfl
theorem v_1012 : (Jvm.Cond.selects "MarkField" ({ cls := "MarkField", name := "group", desc := "(I)I" } : Jvm.MethodName) ({ cls := "MarkField", name := "group", desc := "(I)I" } : Jvm.MethodName)) ∈ tb := tb_of (List.mem_of_getElem? (i := 1012) (by decide +kernel)) rfl
theorem v_1013 : (Jvm.Cond.code ({ cls := "MarkField", name := "group", desc := "(I)I" } : Jvm.MethodName) prog_1_method_20_code (2 : Nat) (Option.some Jvm.ClassFile.FieldType.int)) ∈ tb := tb_of (List.mem_of_getElem? (i := 1013) (by decide +kernel)) rfl
theorem v_1017 : (Jvm.Cond.methodLink "MarkFieldLaw" (69 : Nat) ({ cls := "MarkField", name := "ranked", desc := "(III)I" } : Jvm.MethodName)) ∈ tb := tb_of (List.mem_of_getElem? (i := 1017) (by decide +kernel)) rfl
theorem v_1018 : (Jvm.Cond.instanceMethod ({ cls := "MarkField", name := "ranked", desc := "(III)I" } : Jvm.MethodName)) ∈ tb := tb_of (List.mem_of_getElem? (i := 1018) (by decide +kernel)) rfl
theorem v_1019 : (Jvm.Cond.selects "MarkField" ({ cls := "MarkField", name := "ranked", desc := "(III)I" } : Jvm.MethodName) ({ cls := "MarkField", name := "ranked", desc := "(III)I" } : Jvm.MethodName)) ∈ tb := tb_of (List.mem_of_getElem? (i := 1019) (by decide +kernel)) rfl
theorem v_1020 : (Jvm.Cond.code ({ cls := "MarkField", name := "ranked", desc := "(III)I" } : Jvm.MethodName) prog_1_method_21_code (4 : Nat) (Option.some Jvm.ClassFile.FieldType.int)) ∈ tb := tb_of (List.mem_of_getElem? (i := 1020) (by decide +kernel)) rfl
theorem v_1026 : (Jvm.Cond.methodLink "MarkFieldLaw" (72 : Nat) ({ cls := "MarkField", name := "file", desc := "(III)I" } : Jvm.MethodName)) ∈ tb := tb_of (List.mem_of_getElem? (i := 1026) (by decide +kernel)) rfl
theorem v_1027 : (Jvm.Cond.instanceMethod ({ cls := "MarkField", name := "file", desc := "(III)I" } : Jvm.MethodName)) ∈ tb := tb_of (List.mem_of_getElem? (i := 1027) (by decide +kernel)) rfl
theorem v_1028 : (Jvm.Cond.selects "MarkField" ({ cls := "MarkField", name := "file", desc := "(III)I" } : Jvm.MethodName) ({ cls := "MarkField", name := "file", desc := "(III)I" } : Jvm.MethodName)) ∈ tb := tb_of (List.mem_of_getElem? (i := 1028) (by decide +kernel)) rfl
theorem v_1029 : (Jvm.Cond.code ({ cls := "MarkField", name := "file", desc := "(III)I" } : Jvm.MethodName) prog_1_method_22_code (5 : Nat) (Option.some Jvm.ClassFile.FieldType.int)) ∈ tb := tb_of (List.mem_of_getElem? (i := 1029) (by decide +kernel)) rfl
theorem v_1039 : (Jvm.Cond.methodLink "MarkFieldLaw" (75 : Nat) ({ cls := "MarkField", name := "use", desc := "(IIII)I" } : Jvm.MethodName)) ∈ tb := tb_of (List.mem_of_getElem? (i := 1039) (by decide +kernel)) rfl
theorem v_1040 : (Jvm.Cond.instanceMethod ({ cls := "MarkField", name := "use", desc := "(IIII)I" } : Jvm.MethodName)) ∈ tb := tb_of (List.mem_of_getElem? (i := 1040) (by decide +kernel)) rfl
theorem v_1041 : (Jvm.Cond.selects "MarkField" ({ cls := "MarkField", name := "use", desc := "(IIII)I" } : Jvm.MethodName) ({ cls := "MarkField", name := "use", desc := "(IIII)I" } : Jvm.MethodName)) ∈ tb := tb_of (List.mem_of_getElem? (i := 1041) (by decide +kernel)) rfl
theorem v_1042 : (Jvm.Cond.code ({ cls := "MarkField", name := "use", desc := "(IIII)I" } : Jvm.MethodName) prog_1_method_23_code (5 : Nat) (Option.some Jvm.ClassFile.FieldType.int)) ∈ tb := tb_of (List.mem_of_getElem? (i := 1042) (by decide +kernel)) rfl
theorem v_1048 : (Jvm.Cond.methodLink "MarkFieldLaw" (78 : Nat) ({ cls := "MarkField", name := "consent", desc := "(IIZ)Z" } : Jvm.MethodName)) ∈ tb := tb_of (List.mem_of_getElem? (i := 1048) (by decide +kernel)) rfl
theorem v_1049 : (Jvm.Cond.instanceMethod ({ cls := "MarkField", name := "consent", desc := "(IIZ)Z" } : Jvm.MethodName)) ∈ tb := tb_of (List.mem_of_getElem? (i := 1049) (by decide +kernel)) rfl
theorem v_1050 : (Jvm.Cond.selects "MarkField" ({ cls := "MarkField", name := "consent", desc := "(IIZ)Z" } : Jvm.MethodName) ({ cls := "MarkField", name := "consent", desc := "(IIZ)Z" } : Jvm.MethodName)) ∈ tb := tb_of (List.mem_of_getElem? (i := 1050) (by decide +kernel)) rfl
theorem v_1051 : (Jvm.Cond.code ({ cls := "MarkField", name := "consent", desc := "(IIZ)Z" } : Jvm.MethodName) prog_1_method_24_code (4 : Nat) (Option.some Jvm.ClassFile.FieldType.boolean)) ∈ tb := tb_of (List.mem_of_getElem? (i := 1051) (by decide +kernel)) rfl
theorem v_1056 : (Jvm.Cond.methodLink "MarkFieldLaw" (82 : Nat) ({ cls := "MarkField", name := "drop", desc := "(I)I" } : Jvm.MethodName)) ∈ tb := tb_of (List.mem_of_getElem? (i := 1056) (by decide +kernel)) rfl
theorem v_1057 : (Jvm.Cond.instanceMethod ({ cls := "MarkField", name := "drop", desc := "(I)I" } : Jvm.MethodName)) ∈ tb := tb_of (List.mem_of_getElem? (i := 1057) (by decide +kernel)) rfl
theorem v_1058 : (Jvm.Cond.selects "MarkField" ({ cls := "MarkField", name := "drop", desc := "(I)I" } : Jvm.MethodName) ({ cls := "MarkField", name := "drop", desc := "(I)I" } : Jvm.MethodName)) ∈ tb := tb_of (List.mem_of_getElem? (i := 1058) (by decide +kernel)) rfl
theorem v_1059 : (Jvm.Cond.code ({ cls := "MarkField", name := "drop", desc := "(I)I" } : Jvm.MethodName) prog_1_method_25_code (2 : Nat) (Option.some Jvm.ClassFile.FieldType.int)) ∈ tb := tb_of (List.mem_of_getElem? (i := 1059) (by decide +kernel)) rfl
theorem v_1070 : (Jvm.Cond.methodLink "MarkFieldLaw" (85 : Nat) ({ cls := "MarkField", name := "rule", desc := "(II)I" } : Jvm.MethodName)) ∈ tb := tb_of (List.mem_of_getElem? (i := 1070) (by decide +kernel)) rfl
theorem v_1071 : (Jvm.Cond.instanceMethod ({ cls := "MarkField", name := "rule", desc := "(II)I" } : Jvm.MethodName)) ∈ tb := tb_of (List.mem_of_getElem? (i := 1071) (by decide +kernel)) rfl
theorem v_1072 : (Jvm.Cond.selects "MarkField" ({ cls := "MarkField", name := "rule", desc := "(II)I" } : Jvm.MethodName) ({ cls := "MarkField", name := "rule", desc := "(II)I" } : Jvm.MethodName)) ∈ tb := tb_of (List.mem_of_getElem? (i := 1072) (by decide +kernel)) rfl
theorem v_1073 : (Jvm.Cond.code ({ cls := "MarkField", name := "rule", desc := "(II)I" } : Jvm.MethodName) prog_1_method_26_code (4 : Nat) (Option.some Jvm.ClassFile.FieldType.int)) ∈ tb := tb_of (List.mem_of_getElem? (i := 1073) (by decide +kernel)) rfl
theorem v_1080 : (Jvm.Cond.methodLink "MarkFieldLaw" (88 : Nat) ({ cls := "MarkField", name := "near", desc := "(IIZ)Z" } : Jvm.MethodName)) ∈ tb := tb_of (List.mem_of_getElem? (i := 1080) (by decide +kernel)) rfl
theorem v_1081 : (Jvm.Cond.instanceMethod ({ cls := "MarkField", name := "near", desc := "(IIZ)Z" } : Jvm.MethodName)) ∈ tb := tb_of (List.mem_of_getElem? (i := 1081) (by decide +kernel)) rfl
theorem v_1082 : (Jvm.Cond.selects "MarkField" ({ cls := "MarkField", name := "near", desc := "(IIZ)Z" } : Jvm.MethodName) ({ cls := "MarkField", name := "near", desc := "(IIZ)Z" } : Jvm.MethodName)) ∈ tb := tb_of (List.mem_of_getElem? (i := 1082) (by decide +kernel)) rfl
theorem v_1083 : (Jvm.Cond.code ({ cls := "MarkField", name := "near", desc := "(IIZ)Z" } : Jvm.MethodName) prog_1_method_27_code (4 : Nat) (Option.some Jvm.ClassFile.FieldType.boolean)) ∈ tb := tb_of (List.mem_of_getElem? (i := 1083) (by decide +kernel)) rfl
theorem v_1087 : (Jvm.Cond.methodLink "MarkFieldLaw" (91 : Nat) ({ cls := "MarkField", name := "ask", desc := "(II)I" } : Jvm.MethodName)) ∈ tb := tb_of (List.mem_of_getElem? (i := 1087) (by decide +kernel)) rfl
theorem v_1088 : (Jvm.Cond.instanceMethod ({ cls := "MarkField", name := "ask", desc := "(II)I" } : Jvm.MethodName)) ∈ tb := tb_of (List.mem_of_getElem? (i := 1088) (by decide +kernel)) rfl
theorem v_1089 : (Jvm.Cond.selects "MarkField" ({ cls := "MarkField", name := "ask", desc := "(II)I" } : Jvm.MethodName) ({ cls := "MarkField", name := "ask", desc := "(II)I" } : Jvm.MethodName)) ∈ tb := tb_of (List.mem_of_getElem? (i := 1089) (by decide +kernel)) rfl
theorem v_1090 : (Jvm.Cond.code ({ cls := "MarkField", name := "ask", desc := "(II)I" } : Jvm.MethodName) prog_1_method_31_code (4 : Nat) (Option.some Jvm.ClassFile.FieldType.int)) ∈ tb := tb_of (List.mem_of_getElem? (i := 1090) (by decide +kernel)) rfl
/-! ===== the law's methods with handlers ===== -/
theorem mv_L7_register : MV yX7_register cX7_register 3 (some .int) 1 := ⟨⟨v_378, v_1, by decide, by decide, by decide +kernel⟩, v_376, v_377⟩
theorem kL_register {l : Launch} {E : Ev} {P : Nat → Prop} {sd : Nat → Nat → Nat} {G : GH} {p0 : Int32 → GH → Prop} {px : Nat → GH → Prop} {post : Int32 → GH → Prop} {x1 : Int32} (hPP : ∀ o, stt o = true → P o) (hM : CtX l yX7_register cX7_register 3 (some .int) 11 1 6 E P sd G [.ref (sd 0 0), .int x1] (pI p0) px) (h0 : ∀ r G1, p0 r G1 → post 0 (gs G1 25 1 (upd (G1 25 1) 0 r))) (hx : ∀ i G1, i < 2 → px i G1 → i = 1 ∧ post 1 G1) : CtW l yL_register cL_register 4 [(0, 9, 12, 13)] 12 1 6 E P sd G [.ref (sd 0 0), .int x1, .ref (sd 25 1)] (pI post) := by
  refine ctw_of (own := "MarkFieldLaw") (by decide) rfl (Nat.le_of_ble_eq_true rfl) hPP (fun X F T el eP es et => ?_)
  subst el
  subst eP
  subst es
  change AW E X 4 0 [(0, .ref (sdX X 0 0)), (1, .int x1), (2, .ref (sdX X 25 1))] [] G 0 0
  refine aw_al_n F 2 dL_register_0 rfl rfl ?_
  refine aw_ic F dL_register_1 (v := (0 : Int32)) (by decide) ?_
  refine aw_al_n F 0 dL_register_2 rfl rfl ?_
  refine aw_il_n F 1 dL_register_3 rfl rfl ?_
  refine aw_cVC F T.room (o := 0) (c := 7) [.int x1] hM mv_L7_register v_375 cf7 (lo_s rfl) (hPP 0 rfl) rfl (by decide) rfl rfl (Nat.le_of_ble_eq_true rfl) ⟨(Nat.le_of_ble_eq_true rfl), (Nat.le_of_ble_eq_true rfl)⟩ ⟨(Nat.le_of_ble_eq_true rfl), (Nat.le_of_ble_eq_true rfl)⟩ dL_register_4 (fun i G1 hi hq => ?_) (fun v G1 hv => ?_)
  · obtain ⟨rfl, hp⟩ := hx i G1 hi hq
    refine ⟨[], ⟨0, 9, 12, 13⟩, [], by rw [et]; rfl, fun z hz => absurd hz List.not_mem_nil, by decide, by decide, v_374, fun q => ?_⟩
    refine aw_as_n F dL_register_12 rfl (by decide) rfl ?_
    refine aw_ic F dL_register_13 (v := (1 : Int32)) (by decide) ?_
    exact aw_iret F T (Nat.le_of_ble_eq_true rfl) (Nat.le_of_ble_eq_true rfl) ⟨1, rfl, hp⟩ dL_register_14
  · obtain ⟨r, rfl, hr⟩ := hv
    refine aw_i2l F dL_register_7 ?_
    refine aw_last F (r := r) (hPP 25 rfl) (by unfold vp_in; decide) dL_register_8 ?_
    refine aw_go F (tgt := 15) dL_register_9 (by decide) ?_
    refine aw_ic F dL_register_15 (v := (0 : Int32)) (by decide) ?_
    exact aw_iret F T (Nat.le_of_ble_eq_true rfl) (Nat.le_of_ble_eq_true rfl) ⟨0, rfl, h0 r G1 hr⟩ dL_register_16
theorem mv_L7_count : MV yX7_count cX7_count 2 (some .int) 1 := ⟨⟨v_624, v_1, by decide, by decide, by decide +kernel⟩, v_622, v_623⟩
theorem kL_count {l : Launch} {E : Ev} {P : Nat → Prop} {sd : Nat → Nat → Nat} {G : GH} {p0 : Int32 → GH → Prop} {px : Nat → GH → Prop} {post : Int32 → GH → Prop} {x1 : Int32} (hPP : ∀ o, stt o = true → P o) (hM : CtX l yX7_count cX7_count 2 (some .int) 6 1 6 E P sd G [.ref (sd 0 0), .int x1] (pI p0) px) (h0 : ∀ r G1, p0 r G1 → post 0 (gs G1 25 1 (upd (G1 25 1) 0 r))) (hx : ∀ i G1, i < 2 → px i G1 → i = 0 ∧ post 1 G1) : CtW l yL_count cL_count 4 [(0, 9, 12, 18)] 7 1 6 E P sd G [.ref (sd 0 0), .int x1, .ref (sd 25 1)] (pI post) := by
  refine ctw_of (own := "MarkFieldLaw") (by decide) rfl (Nat.le_of_ble_eq_true rfl) hPP (fun X F T el eP es et => ?_)
  subst el
  subst eP
  subst es
  change AW E X 4 0 [(0, .ref (sdX X 0 0)), (1, .int x1), (2, .ref (sdX X 25 1))] [] G 0 0
  refine aw_al_n F 2 dL_count_0 rfl rfl ?_
  refine aw_ic F dL_count_1 (v := (0 : Int32)) (by decide) ?_
  refine aw_al_n F 0 dL_count_2 rfl rfl ?_
  refine aw_il_n F 1 dL_count_3 rfl rfl ?_
  refine aw_cVC F T.room (o := 0) (c := 7) [.int x1] hM mv_L7_count v_621 cf7 (lo_s rfl) (hPP 0 rfl) rfl (by decide) rfl rfl (Nat.le_of_ble_eq_true rfl) ⟨(Nat.le_of_ble_eq_true rfl), (Nat.le_of_ble_eq_true rfl)⟩ ⟨(Nat.le_of_ble_eq_true rfl), (Nat.le_of_ble_eq_true rfl)⟩ dL_count_4 (fun i G1 hi hq => ?_) (fun v G1 hv => ?_)
  · obtain ⟨rfl, hp⟩ := hx i G1 hi hq
    refine ⟨[], ⟨0, 9, 12, 18⟩, [], by rw [et]; rfl, fun z hz => absurd hz List.not_mem_nil, by decide, by decide, v_620, fun q => ?_⟩
    refine aw_as_n F dL_count_12 rfl (by decide) rfl ?_
    refine aw_ic F dL_count_13 (v := (1 : Int32)) (by decide) ?_
    exact aw_iret F T (Nat.le_of_ble_eq_true rfl) (Nat.le_of_ble_eq_true rfl) ⟨1, rfl, hp⟩ dL_count_14
  · obtain ⟨r, rfl, hr⟩ := hv
    refine aw_i2l F dL_count_7 ?_
    refine aw_last F (r := r) (hPP 25 rfl) (by unfold vp_in; decide) dL_count_8 ?_
    refine aw_go F (tgt := 15) dL_count_9 (by decide) ?_
    refine aw_ic F dL_count_15 (v := (0 : Int32)) (by decide) ?_
    exact aw_iret F T (Nat.le_of_ble_eq_true rfl) (Nat.le_of_ble_eq_true rfl) ⟨0, rfl, h0 r G1 hr⟩ dL_count_16
theorem mv_L7_mark : MV yX7_mark cX7_mark 3 (some .int) 2 := ⟨⟨v_751, v_1, by decide, by decide, by decide +kernel⟩, v_749, v_750⟩
theorem kL_mark {l : Launch} {E : Ev} {P : Nat → Prop} {sd : Nat → Nat → Nat} {G : GH} {p0 : Int32 → GH → Prop} {px : Nat → GH → Prop} {post : Int32 → GH → Prop} {x1 x2 : Int32} (hPP : ∀ o, stt o = true → P o) (hM : CtX l yX7_mark cX7_mark 3 (some .int) 7 2 12 E P sd G [.ref (sd 0 0), .int x1, .int x2] (pI p0) px) (h0 : ∀ r G1, p0 r G1 → post 0 (gs G1 25 1 (upd (G1 25 1) 0 r))) (hx : ∀ i G1, i < 2 → px i G1 → i = 0 ∧ post 1 G1) : CtW l yL_mark cL_mark 5 [(0, 10, 13, 18)] 8 2 12 E P sd G [.ref (sd 0 0), .int x1, .int x2, .ref (sd 25 1)] (pI post) := by
  refine ctw_of (own := "MarkFieldLaw") (by decide) rfl (Nat.le_of_ble_eq_true rfl) hPP (fun X F T el eP es et => ?_)
  subst el
  subst eP
  subst es
  change AW E X 5 0 [(0, .ref (sdX X 0 0)), (1, .int x1), (2, .int x2), (3, .ref (sdX X 25 1))] [] G 0 0
  refine aw_al_n F 3 dL_mark_0 rfl rfl ?_
  refine aw_ic F dL_mark_1 (v := (0 : Int32)) (by decide) ?_
  refine aw_al_n F 0 dL_mark_2 rfl rfl ?_
  refine aw_il_n F 1 dL_mark_3 rfl rfl ?_
  refine aw_il_n F 2 dL_mark_4 rfl rfl ?_
  refine aw_cVC F T.room (o := 0) (c := 7) [.int x1, .int x2] hM mv_L7_mark v_748 cf7 (lo_s rfl) (hPP 0 rfl) rfl (by decide) rfl rfl (Nat.le_of_ble_eq_true rfl) ⟨(Nat.le_of_ble_eq_true rfl), (Nat.le_of_ble_eq_true rfl)⟩ ⟨(Nat.le_of_ble_eq_true rfl), (Nat.le_of_ble_eq_true rfl)⟩ dL_mark_5 (fun i G1 hi hq => ?_) (fun v G1 hv => ?_)
  · obtain ⟨rfl, hp⟩ := hx i G1 hi hq
    refine ⟨[], ⟨0, 10, 13, 18⟩, [], by rw [et]; rfl, fun z hz => absurd hz List.not_mem_nil, by decide, by decide, v_620, fun q => ?_⟩
    refine aw_as F dL_mark_13 (by decide) rfl ?_
    refine aw_ic F dL_mark_15 (v := (1 : Int32)) (by decide) ?_
    exact aw_iret F T (Nat.le_of_ble_eq_true rfl) (Nat.le_of_ble_eq_true rfl) ⟨1, rfl, hp⟩ dL_mark_16
  · obtain ⟨r, rfl, hr⟩ := hv
    refine aw_i2l F dL_mark_8 ?_
    refine aw_last F (r := r) (hPP 25 rfl) (by unfold vp_in; decide) dL_mark_9 ?_
    refine aw_go F (tgt := 17) dL_mark_10 (by decide) ?_
    refine aw_ic F dL_mark_17 (v := (0 : Int32)) (by decide) ?_
    exact aw_iret F T (Nat.le_of_ble_eq_true rfl) (Nat.le_of_ble_eq_true rfl) ⟨0, rfl, h0 r G1 hr⟩ dL_mark_18
theorem mv_L7_letter : MV yX7_letter cX7_letter 5 (some .int) 3 := ⟨⟨v_770, v_1, by decide, by decide, by decide +kernel⟩, v_768, v_769⟩
theorem kL_letter {l : Launch} {E : Ev} {P : Nat → Prop} {sd : Nat → Nat → Nat} {G : GH} {p0 : Int32 → GH → Prop} {px : Nat → GH → Prop} {post : Int32 → GH → Prop} {x1 x2 x3 : Int32} (hPP : ∀ o, stt o = true → P o) (hM : CtX l yX7_letter cX7_letter 5 (some .int) 7 2 12 E P sd G [.ref (sd 0 0), .int x1, .int x2, .int x3] (pI p0) px) (h0 : ∀ r G1, p0 r G1 → post 0 (gs G1 25 1 (upd (G1 25 1) 0 r))) (hx : ∀ i G1, i < 2 → px i G1 → i = 0 ∧ post 1 G1) : CtW l yL_letter cL_letter 6 [(0, 12, 15, 18)] 8 2 12 E P sd G [.ref (sd 0 0), .int x1, .int x2, .int x3, .ref (sd 25 1)] (pI post) := by
  refine ctw_of (own := "MarkFieldLaw") (by decide) rfl (Nat.le_of_ble_eq_true rfl) hPP (fun X F T el eP es et => ?_)
  subst el
  subst eP
  subst es
  change AW E X 6 0 [(0, .ref (sdX X 0 0)), (1, .int x1), (2, .int x2), (3, .int x3), (4, .ref (sdX X 25 1))] [] G 0 0
  refine aw_al F 4 dL_letter_0 rfl ?_
  refine aw_ic F dL_letter_2 (v := (0 : Int32)) (by decide) ?_
  refine aw_al_n F 0 dL_letter_3 rfl rfl ?_
  refine aw_il_n F 1 dL_letter_4 rfl rfl ?_
  refine aw_il_n F 2 dL_letter_5 rfl rfl ?_
  refine aw_il_n F 3 dL_letter_6 rfl rfl ?_
  refine aw_cVC F T.room (o := 0) (c := 7) [.int x1, .int x2, .int x3] hM mv_L7_letter v_767 cf7 (lo_s rfl) (hPP 0 rfl) rfl (by decide) rfl rfl (Nat.le_of_ble_eq_true rfl) ⟨(Nat.le_of_ble_eq_true rfl), (Nat.le_of_ble_eq_true rfl)⟩ ⟨(Nat.le_of_ble_eq_true rfl), (Nat.le_of_ble_eq_true rfl)⟩ dL_letter_7 (fun i G1 hi hq => ?_) (fun v G1 hv => ?_)
  · obtain ⟨rfl, hp⟩ := hx i G1 hi hq
    refine ⟨[], ⟨0, 12, 15, 18⟩, [], by rw [et]; rfl, fun z hz => absurd hz List.not_mem_nil, by decide, by decide, v_620, fun q => ?_⟩
    refine aw_as F dL_letter_15 (by decide) rfl ?_
    refine aw_ic F dL_letter_17 (v := (1 : Int32)) (by decide) ?_
    exact aw_iret F T (Nat.le_of_ble_eq_true rfl) (Nat.le_of_ble_eq_true rfl) ⟨1, rfl, hp⟩ dL_letter_18
  · obtain ⟨r, rfl, hr⟩ := hv
    refine aw_i2l F dL_letter_10 ?_
    refine aw_last F (r := r) (hPP 25 rfl) (by unfold vp_in; decide) dL_letter_11 ?_
    refine aw_go F (tgt := 19) dL_letter_12 (by decide) ?_
    refine aw_ic F dL_letter_19 (v := (0 : Int32)) (by decide) ?_
    exact aw_iret F T (Nat.le_of_ble_eq_true rfl) (Nat.le_of_ble_eq_true rfl) ⟨0, rfl, h0 r G1 hr⟩ dL_letter_20
theorem mv_L7_used : MV yX7_used cX7_used 4 (some .int) 3 := ⟨⟨v_778, v_1, by decide, by decide, by decide +kernel⟩, v_776, v_777⟩
theorem kL_used {l : Launch} {E : Ev} {P : Nat → Prop} {sd : Nat → Nat → Nat} {G : GH} {p0 : Int32 → GH → Prop} {px : Nat → GH → Prop} {post : Int32 → GH → Prop} {x1 x2 x3 : Int32} (hPP : ∀ o, stt o = true → P o) (hM : CtX l yX7_used cX7_used 4 (some .int) 7 2 12 E P sd G [.ref (sd 0 0), .int x1, .int x2, .int x3] (pI p0) px) (h0 : ∀ r G1, p0 r G1 → post 0 (gs G1 25 1 (upd (G1 25 1) 0 r))) (hx : ∀ i G1, i < 2 → px i G1 → i = 0 ∧ post 1 G1) : CtW l yL_used cL_used 6 [(0, 12, 15, 18)] 8 2 12 E P sd G [.ref (sd 0 0), .int x1, .int x2, .int x3, .ref (sd 25 1)] (pI post) := by
  refine ctw_of (own := "MarkFieldLaw") (by decide) rfl (Nat.le_of_ble_eq_true rfl) hPP (fun X F T el eP es et => ?_)
  subst el
  subst eP
  subst es
  change AW E X 6 0 [(0, .ref (sdX X 0 0)), (1, .int x1), (2, .int x2), (3, .int x3), (4, .ref (sdX X 25 1))] [] G 0 0
  refine aw_al F 4 dL_used_0 rfl ?_
  refine aw_ic F dL_used_2 (v := (0 : Int32)) (by decide) ?_
  refine aw_al_n F 0 dL_used_3 rfl rfl ?_
  refine aw_il_n F 1 dL_used_4 rfl rfl ?_
  refine aw_il_n F 2 dL_used_5 rfl rfl ?_
  refine aw_il_n F 3 dL_used_6 rfl rfl ?_
  refine aw_cVC F T.room (o := 0) (c := 7) [.int x1, .int x2, .int x3] hM mv_L7_used v_775 cf7 (lo_s rfl) (hPP 0 rfl) rfl (by decide) rfl rfl (Nat.le_of_ble_eq_true rfl) ⟨(Nat.le_of_ble_eq_true rfl), (Nat.le_of_ble_eq_true rfl)⟩ ⟨(Nat.le_of_ble_eq_true rfl), (Nat.le_of_ble_eq_true rfl)⟩ dL_used_7 (fun i G1 hi hq => ?_) (fun v G1 hv => ?_)
  · obtain ⟨rfl, hp⟩ := hx i G1 hi hq
    refine ⟨[], ⟨0, 12, 15, 18⟩, [], by rw [et]; rfl, fun z hz => absurd hz List.not_mem_nil, by decide, by decide, v_620, fun q => ?_⟩
    refine aw_as F dL_used_15 (by decide) rfl ?_
    refine aw_ic F dL_used_17 (v := (1 : Int32)) (by decide) ?_
    exact aw_iret F T (Nat.le_of_ble_eq_true rfl) (Nat.le_of_ble_eq_true rfl) ⟨1, rfl, hp⟩ dL_used_18
  · obtain ⟨r, rfl, hr⟩ := hv
    refine aw_i2l F dL_used_10 ?_
    refine aw_last F (r := r) (hPP 25 rfl) (by unfold vp_in; decide) dL_used_11 ?_
    refine aw_go F (tgt := 19) dL_used_12 (by decide) ?_
    refine aw_ic F dL_used_19 (v := (0 : Int32)) (by decide) ?_
    exact aw_iret F T (Nat.le_of_ble_eq_true rfl) (Nat.le_of_ble_eq_true rfl) ⟨0, rfl, h0 r G1 hr⟩ dL_used_20
theorem mv_L7_two : MV yX7_two cX7_two 5 (some .int) 3 := ⟨⟨v_791, v_1, by decide, by decide, by decide +kernel⟩, v_789, v_790⟩
theorem kL_two {l : Launch} {E : Ev} {P : Nat → Prop} {sd : Nat → Nat → Nat} {G : GH} {p0 : Int32 → GH → Prop} {px : Nat → GH → Prop} {post : Int32 → GH → Prop} {x1 x2 x3 : Int32} (hPP : ∀ o, stt o = true → P o) (hM : CtX l yX7_two cX7_two 5 (some .int) 7 2 12 E P sd G [.ref (sd 0 0), .int x1, .int x2, .int x3] (pI p0) px) (h0 : ∀ r G1, p0 r G1 → post 0 (gs G1 25 1 (upd (G1 25 1) 0 r))) (hx : ∀ i G1, i < 2 → px i G1 → i = 0 ∧ post 1 G1) : CtW l yL_two cL_two 6 [(0, 12, 15, 18)] 8 2 12 E P sd G [.ref (sd 0 0), .int x1, .int x2, .int x3, .ref (sd 25 1)] (pI post) := by
  refine ctw_of (own := "MarkFieldLaw") (by decide) rfl (Nat.le_of_ble_eq_true rfl) hPP (fun X F T el eP es et => ?_)
  subst el
  subst eP
  subst es
  change AW E X 6 0 [(0, .ref (sdX X 0 0)), (1, .int x1), (2, .int x2), (3, .int x3), (4, .ref (sdX X 25 1))] [] G 0 0
  refine aw_al F 4 dL_two_0 rfl ?_
  refine aw_ic F dL_two_2 (v := (0 : Int32)) (by decide) ?_
  refine aw_al_n F 0 dL_two_3 rfl rfl ?_
  refine aw_il_n F 1 dL_two_4 rfl rfl ?_
  refine aw_il_n F 2 dL_two_5 rfl rfl ?_
  refine aw_il_n F 3 dL_two_6 rfl rfl ?_
  refine aw_cVC F T.room (o := 0) (c := 7) [.int x1, .int x2, .int x3] hM mv_L7_two v_788 cf7 (lo_s rfl) (hPP 0 rfl) rfl (by decide) rfl rfl (Nat.le_of_ble_eq_true rfl) ⟨(Nat.le_of_ble_eq_true rfl), (Nat.le_of_ble_eq_true rfl)⟩ ⟨(Nat.le_of_ble_eq_true rfl), (Nat.le_of_ble_eq_true rfl)⟩ dL_two_7 (fun i G1 hi hq => ?_) (fun v G1 hv => ?_)
  · obtain ⟨rfl, hp⟩ := hx i G1 hi hq
    refine ⟨[], ⟨0, 12, 15, 18⟩, [], by rw [et]; rfl, fun z hz => absurd hz List.not_mem_nil, by decide, by decide, v_620, fun q => ?_⟩
    refine aw_as F dL_two_15 (by decide) rfl ?_
    refine aw_ic F dL_two_17 (v := (1 : Int32)) (by decide) ?_
    exact aw_iret F T (Nat.le_of_ble_eq_true rfl) (Nat.le_of_ble_eq_true rfl) ⟨1, rfl, hp⟩ dL_two_18
  · obtain ⟨r, rfl, hr⟩ := hv
    refine aw_i2l F dL_two_10 ?_
    refine aw_last F (r := r) (hPP 25 rfl) (by unfold vp_in; decide) dL_two_11 ?_
    refine aw_go F (tgt := 19) dL_two_12 (by decide) ?_
    refine aw_ic F dL_two_19 (v := (0 : Int32)) (by decide) ?_
    exact aw_iret F T (Nat.le_of_ble_eq_true rfl) (Nat.le_of_ble_eq_true rfl) ⟨0, rfl, h0 r G1 hr⟩ dL_two_20
theorem mv_L7_steps : MV yX7_steps cX7_steps 3 (some .int) 2 := ⟨⟨v_806, v_1, by decide, by decide, by decide +kernel⟩, v_804, v_805⟩
theorem kL_steps {l : Launch} {E : Ev} {P : Nat → Prop} {sd : Nat → Nat → Nat} {G : GH} {p0 : Int32 → GH → Prop} {px : Nat → GH → Prop} {post : Int32 → GH → Prop} {x1 x2 : Int32} (hPP : ∀ o, stt o = true → P o) (hM : CtX l yX7_steps cX7_steps 3 (some .int) 6 1 6 E P sd G [.ref (sd 0 0), .int x1, .int x2] (pI p0) px) (h0 : ∀ r G1, p0 r G1 → post 0 (gs G1 25 1 (upd (G1 25 1) 0 r))) (hx : ∀ i G1, i < 2 → px i G1 → i = 0 ∧ post 1 G1) : CtW l yL_steps cL_steps 5 [(0, 10, 13, 18)] 7 1 6 E P sd G [.ref (sd 0 0), .int x1, .int x2, .ref (sd 25 1)] (pI post) := by
  refine ctw_of (own := "MarkFieldLaw") (by decide) rfl (Nat.le_of_ble_eq_true rfl) hPP (fun X F T el eP es et => ?_)
  subst el
  subst eP
  subst es
  change AW E X 5 0 [(0, .ref (sdX X 0 0)), (1, .int x1), (2, .int x2), (3, .ref (sdX X 25 1))] [] G 0 0
  refine aw_al_n F 3 dL_steps_0 rfl rfl ?_
  refine aw_ic F dL_steps_1 (v := (0 : Int32)) (by decide) ?_
  refine aw_al_n F 0 dL_steps_2 rfl rfl ?_
  refine aw_il_n F 1 dL_steps_3 rfl rfl ?_
  refine aw_il_n F 2 dL_steps_4 rfl rfl ?_
  refine aw_cVC F T.room (o := 0) (c := 7) [.int x1, .int x2] hM mv_L7_steps v_803 cf7 (lo_s rfl) (hPP 0 rfl) rfl (by decide) rfl rfl (Nat.le_of_ble_eq_true rfl) ⟨(Nat.le_of_ble_eq_true rfl), (Nat.le_of_ble_eq_true rfl)⟩ ⟨(Nat.le_of_ble_eq_true rfl), (Nat.le_of_ble_eq_true rfl)⟩ dL_steps_5 (fun i G1 hi hq => ?_) (fun v G1 hv => ?_)
  · obtain ⟨rfl, hp⟩ := hx i G1 hi hq
    refine ⟨[], ⟨0, 10, 13, 18⟩, [], by rw [et]; rfl, fun z hz => absurd hz List.not_mem_nil, by decide, by decide, v_620, fun q => ?_⟩
    refine aw_as F dL_steps_13 (by decide) rfl ?_
    refine aw_ic F dL_steps_15 (v := (1 : Int32)) (by decide) ?_
    exact aw_iret F T (Nat.le_of_ble_eq_true rfl) (Nat.le_of_ble_eq_true rfl) ⟨1, rfl, hp⟩ dL_steps_16
  · obtain ⟨r, rfl, hr⟩ := hv
    refine aw_i2l F dL_steps_8 ?_
    refine aw_last F (r := r) (hPP 25 rfl) (by unfold vp_in; decide) dL_steps_9 ?_
    refine aw_go F (tgt := 17) dL_steps_10 (by decide) ?_
    refine aw_ic F dL_steps_17 (v := (0 : Int32)) (by decide) ?_
    exact aw_iret F T (Nat.le_of_ble_eq_true rfl) (Nat.le_of_ble_eq_true rfl) ⟨0, rfl, h0 r G1 hr⟩ dL_steps_18
theorem mv_L7_here : MV yX7_here cX7_here 6 (some .int) 4 := ⟨⟨v_816, v_1, by decide, by decide, by decide +kernel⟩, v_814, v_815⟩
theorem kL_here {l : Launch} {E : Ev} {P : Nat → Prop} {sd : Nat → Nat → Nat} {G : GH} {p0 : Int32 → GH → Prop} {px : Nat → GH → Prop} {post : Int32 → GH → Prop} {x1 x2 x3 x4 : Int32} (hPP : ∀ o, stt o = true → P o) (hM : CtX l yX7_here cX7_here 6 (some .int) 7 4 24 E P sd G [.ref (sd 0 0), .int x1, .int x2, .int x3, .int x4] (pI p0) px) (h0 : ∀ r G1, p0 r G1 → post 0 (gs G1 25 1 (upd (G1 25 1) 0 r))) (hx : ∀ i G1, i < 2 → px i G1 → (i = 0 → post 1 G1) ∧ (i = 1 → post 2 G1)) : CtW l yL_here cL_here 7 [(0, 14, 17, 18), (0, 14, 21, 13)] 8 4 24 E P sd G [.ref (sd 0 0), .int x1, .int x2, .int x3, .int x4, .ref (sd 25 1)] (pI post) := by
  refine ctw_of (own := "MarkFieldLaw") (by decide) rfl (Nat.le_of_ble_eq_true rfl) hPP (fun X F T el eP es et => ?_)
  subst el
  subst eP
  subst es
  change AW E X 7 0 [(0, .ref (sdX X 0 0)), (1, .int x1), (2, .int x2), (3, .int x3), (4, .int x4), (5, .ref (sdX X 25 1))] [] G 0 0
  refine aw_al F 5 dL_here_0 rfl ?_
  refine aw_ic F dL_here_2 (v := (0 : Int32)) (by decide) ?_
  refine aw_al_n F 0 dL_here_3 rfl rfl ?_
  refine aw_il_n F 1 dL_here_4 rfl rfl ?_
  refine aw_il_n F 2 dL_here_5 rfl rfl ?_
  refine aw_il_n F 3 dL_here_6 rfl rfl ?_
  refine aw_il F 4 dL_here_7 rfl ?_
  refine aw_cVC F T.room (o := 0) (c := 7) [.int x1, .int x2, .int x3, .int x4] hM mv_L7_here v_813 cf7 (lo_s rfl) (hPP 0 rfl) rfl (by decide) rfl rfl (Nat.le_of_ble_eq_true rfl) ⟨(Nat.le_of_ble_eq_true rfl), (Nat.le_of_ble_eq_true rfl)⟩ ⟨(Nat.le_of_ble_eq_true rfl), (Nat.le_of_ble_eq_true rfl)⟩ dL_here_9 (fun i G1 hi hq => ?_) (fun v G1 hv => ?_)
  · have hp := hx i G1 hi hq
    have hi2 : i = 0 ∨ i = 1 := by omega
    rcases hi2 with rfl | rfl
    · refine ⟨[], ⟨0, 14, 17, 18⟩, [⟨0, 14, 21, 13⟩], by rw [et]; rfl, fun z hz => absurd hz List.not_mem_nil, by decide, by decide, v_620, fun q => ?_⟩
      refine aw_as F dL_here_17 (by decide) rfl ?_
      refine aw_ic F dL_here_19 (v := (1 : Int32)) (by decide) ?_
      exact aw_iret F T (Nat.le_of_ble_eq_true rfl) (Nat.le_of_ble_eq_true rfl) ⟨1, rfl, hp.1 rfl⟩ dL_here_20
    · refine ⟨[⟨0, 14, 17, 18⟩], ⟨0, 14, 21, 13⟩, [], by rw [et]; rfl, fun z hz => ?_, by decide, by decide, v_374, fun q => ?_⟩
      · cases List.mem_singleton.mp hz
        exact ⟨rfl, by decide, v_620⟩
      · skip
        refine aw_as F dL_here_21 (by decide) rfl ?_
        refine aw_ic F dL_here_23 (v := (2 : Int32)) (by decide) ?_
        exact aw_iret F T (Nat.le_of_ble_eq_true rfl) (Nat.le_of_ble_eq_true rfl) ⟨2, rfl, hp.2 rfl⟩ dL_here_24
  · obtain ⟨r, rfl, hr⟩ := hv
    refine aw_i2l F dL_here_12 ?_
    refine aw_last F (r := r) (hPP 25 rfl) (by unfold vp_in; decide) dL_here_13 ?_
    refine aw_go F (tgt := 25) dL_here_14 (by decide) ?_
    refine aw_ic F dL_here_25 (v := (0 : Int32)) (by decide) ?_
    exact aw_iret F T (Nat.le_of_ble_eq_true rfl) (Nat.le_of_ble_eq_true rfl) ⟨0, rfl, h0 r G1 hr⟩ dL_here_26
theorem mv_L7_halves : MV yX7_halves cX7_halves 5 (some .int) 3 := ⟨⟨v_868, v_1, by decide, by decide, by decide +kernel⟩, v_866, v_867⟩
theorem kL_halves {l : Launch} {E : Ev} {P : Nat → Prop} {sd : Nat → Nat → Nat} {G : GH} {p0 : Int32 → GH → Prop} {px : Nat → GH → Prop} {post : Int32 → GH → Prop} {x1 x2 x3 : Int32} (hPP : ∀ o, stt o = true → P o) (hM : CtX l yX7_halves cX7_halves 5 (some .int) 7 3 18 E P sd G [.ref (sd 0 0), .int x1, .int x2, .int x3] (pI p0) px) (h0 : ∀ r G1, p0 r G1 → post 0 (gs G1 25 1 (upd (G1 25 1) 0 r))) (hx : ∀ i G1, i < 2 → px i G1 → (i = 0 → post 1 G1) ∧ (i = 1 → post 2 G1)) : CtW l yL_halves cL_halves 6 [(0, 12, 15, 18), (0, 12, 19, 13)] 8 3 18 E P sd G [.ref (sd 0 0), .int x1, .int x2, .int x3, .ref (sd 25 1)] (pI post) := by
  refine ctw_of (own := "MarkFieldLaw") (by decide) rfl (Nat.le_of_ble_eq_true rfl) hPP (fun X F T el eP es et => ?_)
  subst el
  subst eP
  subst es
  change AW E X 6 0 [(0, .ref (sdX X 0 0)), (1, .int x1), (2, .int x2), (3, .int x3), (4, .ref (sdX X 25 1))] [] G 0 0
  refine aw_al F 4 dL_halves_0 rfl ?_
  refine aw_ic F dL_halves_2 (v := (0 : Int32)) (by decide) ?_
  refine aw_al_n F 0 dL_halves_3 rfl rfl ?_
  refine aw_il_n F 1 dL_halves_4 rfl rfl ?_
  refine aw_il_n F 2 dL_halves_5 rfl rfl ?_
  refine aw_il_n F 3 dL_halves_6 rfl rfl ?_
  refine aw_cVC F T.room (o := 0) (c := 7) [.int x1, .int x2, .int x3] hM mv_L7_halves v_865 cf7 (lo_s rfl) (hPP 0 rfl) rfl (by decide) rfl rfl (Nat.le_of_ble_eq_true rfl) ⟨(Nat.le_of_ble_eq_true rfl), (Nat.le_of_ble_eq_true rfl)⟩ ⟨(Nat.le_of_ble_eq_true rfl), (Nat.le_of_ble_eq_true rfl)⟩ dL_halves_7 (fun i G1 hi hq => ?_) (fun v G1 hv => ?_)
  · have hp := hx i G1 hi hq
    have hi2 : i = 0 ∨ i = 1 := by omega
    rcases hi2 with rfl | rfl
    · refine ⟨[], ⟨0, 12, 15, 18⟩, [⟨0, 12, 19, 13⟩], by rw [et]; rfl, fun z hz => absurd hz List.not_mem_nil, by decide, by decide, v_620, fun q => ?_⟩
      refine aw_as F dL_halves_15 (by decide) rfl ?_
      refine aw_ic F dL_halves_17 (v := (1 : Int32)) (by decide) ?_
      exact aw_iret F T (Nat.le_of_ble_eq_true rfl) (Nat.le_of_ble_eq_true rfl) ⟨1, rfl, hp.1 rfl⟩ dL_halves_18
    · refine ⟨[⟨0, 12, 15, 18⟩], ⟨0, 12, 19, 13⟩, [], by rw [et]; rfl, fun z hz => ?_, by decide, by decide, v_374, fun q => ?_⟩
      · cases List.mem_singleton.mp hz
        exact ⟨rfl, by decide, v_620⟩
      · skip
        refine aw_as F dL_halves_19 (by decide) rfl ?_
        refine aw_ic F dL_halves_21 (v := (2 : Int32)) (by decide) ?_
        exact aw_iret F T (Nat.le_of_ble_eq_true rfl) (Nat.le_of_ble_eq_true rfl) ⟨2, rfl, hp.2 rfl⟩ dL_halves_22
  · obtain ⟨r, rfl, hr⟩ := hv
    refine aw_i2l F dL_halves_10 ?_
    refine aw_last F (r := r) (hPP 25 rfl) (by unfold vp_in; decide) dL_halves_11 ?_
    refine aw_go F (tgt := 23) dL_halves_12 (by decide) ?_
    refine aw_ic F dL_halves_23 (v := (0 : Int32)) (by decide) ?_
    exact aw_iret F T (Nat.le_of_ble_eq_true rfl) (Nat.le_of_ble_eq_true rfl) ⟨0, rfl, h0 r G1 hr⟩ dL_halves_24
theorem mv_L7_holders : MV yX7_holders cX7_holders 3 (some .int) 2 := ⟨⟨v_890, v_1, by decide, by decide, by decide +kernel⟩, v_888, v_889⟩
theorem kL_holders {l : Launch} {E : Ev} {P : Nat → Prop} {sd : Nat → Nat → Nat} {G : GH} {p0 : Int32 → GH → Prop} {px : Nat → GH → Prop} {post : Int32 → GH → Prop} {x1 x2 : Int32} (hPP : ∀ o, stt o = true → P o) (hM : CtX l yX7_holders cX7_holders 3 (some .int) 7 2 12 E P sd G [.ref (sd 0 0), .int x1, .int x2] (pI p0) px) (h0 : ∀ r G1, p0 r G1 → post 0 (gs G1 25 1 (upd (G1 25 1) 0 r))) (hx : ∀ i G1, i < 2 → px i G1 → (i = 0 → post 1 G1) ∧ (i = 1 → post 2 G1)) : CtW l yL_holders cL_holders 5 [(0, 10, 13, 18), (0, 10, 17, 13)] 8 2 12 E P sd G [.ref (sd 0 0), .int x1, .int x2, .ref (sd 25 1)] (pI post) := by
  refine ctw_of (own := "MarkFieldLaw") (by decide) rfl (Nat.le_of_ble_eq_true rfl) hPP (fun X F T el eP es et => ?_)
  subst el
  subst eP
  subst es
  change AW E X 5 0 [(0, .ref (sdX X 0 0)), (1, .int x1), (2, .int x2), (3, .ref (sdX X 25 1))] [] G 0 0
  refine aw_al_n F 3 dL_holders_0 rfl rfl ?_
  refine aw_ic F dL_holders_1 (v := (0 : Int32)) (by decide) ?_
  refine aw_al_n F 0 dL_holders_2 rfl rfl ?_
  refine aw_il_n F 1 dL_holders_3 rfl rfl ?_
  refine aw_il_n F 2 dL_holders_4 rfl rfl ?_
  refine aw_cVC F T.room (o := 0) (c := 7) [.int x1, .int x2] hM mv_L7_holders v_887 cf7 (lo_s rfl) (hPP 0 rfl) rfl (by decide) rfl rfl (Nat.le_of_ble_eq_true rfl) ⟨(Nat.le_of_ble_eq_true rfl), (Nat.le_of_ble_eq_true rfl)⟩ ⟨(Nat.le_of_ble_eq_true rfl), (Nat.le_of_ble_eq_true rfl)⟩ dL_holders_5 (fun i G1 hi hq => ?_) (fun v G1 hv => ?_)
  · have hp := hx i G1 hi hq
    have hi2 : i = 0 ∨ i = 1 := by omega
    rcases hi2 with rfl | rfl
    · refine ⟨[], ⟨0, 10, 13, 18⟩, [⟨0, 10, 17, 13⟩], by rw [et]; rfl, fun z hz => absurd hz List.not_mem_nil, by decide, by decide, v_620, fun q => ?_⟩
      refine aw_as F dL_holders_13 (by decide) rfl ?_
      refine aw_ic F dL_holders_15 (v := (1 : Int32)) (by decide) ?_
      exact aw_iret F T (Nat.le_of_ble_eq_true rfl) (Nat.le_of_ble_eq_true rfl) ⟨1, rfl, hp.1 rfl⟩ dL_holders_16
    · refine ⟨[⟨0, 10, 13, 18⟩], ⟨0, 10, 17, 13⟩, [], by rw [et]; rfl, fun z hz => ?_, by decide, by decide, v_374, fun q => ?_⟩
      · cases List.mem_singleton.mp hz
        exact ⟨rfl, by decide, v_620⟩
      · skip
        refine aw_as F dL_holders_17 (by decide) rfl ?_
        refine aw_ic F dL_holders_19 (v := (2 : Int32)) (by decide) ?_
        exact aw_iret F T (Nat.le_of_ble_eq_true rfl) (Nat.le_of_ble_eq_true rfl) ⟨2, rfl, hp.2 rfl⟩ dL_holders_20
  · obtain ⟨r, rfl, hr⟩ := hv
    refine aw_i2l F dL_holders_8 ?_
    refine aw_last F (r := r) (hPP 25 rfl) (by unfold vp_in; decide) dL_holders_9 ?_
    refine aw_go F (tgt := 21) dL_holders_10 (by decide) ?_
    refine aw_ic F dL_holders_21 (v := (0 : Int32)) (by decide) ?_
    exact aw_iret F T (Nat.le_of_ble_eq_true rfl) (Nat.le_of_ble_eq_true rfl) ⟨0, rfl, h0 r G1 hr⟩ dL_holders_22
theorem mv_L7_shared : MV yX7_shared cX7_shared 5 (some .int) 1 := ⟨⟨v_901, v_1, by decide, by decide, by decide +kernel⟩, v_899, v_900⟩
theorem kL_shared {l : Launch} {E : Ev} {P : Nat → Prop} {sd : Nat → Nat → Nat} {G : GH} {p0 : Int32 → GH → Prop} {px : Nat → GH → Prop} {post : Int32 → GH → Prop} {x1 : Int32} (hPP : ∀ o, stt o = true → P o) (hM : CtX l yX7_shared cX7_shared 5 (some .int) 7 1 6 E P sd G [.ref (sd 0 0), .int x1] (pI p0) px) (h0 : ∀ r G1, p0 r G1 → post 0 (gs G1 25 1 (upd (G1 25 1) 0 r))) (hx : ∀ i G1, i < 2 → px i G1 → i = 1 ∧ post 1 G1) : CtW l yL_shared cL_shared 4 [(0, 9, 12, 13)] 8 1 6 E P sd G [.ref (sd 0 0), .int x1, .ref (sd 25 1)] (pI post) := by
  refine ctw_of (own := "MarkFieldLaw") (by decide) rfl (Nat.le_of_ble_eq_true rfl) hPP (fun X F T el eP es et => ?_)
  subst el
  subst eP
  subst es
  change AW E X 4 0 [(0, .ref (sdX X 0 0)), (1, .int x1), (2, .ref (sdX X 25 1))] [] G 0 0
  refine aw_al_n F 2 dL_shared_0 rfl rfl ?_
  refine aw_ic F dL_shared_1 (v := (0 : Int32)) (by decide) ?_
  refine aw_al_n F 0 dL_shared_2 rfl rfl ?_
  refine aw_il_n F 1 dL_shared_3 rfl rfl ?_
  refine aw_cVC F T.room (o := 0) (c := 7) [.int x1] hM mv_L7_shared v_898 cf7 (lo_s rfl) (hPP 0 rfl) rfl (by decide) rfl rfl (Nat.le_of_ble_eq_true rfl) ⟨(Nat.le_of_ble_eq_true rfl), (Nat.le_of_ble_eq_true rfl)⟩ ⟨(Nat.le_of_ble_eq_true rfl), (Nat.le_of_ble_eq_true rfl)⟩ dL_shared_4 (fun i G1 hi hq => ?_) (fun v G1 hv => ?_)
  · obtain ⟨rfl, hp⟩ := hx i G1 hi hq
    refine ⟨[], ⟨0, 9, 12, 13⟩, [], by rw [et]; rfl, fun z hz => absurd hz List.not_mem_nil, by decide, by decide, v_374, fun q => ?_⟩
    refine aw_as_n F dL_shared_12 rfl (by decide) rfl ?_
    refine aw_ic F dL_shared_13 (v := (1 : Int32)) (by decide) ?_
    exact aw_iret F T (Nat.le_of_ble_eq_true rfl) (Nat.le_of_ble_eq_true rfl) ⟨1, rfl, hp⟩ dL_shared_14
  · obtain ⟨r, rfl, hr⟩ := hv
    refine aw_i2l F dL_shared_7 ?_
    refine aw_last F (r := r) (hPP 25 rfl) (by unfold vp_in; decide) dL_shared_8 ?_
    refine aw_go F (tgt := 15) dL_shared_9 (by decide) ?_
    refine aw_ic F dL_shared_15 (v := (0 : Int32)) (by decide) ?_
    exact aw_iret F T (Nat.le_of_ble_eq_true rfl) (Nat.le_of_ble_eq_true rfl) ⟨0, rfl, h0 r G1 hr⟩ dL_shared_16
theorem mv_L7_refused : MV yX7_refused cX7_refused 6 (some .int) 2 := ⟨⟨v_916, v_1, by decide, by decide, by decide +kernel⟩, v_914, v_915⟩
theorem kL_refused {l : Launch} {E : Ev} {P : Nat → Prop} {sd : Nat → Nat → Nat} {G : GH} {p0 : Int32 → GH → Prop} {px : Nat → GH → Prop} {post : Int32 → GH → Prop} {x1 x2 : Int32} (hPP : ∀ o, stt o = true → P o) (hM : CtX l yX7_refused cX7_refused 6 (some .int) 7 2 12 E P sd G [.ref (sd 0 0), .int x1, .int x2] (pI p0) px) (h0 : ∀ r G1, p0 r G1 → post 0 (gs G1 25 1 (upd (G1 25 1) 0 r))) (hx : ∀ i G1, i < 2 → px i G1 → (i = 0 → post 1 G1) ∧ (i = 1 → post 2 G1)) : CtW l yL_refused cL_refused 5 [(0, 10, 13, 18), (0, 10, 17, 13)] 8 2 12 E P sd G [.ref (sd 0 0), .int x1, .int x2, .ref (sd 25 1)] (pI post) := by
  refine ctw_of (own := "MarkFieldLaw") (by decide) rfl (Nat.le_of_ble_eq_true rfl) hPP (fun X F T el eP es et => ?_)
  subst el
  subst eP
  subst es
  change AW E X 5 0 [(0, .ref (sdX X 0 0)), (1, .int x1), (2, .int x2), (3, .ref (sdX X 25 1))] [] G 0 0
  refine aw_al_n F 3 dL_refused_0 rfl rfl ?_
  refine aw_ic F dL_refused_1 (v := (0 : Int32)) (by decide) ?_
  refine aw_al_n F 0 dL_refused_2 rfl rfl ?_
  refine aw_il_n F 1 dL_refused_3 rfl rfl ?_
  refine aw_il_n F 2 dL_refused_4 rfl rfl ?_
  refine aw_cVC F T.room (o := 0) (c := 7) [.int x1, .int x2] hM mv_L7_refused v_913 cf7 (lo_s rfl) (hPP 0 rfl) rfl (by decide) rfl rfl (Nat.le_of_ble_eq_true rfl) ⟨(Nat.le_of_ble_eq_true rfl), (Nat.le_of_ble_eq_true rfl)⟩ ⟨(Nat.le_of_ble_eq_true rfl), (Nat.le_of_ble_eq_true rfl)⟩ dL_refused_5 (fun i G1 hi hq => ?_) (fun v G1 hv => ?_)
  · have hp := hx i G1 hi hq
    have hi2 : i = 0 ∨ i = 1 := by omega
    rcases hi2 with rfl | rfl
    · refine ⟨[], ⟨0, 10, 13, 18⟩, [⟨0, 10, 17, 13⟩], by rw [et]; rfl, fun z hz => absurd hz List.not_mem_nil, by decide, by decide, v_620, fun q => ?_⟩
      refine aw_as F dL_refused_13 (by decide) rfl ?_
      refine aw_ic F dL_refused_15 (v := (1 : Int32)) (by decide) ?_
      exact aw_iret F T (Nat.le_of_ble_eq_true rfl) (Nat.le_of_ble_eq_true rfl) ⟨1, rfl, hp.1 rfl⟩ dL_refused_16
    · refine ⟨[⟨0, 10, 13, 18⟩], ⟨0, 10, 17, 13⟩, [], by rw [et]; rfl, fun z hz => ?_, by decide, by decide, v_374, fun q => ?_⟩
      · cases List.mem_singleton.mp hz
        exact ⟨rfl, by decide, v_620⟩
      · skip
        refine aw_as F dL_refused_17 (by decide) rfl ?_
        refine aw_ic F dL_refused_19 (v := (2 : Int32)) (by decide) ?_
        exact aw_iret F T (Nat.le_of_ble_eq_true rfl) (Nat.le_of_ble_eq_true rfl) ⟨2, rfl, hp.2 rfl⟩ dL_refused_20
  · obtain ⟨r, rfl, hr⟩ := hv
    refine aw_i2l F dL_refused_8 ?_
    refine aw_last F (r := r) (hPP 25 rfl) (by unfold vp_in; decide) dL_refused_9 ?_
    refine aw_go F (tgt := 21) dL_refused_10 (by decide) ?_
    refine aw_ic F dL_refused_21 (v := (0 : Int32)) (by decide) ?_
    exact aw_iret F T (Nat.le_of_ble_eq_true rfl) (Nat.le_of_ble_eq_true rfl) ⟨0, rfl, h0 r G1 hr⟩ dL_refused_22
theorem mv_L7_firstDay : MV yX7_firstDay cX7_firstDay 7 (some .int) 2 := ⟨⟨v_923, v_1, by decide, by decide, by decide +kernel⟩, v_921, v_922⟩
theorem kL_firstDay {l : Launch} {E : Ev} {P : Nat → Prop} {sd : Nat → Nat → Nat} {G : GH} {p0 : Int32 → GH → Prop} {px : Nat → GH → Prop} {post : Int32 → GH → Prop} {x1 x2 : Int32} (hPP : ∀ o, stt o = true → P o) (hM : CtX l yX7_firstDay cX7_firstDay 7 (some .int) 7 2 12 E P sd G [.ref (sd 0 0), .int x1, .int x2] (pI p0) px) (h0 : ∀ r G1, p0 r G1 → post 0 (gs G1 25 1 (upd (G1 25 1) 0 r))) (hx : ∀ i G1, i < 2 → px i G1 → i = 0 ∧ post 1 G1) : CtW l yL_firstDay cL_firstDay 5 [(0, 10, 13, 18)] 8 2 12 E P sd G [.ref (sd 0 0), .int x1, .int x2, .ref (sd 25 1)] (pI post) := by
  refine ctw_of (own := "MarkFieldLaw") (by decide) rfl (Nat.le_of_ble_eq_true rfl) hPP (fun X F T el eP es et => ?_)
  subst el
  subst eP
  subst es
  change AW E X 5 0 [(0, .ref (sdX X 0 0)), (1, .int x1), (2, .int x2), (3, .ref (sdX X 25 1))] [] G 0 0
  refine aw_al_n F 3 dL_firstDay_0 rfl rfl ?_
  refine aw_ic F dL_firstDay_1 (v := (0 : Int32)) (by decide) ?_
  refine aw_al_n F 0 dL_firstDay_2 rfl rfl ?_
  refine aw_il_n F 1 dL_firstDay_3 rfl rfl ?_
  refine aw_il_n F 2 dL_firstDay_4 rfl rfl ?_
  refine aw_cVC F T.room (o := 0) (c := 7) [.int x1, .int x2] hM mv_L7_firstDay v_920 cf7 (lo_s rfl) (hPP 0 rfl) rfl (by decide) rfl rfl (Nat.le_of_ble_eq_true rfl) ⟨(Nat.le_of_ble_eq_true rfl), (Nat.le_of_ble_eq_true rfl)⟩ ⟨(Nat.le_of_ble_eq_true rfl), (Nat.le_of_ble_eq_true rfl)⟩ dL_firstDay_5 (fun i G1 hi hq => ?_) (fun v G1 hv => ?_)
  · obtain ⟨rfl, hp⟩ := hx i G1 hi hq
    refine ⟨[], ⟨0, 10, 13, 18⟩, [], by rw [et]; rfl, fun z hz => absurd hz List.not_mem_nil, by decide, by decide, v_620, fun q => ?_⟩
    refine aw_as F dL_firstDay_13 (by decide) rfl ?_
    refine aw_ic F dL_firstDay_15 (v := (1 : Int32)) (by decide) ?_
    exact aw_iret F T (Nat.le_of_ble_eq_true rfl) (Nat.le_of_ble_eq_true rfl) ⟨1, rfl, hp⟩ dL_firstDay_16
  · obtain ⟨r, rfl, hr⟩ := hv
    refine aw_i2l F dL_firstDay_8 ?_
    refine aw_last F (r := r) (hPP 25 rfl) (by unfold vp_in; decide) dL_firstDay_9 ?_
    refine aw_go F (tgt := 17) dL_firstDay_10 (by decide) ?_
    refine aw_ic F dL_firstDay_17 (v := (0 : Int32)) (by decide) ?_
    exact aw_iret F T (Nat.le_of_ble_eq_true rfl) (Nat.le_of_ble_eq_true rfl) ⟨0, rfl, h0 r G1 hr⟩ dL_firstDay_18
theorem mv_L7_would : MV yX7_would cX7_would 6 (some .int) 4 := ⟨⟨v_937, v_1, by decide, by decide, by decide +kernel⟩, v_935, v_936⟩
theorem kL_would {l : Launch} {E : Ev} {P : Nat → Prop} {sd : Nat → Nat → Nat} {G : GH} {p0 : Int32 → GH → Prop} {px : Nat → GH → Prop} {post : Int32 → GH → Prop} {x1 x2 x3 x4 : Int32} (hPP : ∀ o, stt o = true → P o) (hM : CtX l yX7_would cX7_would 6 (some .int) 8 4 24 E P sd G [.ref (sd 0 0), .int x1, .int x2, .int x3, .int x4] (pI p0) px) (h0 : ∀ r G1, p0 r G1 → post 0 (gs G1 25 1 (upd (G1 25 1) 0 r))) (hx : ∀ i G1, i < 2 → px i G1 → (i = 0 → post 1 G1) ∧ (i = 1 → post 2 G1)) : CtW l yL_would cL_would 7 [(0, 14, 17, 18), (0, 14, 21, 13)] 9 4 24 E P sd G [.ref (sd 0 0), .int x1, .int x2, .int x3, .int x4, .ref (sd 25 1)] (pI post) := by
  refine ctw_of (own := "MarkFieldLaw") (by decide) rfl (Nat.le_of_ble_eq_true rfl) hPP (fun X F T el eP es et => ?_)
  subst el
  subst eP
  subst es
  change AW E X 7 0 [(0, .ref (sdX X 0 0)), (1, .int x1), (2, .int x2), (3, .int x3), (4, .int x4), (5, .ref (sdX X 25 1))] [] G 0 0
  refine aw_al F 5 dL_would_0 rfl ?_
  refine aw_ic F dL_would_2 (v := (0 : Int32)) (by decide) ?_
  refine aw_al_n F 0 dL_would_3 rfl rfl ?_
  refine aw_il_n F 1 dL_would_4 rfl rfl ?_
  refine aw_il_n F 2 dL_would_5 rfl rfl ?_
  refine aw_il_n F 3 dL_would_6 rfl rfl ?_
  refine aw_il F 4 dL_would_7 rfl ?_
  refine aw_cVC F T.room (o := 0) (c := 7) [.int x1, .int x2, .int x3, .int x4] hM mv_L7_would v_934 cf7 (lo_s rfl) (hPP 0 rfl) rfl (by decide) rfl rfl (Nat.le_of_ble_eq_true rfl) ⟨(Nat.le_of_ble_eq_true rfl), (Nat.le_of_ble_eq_true rfl)⟩ ⟨(Nat.le_of_ble_eq_true rfl), (Nat.le_of_ble_eq_true rfl)⟩ dL_would_9 (fun i G1 hi hq => ?_) (fun v G1 hv => ?_)
  · have hp := hx i G1 hi hq
    have hi2 : i = 0 ∨ i = 1 := by omega
    rcases hi2 with rfl | rfl
    · refine ⟨[], ⟨0, 14, 17, 18⟩, [⟨0, 14, 21, 13⟩], by rw [et]; rfl, fun z hz => absurd hz List.not_mem_nil, by decide, by decide, v_620, fun q => ?_⟩
      refine aw_as F dL_would_17 (by decide) rfl ?_
      refine aw_ic F dL_would_19 (v := (1 : Int32)) (by decide) ?_
      exact aw_iret F T (Nat.le_of_ble_eq_true rfl) (Nat.le_of_ble_eq_true rfl) ⟨1, rfl, hp.1 rfl⟩ dL_would_20
    · refine ⟨[⟨0, 14, 17, 18⟩], ⟨0, 14, 21, 13⟩, [], by rw [et]; rfl, fun z hz => ?_, by decide, by decide, v_374, fun q => ?_⟩
      · cases List.mem_singleton.mp hz
        exact ⟨rfl, by decide, v_620⟩
      · skip
        refine aw_as F dL_would_21 (by decide) rfl ?_
        refine aw_ic F dL_would_23 (v := (2 : Int32)) (by decide) ?_
        exact aw_iret F T (Nat.le_of_ble_eq_true rfl) (Nat.le_of_ble_eq_true rfl) ⟨2, rfl, hp.2 rfl⟩ dL_would_24
  · obtain ⟨r, rfl, hr⟩ := hv
    refine aw_i2l F dL_would_12 ?_
    refine aw_last F (r := r) (hPP 25 rfl) (by unfold vp_in; decide) dL_would_13 ?_
    refine aw_go F (tgt := 25) dL_would_14 (by decide) ?_
    refine aw_ic F dL_would_25 (v := (0 : Int32)) (by decide) ?_
    exact aw_iret F T (Nat.le_of_ble_eq_true rfl) (Nat.le_of_ble_eq_true rfl) ⟨0, rfl, h0 r G1 hr⟩ dL_would_26
theorem mv_L7_free : MV yX7_free cX7_free 6 (some .int) 2 := ⟨⟨v_971, v_1, by decide, by decide, by decide +kernel⟩, v_969, v_970⟩
theorem kL_free {l : Launch} {E : Ev} {P : Nat → Prop} {sd : Nat → Nat → Nat} {G : GH} {p0 : Int32 → GH → Prop} {px : Nat → GH → Prop} {post : Int32 → GH → Prop} {x1 x2 : Int32} (hPP : ∀ o, stt o = true → P o) (hM : CtX l yX7_free cX7_free 6 (some .int) 8 3 18 E P sd G [.ref (sd 0 0), .int x1, .int x2] (pI p0) px) (h0 : ∀ r G1, p0 r G1 → post 0 (gs G1 25 1 (upd (G1 25 1) 0 r))) (hx : ∀ i G1, i < 2 → px i G1 → i = 1 ∧ post 1 G1) : CtW l yL_free cL_free 5 [(0, 10, 13, 13)] 9 3 18 E P sd G [.ref (sd 0 0), .int x1, .int x2, .ref (sd 25 1)] (pI post) := by
  refine ctw_of (own := "MarkFieldLaw") (by decide) rfl (Nat.le_of_ble_eq_true rfl) hPP (fun X F T el eP es et => ?_)
  subst el
  subst eP
  subst es
  change AW E X 5 0 [(0, .ref (sdX X 0 0)), (1, .int x1), (2, .int x2), (3, .ref (sdX X 25 1))] [] G 0 0
  refine aw_al_n F 3 dL_free_0 rfl rfl ?_
  refine aw_ic F dL_free_1 (v := (0 : Int32)) (by decide) ?_
  refine aw_al_n F 0 dL_free_2 rfl rfl ?_
  refine aw_il_n F 1 dL_free_3 rfl rfl ?_
  refine aw_il_n F 2 dL_free_4 rfl rfl ?_
  refine aw_cVC F T.room (o := 0) (c := 7) [.int x1, .int x2] hM mv_L7_free v_968 cf7 (lo_s rfl) (hPP 0 rfl) rfl (by decide) rfl rfl (Nat.le_of_ble_eq_true rfl) ⟨(Nat.le_of_ble_eq_true rfl), (Nat.le_of_ble_eq_true rfl)⟩ ⟨(Nat.le_of_ble_eq_true rfl), (Nat.le_of_ble_eq_true rfl)⟩ dL_free_5 (fun i G1 hi hq => ?_) (fun v G1 hv => ?_)
  · obtain ⟨rfl, hp⟩ := hx i G1 hi hq
    refine ⟨[], ⟨0, 10, 13, 13⟩, [], by rw [et]; rfl, fun z hz => absurd hz List.not_mem_nil, by decide, by decide, v_374, fun q => ?_⟩
    refine aw_as F dL_free_13 (by decide) rfl ?_
    refine aw_ic F dL_free_15 (v := (1 : Int32)) (by decide) ?_
    exact aw_iret F T (Nat.le_of_ble_eq_true rfl) (Nat.le_of_ble_eq_true rfl) ⟨1, rfl, hp⟩ dL_free_16
  · obtain ⟨r, rfl, hr⟩ := hv
    refine aw_i2l F dL_free_8 ?_
    refine aw_last F (r := r) (hPP 25 rfl) (by unfold vp_in; decide) dL_free_9 ?_
    refine aw_go F (tgt := 17) dL_free_10 (by decide) ?_
    refine aw_ic F dL_free_17 (v := (0 : Int32)) (by decide) ?_
    exact aw_iret F T (Nat.le_of_ble_eq_true rfl) (Nat.le_of_ble_eq_true rfl) ⟨0, rfl, h0 r G1 hr⟩ dL_free_18
theorem mv_L7_letterFor : MV yX7_letterFor cX7_letterFor 6 (some .int) 2 := ⟨⟨v_992, v_1, by decide, by decide, by decide +kernel⟩, v_990, v_991⟩
theorem kL_letterFor {l : Launch} {E : Ev} {P : Nat → Prop} {sd : Nat → Nat → Nat} {G : GH} {p0 : Int32 → GH → Prop} {px : Nat → GH → Prop} {post : Int32 → GH → Prop} {x1 x2 : Int32} (hPP : ∀ o, stt o = true → P o) (hM : CtX l yX7_letterFor cX7_letterFor 6 (some .int) 7 2 12 E P sd G [.ref (sd 0 0), .int x1, .int x2] (pI p0) px) (h0 : ∀ r G1, p0 r G1 → post 0 (gs G1 25 1 (upd (G1 25 1) 0 r))) (hx : ∀ i G1, i < 2 → px i G1 → (i = 0 → post 1 G1) ∧ (i = 1 → post 2 G1)) : CtW l yL_letterFor cL_letterFor 5 [(0, 10, 13, 18), (0, 10, 17, 13)] 8 2 12 E P sd G [.ref (sd 0 0), .int x1, .int x2, .ref (sd 25 1)] (pI post) := by
  refine ctw_of (own := "MarkFieldLaw") (by decide) rfl (Nat.le_of_ble_eq_true rfl) hPP (fun X F T el eP es et => ?_)
  subst el
  subst eP
  subst es
  change AW E X 5 0 [(0, .ref (sdX X 0 0)), (1, .int x1), (2, .int x2), (3, .ref (sdX X 25 1))] [] G 0 0
  refine aw_al_n F 3 dL_letterFor_0 rfl rfl ?_
  refine aw_ic F dL_letterFor_1 (v := (0 : Int32)) (by decide) ?_
  refine aw_al_n F 0 dL_letterFor_2 rfl rfl ?_
  refine aw_il_n F 1 dL_letterFor_3 rfl rfl ?_
  refine aw_il_n F 2 dL_letterFor_4 rfl rfl ?_
  refine aw_cVC F T.room (o := 0) (c := 7) [.int x1, .int x2] hM mv_L7_letterFor v_989 cf7 (lo_s rfl) (hPP 0 rfl) rfl (by decide) rfl rfl (Nat.le_of_ble_eq_true rfl) ⟨(Nat.le_of_ble_eq_true rfl), (Nat.le_of_ble_eq_true rfl)⟩ ⟨(Nat.le_of_ble_eq_true rfl), (Nat.le_of_ble_eq_true rfl)⟩ dL_letterFor_5 (fun i G1 hi hq => ?_) (fun v G1 hv => ?_)
  · have hp := hx i G1 hi hq
    have hi2 : i = 0 ∨ i = 1 := by omega
    rcases hi2 with rfl | rfl
    · refine ⟨[], ⟨0, 10, 13, 18⟩, [⟨0, 10, 17, 13⟩], by rw [et]; rfl, fun z hz => absurd hz List.not_mem_nil, by decide, by decide, v_620, fun q => ?_⟩
      refine aw_as F dL_letterFor_13 (by decide) rfl ?_
      refine aw_ic F dL_letterFor_15 (v := (1 : Int32)) (by decide) ?_
      exact aw_iret F T (Nat.le_of_ble_eq_true rfl) (Nat.le_of_ble_eq_true rfl) ⟨1, rfl, hp.1 rfl⟩ dL_letterFor_16
    · refine ⟨[⟨0, 10, 13, 18⟩], ⟨0, 10, 17, 13⟩, [], by rw [et]; rfl, fun z hz => ?_, by decide, by decide, v_374, fun q => ?_⟩
      · cases List.mem_singleton.mp hz
        exact ⟨rfl, by decide, v_620⟩
      · skip
        refine aw_as F dL_letterFor_17 (by decide) rfl ?_
        refine aw_ic F dL_letterFor_19 (v := (2 : Int32)) (by decide) ?_
        exact aw_iret F T (Nat.le_of_ble_eq_true rfl) (Nat.le_of_ble_eq_true rfl) ⟨2, rfl, hp.2 rfl⟩ dL_letterFor_20
  · obtain ⟨r, rfl, hr⟩ := hv
    refine aw_i2l F dL_letterFor_8 ?_
    refine aw_last F (r := r) (hPP 25 rfl) (by unfold vp_in; decide) dL_letterFor_9 ?_
    refine aw_go F (tgt := 21) dL_letterFor_10 (by decide) ?_
    refine aw_ic F dL_letterFor_21 (v := (0 : Int32)) (by decide) ?_
    exact aw_iret F T (Nat.le_of_ble_eq_true rfl) (Nat.le_of_ble_eq_true rfl) ⟨0, rfl, h0 r G1 hr⟩ dL_letterFor_22
theorem mv_L7_group : MV yX7_group cX7_group 2 (some .int) 1 := ⟨⟨v_1013, v_1, by decide, by decide, by decide +kernel⟩, v_1011, v_1012⟩
theorem kL_group {l : Launch} {E : Ev} {P : Nat → Prop} {sd : Nat → Nat → Nat} {G : GH} {p0 : Int32 → GH → Prop} {px : Nat → GH → Prop} {post : Int32 → GH → Prop} {x1 : Int32} (hPP : ∀ o, stt o = true → P o) (hM : CtX l yX7_group cX7_group 2 (some .int) 7 1 6 E P sd G [.ref (sd 0 0), .int x1] (pI p0) px) (h0 : ∀ r G1, p0 r G1 → post 0 (gs G1 25 1 (upd (G1 25 1) 0 r))) (hx : ∀ i G1, i < 2 → px i G1 → i = 0 ∧ post 1 G1) : CtW l yL_group cL_group 4 [(0, 9, 12, 18)] 8 1 6 E P sd G [.ref (sd 0 0), .int x1, .ref (sd 25 1)] (pI post) := by
  refine ctw_of (own := "MarkFieldLaw") (by decide) rfl (Nat.le_of_ble_eq_true rfl) hPP (fun X F T el eP es et => ?_)
  subst el
  subst eP
  subst es
  change AW E X 4 0 [(0, .ref (sdX X 0 0)), (1, .int x1), (2, .ref (sdX X 25 1))] [] G 0 0
  refine aw_al_n F 2 dL_group_0 rfl rfl ?_
  refine aw_ic F dL_group_1 (v := (0 : Int32)) (by decide) ?_
  refine aw_al_n F 0 dL_group_2 rfl rfl ?_
  refine aw_il_n F 1 dL_group_3 rfl rfl ?_
  refine aw_cVC F T.room (o := 0) (c := 7) [.int x1] hM mv_L7_group v_1010 cf7 (lo_s rfl) (hPP 0 rfl) rfl (by decide) rfl rfl (Nat.le_of_ble_eq_true rfl) ⟨(Nat.le_of_ble_eq_true rfl), (Nat.le_of_ble_eq_true rfl)⟩ ⟨(Nat.le_of_ble_eq_true rfl), (Nat.le_of_ble_eq_true rfl)⟩ dL_group_4 (fun i G1 hi hq => ?_) (fun v G1 hv => ?_)
  · obtain ⟨rfl, hp⟩ := hx i G1 hi hq
    refine ⟨[], ⟨0, 9, 12, 18⟩, [], by rw [et]; rfl, fun z hz => absurd hz List.not_mem_nil, by decide, by decide, v_620, fun q => ?_⟩
    refine aw_as_n F dL_group_12 rfl (by decide) rfl ?_
    refine aw_ic F dL_group_13 (v := (1 : Int32)) (by decide) ?_
    exact aw_iret F T (Nat.le_of_ble_eq_true rfl) (Nat.le_of_ble_eq_true rfl) ⟨1, rfl, hp⟩ dL_group_14
  · obtain ⟨r, rfl, hr⟩ := hv
    refine aw_i2l F dL_group_7 ?_
    refine aw_last F (r := r) (hPP 25 rfl) (by unfold vp_in; decide) dL_group_8 ?_
    refine aw_go F (tgt := 15) dL_group_9 (by decide) ?_
    refine aw_ic F dL_group_15 (v := (0 : Int32)) (by decide) ?_
    exact aw_iret F T (Nat.le_of_ble_eq_true rfl) (Nat.le_of_ble_eq_true rfl) ⟨0, rfl, h0 r G1 hr⟩ dL_group_16
theorem mv_L7_ranked : MV yX7_ranked cX7_ranked 4 (some .int) 3 := ⟨⟨v_1020, v_1, by decide, by decide, by decide +kernel⟩, v_1018, v_1019⟩
theorem kL_ranked {l : Launch} {E : Ev} {P : Nat → Prop} {sd : Nat → Nat → Nat} {G : GH} {p0 : Int32 → GH → Prop} {px : Nat → GH → Prop} {post : Int32 → GH → Prop} {x1 x2 x3 : Int32} (hPP : ∀ o, stt o = true → P o) (hM : CtX l yX7_ranked cX7_ranked 4 (some .int) 7 3 18 E P sd G [.ref (sd 0 0), .int x1, .int x2, .int x3] (pI p0) px) (h0 : ∀ r G1, p0 r G1 → post 0 (gs G1 25 1 (upd (G1 25 1) 0 r))) (hx : ∀ i G1, i < 2 → px i G1 → (i = 0 → post 1 G1) ∧ (i = 1 → post 2 G1)) : CtW l yL_ranked cL_ranked 6 [(0, 12, 15, 18), (0, 12, 19, 13)] 8 3 18 E P sd G [.ref (sd 0 0), .int x1, .int x2, .int x3, .ref (sd 25 1)] (pI post) := by
  refine ctw_of (own := "MarkFieldLaw") (by decide) rfl (Nat.le_of_ble_eq_true rfl) hPP (fun X F T el eP es et => ?_)
  subst el
  subst eP
  subst es
  change AW E X 6 0 [(0, .ref (sdX X 0 0)), (1, .int x1), (2, .int x2), (3, .int x3), (4, .ref (sdX X 25 1))] [] G 0 0
  refine aw_al F 4 dL_ranked_0 rfl ?_
  refine aw_ic F dL_ranked_2 (v := (0 : Int32)) (by decide) ?_
  refine aw_al_n F 0 dL_ranked_3 rfl rfl ?_
  refine aw_il_n F 1 dL_ranked_4 rfl rfl ?_
  refine aw_il_n F 2 dL_ranked_5 rfl rfl ?_
  refine aw_il_n F 3 dL_ranked_6 rfl rfl ?_
  refine aw_cVC F T.room (o := 0) (c := 7) [.int x1, .int x2, .int x3] hM mv_L7_ranked v_1017 cf7 (lo_s rfl) (hPP 0 rfl) rfl (by decide) rfl rfl (Nat.le_of_ble_eq_true rfl) ⟨(Nat.le_of_ble_eq_true rfl), (Nat.le_of_ble_eq_true rfl)⟩ ⟨(Nat.le_of_ble_eq_true rfl), (Nat.le_of_ble_eq_true rfl)⟩ dL_ranked_7 (fun i G1 hi hq => ?_) (fun v G1 hv => ?_)
  · have hp := hx i G1 hi hq
    have hi2 : i = 0 ∨ i = 1 := by omega
    rcases hi2 with rfl | rfl
    · refine ⟨[], ⟨0, 12, 15, 18⟩, [⟨0, 12, 19, 13⟩], by rw [et]; rfl, fun z hz => absurd hz List.not_mem_nil, by decide, by decide, v_620, fun q => ?_⟩
      refine aw_as F dL_ranked_15 (by decide) rfl ?_
      refine aw_ic F dL_ranked_17 (v := (1 : Int32)) (by decide) ?_
      exact aw_iret F T (Nat.le_of_ble_eq_true rfl) (Nat.le_of_ble_eq_true rfl) ⟨1, rfl, hp.1 rfl⟩ dL_ranked_18
    · refine ⟨[⟨0, 12, 15, 18⟩], ⟨0, 12, 19, 13⟩, [], by rw [et]; rfl, fun z hz => ?_, by decide, by decide, v_374, fun q => ?_⟩
      · cases List.mem_singleton.mp hz
        exact ⟨rfl, by decide, v_620⟩
      · skip
        refine aw_as F dL_ranked_19 (by decide) rfl ?_
        refine aw_ic F dL_ranked_21 (v := (2 : Int32)) (by decide) ?_
        exact aw_iret F T (Nat.le_of_ble_eq_true rfl) (Nat.le_of_ble_eq_true rfl) ⟨2, rfl, hp.2 rfl⟩ dL_ranked_22
  · obtain ⟨r, rfl, hr⟩ := hv
    refine aw_i2l F dL_ranked_10 ?_
    refine aw_last F (r := r) (hPP 25 rfl) (by unfold vp_in; decide) dL_ranked_11 ?_
    refine aw_go F (tgt := 23) dL_ranked_12 (by decide) ?_
    refine aw_ic F dL_ranked_23 (v := (0 : Int32)) (by decide) ?_
    exact aw_iret F T (Nat.le_of_ble_eq_true rfl) (Nat.le_of_ble_eq_true rfl) ⟨0, rfl, h0 r G1 hr⟩ dL_ranked_24
theorem mv_L7_file : MV yX7_file cX7_file 5 (some .int) 3 := ⟨⟨v_1029, v_1, by decide, by decide, by decide +kernel⟩, v_1027, v_1028⟩
theorem kL_file {l : Launch} {E : Ev} {P : Nat → Prop} {sd : Nat → Nat → Nat} {G : GH} {p0 : Int32 → GH → Prop} {px : Nat → GH → Prop} {post : Int32 → GH → Prop} {x1 x2 x3 : Int32} (hPP : ∀ o, stt o = true → P o) (hM : CtX l yX7_file cX7_file 5 (some .int) 8 13 708 E P sd G [.ref (sd 0 0), .int x1, .int x2, .int x3] (pI p0) px) (h0 : ∀ r G1, p0 r G1 → post 0 (gs G1 25 1 (upd (G1 25 1) 0 r))) (hx : ∀ i G1, i < 2 → px i G1 → i = 1 ∧ post 1 G1) : CtW l yL_file cL_file 6 [(0, 12, 15, 13)] 9 13 708 E P sd G [.ref (sd 0 0), .int x1, .int x2, .int x3, .ref (sd 25 1)] (pI post) := by
  refine ctw_of (own := "MarkFieldLaw") (by decide) rfl (Nat.le_of_ble_eq_true rfl) hPP (fun X F T el eP es et => ?_)
  subst el
  subst eP
  subst es
  change AW E X 6 0 [(0, .ref (sdX X 0 0)), (1, .int x1), (2, .int x2), (3, .int x3), (4, .ref (sdX X 25 1))] [] G 0 0
  refine aw_al F 4 dL_file_0 rfl ?_
  refine aw_ic F dL_file_2 (v := (0 : Int32)) (by decide) ?_
  refine aw_al_n F 0 dL_file_3 rfl rfl ?_
  refine aw_il_n F 1 dL_file_4 rfl rfl ?_
  refine aw_il_n F 2 dL_file_5 rfl rfl ?_
  refine aw_il_n F 3 dL_file_6 rfl rfl ?_
  refine aw_cVC F T.room (o := 0) (c := 7) [.int x1, .int x2, .int x3] hM mv_L7_file v_1026 cf7 (lo_s rfl) (hPP 0 rfl) rfl (by decide) rfl rfl (Nat.le_of_ble_eq_true rfl) ⟨(Nat.le_of_ble_eq_true rfl), (Nat.le_of_ble_eq_true rfl)⟩ ⟨(Nat.le_of_ble_eq_true rfl), (Nat.le_of_ble_eq_true rfl)⟩ dL_file_7 (fun i G1 hi hq => ?_) (fun v G1 hv => ?_)
  · obtain ⟨rfl, hp⟩ := hx i G1 hi hq
    refine ⟨[], ⟨0, 12, 15, 13⟩, [], by rw [et]; rfl, fun z hz => absurd hz List.not_mem_nil, by decide, by decide, v_374, fun q => ?_⟩
    refine aw_as F dL_file_15 (by decide) rfl ?_
    refine aw_ic F dL_file_17 (v := (1 : Int32)) (by decide) ?_
    exact aw_iret F T (Nat.le_of_ble_eq_true rfl) (Nat.le_of_ble_eq_true rfl) ⟨1, rfl, hp⟩ dL_file_18
  · obtain ⟨r, rfl, hr⟩ := hv
    refine aw_i2l F dL_file_10 ?_
    refine aw_last F (r := r) (hPP 25 rfl) (by unfold vp_in; decide) dL_file_11 ?_
    refine aw_go F (tgt := 19) dL_file_12 (by decide) ?_
    refine aw_ic F dL_file_19 (v := (0 : Int32)) (by decide) ?_
    exact aw_iret F T (Nat.le_of_ble_eq_true rfl) (Nat.le_of_ble_eq_true rfl) ⟨0, rfl, h0 r G1 hr⟩ dL_file_20
theorem mv_L7_use : MV yX7_use cX7_use 5 (some .int) 4 := ⟨⟨v_1042, v_1, by decide, by decide, by decide +kernel⟩, v_1040, v_1041⟩
theorem kL_use {l : Launch} {E : Ev} {P : Nat → Prop} {sd : Nat → Nat → Nat} {G : GH} {p0 : Int32 → GH → Prop} {px : Nat → GH → Prop} {post : Int32 → GH → Prop} {x1 x2 x3 x4 : Int32} (hPP : ∀ o, stt o = true → P o) (hM : CtX l yX7_use cX7_use 5 (some .int) 7 12 702 E P sd G [.ref (sd 0 0), .int x1, .int x2, .int x3, .int x4] (pI p0) px) (h0 : ∀ r G1, p0 r G1 → post 0 (gs G1 25 1 (upd (G1 25 1) 0 r))) (hx : ∀ i G1, i < 2 → px i G1 → (i = 0 → post 1 G1) ∧ (i = 1 → post 2 G1)) : CtW l yL_use cL_use 7 [(0, 14, 17, 18), (0, 14, 21, 13)] 8 12 702 E P sd G [.ref (sd 0 0), .int x1, .int x2, .int x3, .int x4, .ref (sd 25 1)] (pI post) := by
  refine ctw_of (own := "MarkFieldLaw") (by decide) rfl (Nat.le_of_ble_eq_true rfl) hPP (fun X F T el eP es et => ?_)
  subst el
  subst eP
  subst es
  change AW E X 7 0 [(0, .ref (sdX X 0 0)), (1, .int x1), (2, .int x2), (3, .int x3), (4, .int x4), (5, .ref (sdX X 25 1))] [] G 0 0
  refine aw_al F 5 dL_use_0 rfl ?_
  refine aw_ic F dL_use_2 (v := (0 : Int32)) (by decide) ?_
  refine aw_al_n F 0 dL_use_3 rfl rfl ?_
  refine aw_il_n F 1 dL_use_4 rfl rfl ?_
  refine aw_il_n F 2 dL_use_5 rfl rfl ?_
  refine aw_il_n F 3 dL_use_6 rfl rfl ?_
  refine aw_il F 4 dL_use_7 rfl ?_
  refine aw_cVC F T.room (o := 0) (c := 7) [.int x1, .int x2, .int x3, .int x4] hM mv_L7_use v_1039 cf7 (lo_s rfl) (hPP 0 rfl) rfl (by decide) rfl rfl (Nat.le_of_ble_eq_true rfl) ⟨(Nat.le_of_ble_eq_true rfl), (Nat.le_of_ble_eq_true rfl)⟩ ⟨(Nat.le_of_ble_eq_true rfl), (Nat.le_of_ble_eq_true rfl)⟩ dL_use_9 (fun i G1 hi hq => ?_) (fun v G1 hv => ?_)
  · have hp := hx i G1 hi hq
    have hi2 : i = 0 ∨ i = 1 := by omega
    rcases hi2 with rfl | rfl
    · refine ⟨[], ⟨0, 14, 17, 18⟩, [⟨0, 14, 21, 13⟩], by rw [et]; rfl, fun z hz => absurd hz List.not_mem_nil, by decide, by decide, v_620, fun q => ?_⟩
      refine aw_as F dL_use_17 (by decide) rfl ?_
      refine aw_ic F dL_use_19 (v := (1 : Int32)) (by decide) ?_
      exact aw_iret F T (Nat.le_of_ble_eq_true rfl) (Nat.le_of_ble_eq_true rfl) ⟨1, rfl, hp.1 rfl⟩ dL_use_20
    · refine ⟨[⟨0, 14, 17, 18⟩], ⟨0, 14, 21, 13⟩, [], by rw [et]; rfl, fun z hz => ?_, by decide, by decide, v_374, fun q => ?_⟩
      · cases List.mem_singleton.mp hz
        exact ⟨rfl, by decide, v_620⟩
      · skip
        refine aw_as F dL_use_21 (by decide) rfl ?_
        refine aw_ic F dL_use_23 (v := (2 : Int32)) (by decide) ?_
        exact aw_iret F T (Nat.le_of_ble_eq_true rfl) (Nat.le_of_ble_eq_true rfl) ⟨2, rfl, hp.2 rfl⟩ dL_use_24
  · obtain ⟨r, rfl, hr⟩ := hv
    refine aw_i2l F dL_use_12 ?_
    refine aw_last F (r := r) (hPP 25 rfl) (by unfold vp_in; decide) dL_use_13 ?_
    refine aw_go F (tgt := 25) dL_use_14 (by decide) ?_
    refine aw_ic F dL_use_25 (v := (0 : Int32)) (by decide) ?_
    exact aw_iret F T (Nat.le_of_ble_eq_true rfl) (Nat.le_of_ble_eq_true rfl) ⟨0, rfl, h0 r G1 hr⟩ dL_use_26
theorem mv_L7_consent : MV yX7_consent cX7_consent 4 (some .boolean) 3 := ⟨⟨v_1051, v_1, by decide, by decide, by decide +kernel⟩, v_1049, v_1050⟩
theorem kL_consent {l : Launch} {E : Ev} {P : Nat → Prop} {sd : Nat → Nat → Nat} {G : GH} {p0 : Bool → GH → Prop} {px : Nat → GH → Prop} {post : Int32 → GH → Prop} {x1 x2 x3 : Int32} (hPP : ∀ o, stt o = true → P o) (hM : CtX l yX7_consent cX7_consent 4 (some .boolean) 7 11 696 E P sd G [.ref (sd 0 0), .int x1, .int x2, .int x3] (pB p0) px) (h0 : ∀ r G1, p0 r G1 → post 0 (gs G1 25 1 (upd (G1 25 1) 0 (bI r)))) (hx : ∀ i G1, i < 2 → px i G1 → i = 0 ∧ post 1 G1) : CtW l yL_consent cL_consent 6 [(0, 19, 22, 18)] 8 11 696 E P sd G [.ref (sd 0 0), .int x1, .int x2, .int x3, .ref (sd 25 1)] (pI post) := by
  refine ctw_of (own := "MarkFieldLaw") (by decide) rfl (Nat.le_of_ble_eq_true rfl) hPP (fun X F T el eP es et => ?_)
  subst el
  subst eP
  subst es
  change AW E X 6 0 [(0, .ref (sdX X 0 0)), (1, .int x1), (2, .int x2), (3, .int x3), (4, .ref (sdX X 25 1))] [] G 0 0
  refine aw_al F 4 dL_consent_0 rfl ?_
  refine aw_ic F dL_consent_2 (v := (0 : Int32)) (by decide) ?_
  refine aw_al_n F 0 dL_consent_3 rfl rfl ?_
  refine aw_il_n F 1 dL_consent_4 rfl rfl ?_
  refine aw_il_n F 2 dL_consent_5 rfl rfl ?_
  refine aw_il_n F 3 dL_consent_6 rfl rfl ?_
  refine aw_cVC F T.room (o := 0) (c := 7) [.int x1, .int x2, .int x3] hM mv_L7_consent v_1048 cf7 (lo_s rfl) (hPP 0 rfl) rfl (by decide) rfl rfl (Nat.le_of_ble_eq_true rfl) ⟨(Nat.le_of_ble_eq_true rfl), (Nat.le_of_ble_eq_true rfl)⟩ ⟨(Nat.le_of_ble_eq_true rfl), (Nat.le_of_ble_eq_true rfl)⟩ dL_consent_7 (fun i G1 hi hq => ?_) (fun v G1 hv => ?_)
  · obtain ⟨rfl, hp⟩ := hx i G1 hi hq
    refine ⟨[], ⟨0, 19, 22, 18⟩, [], by rw [et]; rfl, fun z hz => absurd hz List.not_mem_nil, by decide, by decide, v_620, fun q => ?_⟩
    refine aw_as F dL_consent_22 (by decide) rfl ?_
    refine aw_ic F dL_consent_24 (v := (1 : Int32)) (by decide) ?_
    exact aw_iret F T (Nat.le_of_ble_eq_true rfl) (Nat.le_of_ble_eq_true rfl) ⟨1, rfl, hp⟩ dL_consent_25
  · obtain ⟨r, rfl, hr⟩ := hv
    refine aw_if_eq F (tgt := 17) dL_consent_10 (by decide) (fun hb => ?_) (fun hb => ?_)
    · have hb2 : r = false := bI_0.mp hb
      subst hb2
      refine aw_lc F (v := (bI false).toInt64) dL_consent_17 (by decide) ?_
      refine aw_last F (r := bI false) (hPP 25 rfl) (by unfold vp_in; decide) dL_consent_18 ?_
      refine aw_go F (tgt := 26) dL_consent_19 (by decide) ?_
      refine aw_ic F dL_consent_26 (v := (0 : Int32)) (by decide) ?_
      exact aw_iret F T (Nat.le_of_ble_eq_true rfl) (Nat.le_of_ble_eq_true rfl) ⟨0, rfl, h0 false G1 hr⟩ dL_consent_27
    · have hb2 : r = true := by
        cases r
        · exact absurd rfl hb
        · rfl
      subst hb2
      refine aw_lc F (v := (bI true).toInt64) dL_consent_13 (by decide) ?_
      refine aw_go F (tgt := 18) dL_consent_14 (by decide) ?_
      refine aw_last F (r := bI true) (hPP 25 rfl) (by unfold vp_in; decide) dL_consent_18 ?_
      refine aw_go F (tgt := 26) dL_consent_19 (by decide) ?_
      refine aw_ic F dL_consent_26 (v := (0 : Int32)) (by decide) ?_
      exact aw_iret F T (Nat.le_of_ble_eq_true rfl) (Nat.le_of_ble_eq_true rfl) ⟨0, rfl, h0 true G1 hr⟩ dL_consent_27
theorem mv_L7_drop : MV yX7_drop cX7_drop 2 (some .int) 1 := ⟨⟨v_1059, v_1, by decide, by decide, by decide +kernel⟩, v_1057, v_1058⟩
theorem kL_drop {l : Launch} {E : Ev} {P : Nat → Prop} {sd : Nat → Nat → Nat} {G : GH} {p0 : Int32 → GH → Prop} {px : Nat → GH → Prop} {post : Int32 → GH → Prop} {x1 : Int32} (hPP : ∀ o, stt o = true → P o) (hM : CtX l yX7_drop cX7_drop 2 (some .int) 7 11 696 E P sd G [.ref (sd 0 0), .int x1] (pI p0) px) (h0 : ∀ r G1, p0 r G1 → post 0 (gs G1 25 1 (upd (G1 25 1) 0 r))) (hx : ∀ i G1, i < 2 → px i G1 → i = 0 ∧ post 1 G1) : CtW l yL_drop cL_drop 4 [(0, 9, 12, 18)] 8 11 696 E P sd G [.ref (sd 0 0), .int x1, .ref (sd 25 1)] (pI post) := by
  refine ctw_of (own := "MarkFieldLaw") (by decide) rfl (Nat.le_of_ble_eq_true rfl) hPP (fun X F T el eP es et => ?_)
  subst el
  subst eP
  subst es
  change AW E X 4 0 [(0, .ref (sdX X 0 0)), (1, .int x1), (2, .ref (sdX X 25 1))] [] G 0 0
  refine aw_al_n F 2 dL_drop_0 rfl rfl ?_
  refine aw_ic F dL_drop_1 (v := (0 : Int32)) (by decide) ?_
  refine aw_al_n F 0 dL_drop_2 rfl rfl ?_
  refine aw_il_n F 1 dL_drop_3 rfl rfl ?_
  refine aw_cVC F T.room (o := 0) (c := 7) [.int x1] hM mv_L7_drop v_1056 cf7 (lo_s rfl) (hPP 0 rfl) rfl (by decide) rfl rfl (Nat.le_of_ble_eq_true rfl) ⟨(Nat.le_of_ble_eq_true rfl), (Nat.le_of_ble_eq_true rfl)⟩ ⟨(Nat.le_of_ble_eq_true rfl), (Nat.le_of_ble_eq_true rfl)⟩ dL_drop_4 (fun i G1 hi hq => ?_) (fun v G1 hv => ?_)
  · obtain ⟨rfl, hp⟩ := hx i G1 hi hq
    refine ⟨[], ⟨0, 9, 12, 18⟩, [], by rw [et]; rfl, fun z hz => absurd hz List.not_mem_nil, by decide, by decide, v_620, fun q => ?_⟩
    refine aw_as_n F dL_drop_12 rfl (by decide) rfl ?_
    refine aw_ic F dL_drop_13 (v := (1 : Int32)) (by decide) ?_
    exact aw_iret F T (Nat.le_of_ble_eq_true rfl) (Nat.le_of_ble_eq_true rfl) ⟨1, rfl, hp⟩ dL_drop_14
  · obtain ⟨r, rfl, hr⟩ := hv
    refine aw_i2l F dL_drop_7 ?_
    refine aw_last F (r := r) (hPP 25 rfl) (by unfold vp_in; decide) dL_drop_8 ?_
    refine aw_go F (tgt := 15) dL_drop_9 (by decide) ?_
    refine aw_ic F dL_drop_15 (v := (0 : Int32)) (by decide) ?_
    exact aw_iret F T (Nat.le_of_ble_eq_true rfl) (Nat.le_of_ble_eq_true rfl) ⟨0, rfl, h0 r G1 hr⟩ dL_drop_16
theorem mv_L7_rule : MV yX7_rule cX7_rule 4 (some .int) 2 := ⟨⟨v_1073, v_1, by decide, by decide, by decide +kernel⟩, v_1071, v_1072⟩
theorem kL_rule {l : Launch} {E : Ev} {P : Nat → Prop} {sd : Nat → Nat → Nat} {G : GH} {p0 : Int32 → GH → Prop} {px : Nat → GH → Prop} {post : Int32 → GH → Prop} {x1 x2 : Int32} (hPP : ∀ o, stt o = true → P o) (hM : CtX l yX7_rule cX7_rule 4 (some .int) 7 11 696 E P sd G [.ref (sd 0 0), .int x1, .int x2] (pI p0) px) (h0 : ∀ r G1, p0 r G1 → post 0 (gs G1 25 1 (upd (G1 25 1) 0 r))) (hx : ∀ i G1, i < 2 → px i G1 → (i = 0 → post 1 G1) ∧ (i = 1 → post 2 G1)) : CtW l yL_rule cL_rule 5 [(0, 10, 13, 18), (0, 10, 17, 13)] 8 11 696 E P sd G [.ref (sd 0 0), .int x1, .int x2, .ref (sd 25 1)] (pI post) := by
  refine ctw_of (own := "MarkFieldLaw") (by decide) rfl (Nat.le_of_ble_eq_true rfl) hPP (fun X F T el eP es et => ?_)
  subst el
  subst eP
  subst es
  change AW E X 5 0 [(0, .ref (sdX X 0 0)), (1, .int x1), (2, .int x2), (3, .ref (sdX X 25 1))] [] G 0 0
  refine aw_al_n F 3 dL_rule_0 rfl rfl ?_
  refine aw_ic F dL_rule_1 (v := (0 : Int32)) (by decide) ?_
  refine aw_al_n F 0 dL_rule_2 rfl rfl ?_
  refine aw_il_n F 1 dL_rule_3 rfl rfl ?_
  refine aw_il_n F 2 dL_rule_4 rfl rfl ?_
  refine aw_cVC F T.room (o := 0) (c := 7) [.int x1, .int x2] hM mv_L7_rule v_1070 cf7 (lo_s rfl) (hPP 0 rfl) rfl (by decide) rfl rfl (Nat.le_of_ble_eq_true rfl) ⟨(Nat.le_of_ble_eq_true rfl), (Nat.le_of_ble_eq_true rfl)⟩ ⟨(Nat.le_of_ble_eq_true rfl), (Nat.le_of_ble_eq_true rfl)⟩ dL_rule_5 (fun i G1 hi hq => ?_) (fun v G1 hv => ?_)
  · have hp := hx i G1 hi hq
    have hi2 : i = 0 ∨ i = 1 := by omega
    rcases hi2 with rfl | rfl
    · refine ⟨[], ⟨0, 10, 13, 18⟩, [⟨0, 10, 17, 13⟩], by rw [et]; rfl, fun z hz => absurd hz List.not_mem_nil, by decide, by decide, v_620, fun q => ?_⟩
      refine aw_as F dL_rule_13 (by decide) rfl ?_
      refine aw_ic F dL_rule_15 (v := (1 : Int32)) (by decide) ?_
      exact aw_iret F T (Nat.le_of_ble_eq_true rfl) (Nat.le_of_ble_eq_true rfl) ⟨1, rfl, hp.1 rfl⟩ dL_rule_16
    · refine ⟨[⟨0, 10, 13, 18⟩], ⟨0, 10, 17, 13⟩, [], by rw [et]; rfl, fun z hz => ?_, by decide, by decide, v_374, fun q => ?_⟩
      · cases List.mem_singleton.mp hz
        exact ⟨rfl, by decide, v_620⟩
      · skip
        refine aw_as F dL_rule_17 (by decide) rfl ?_
        refine aw_ic F dL_rule_19 (v := (2 : Int32)) (by decide) ?_
        exact aw_iret F T (Nat.le_of_ble_eq_true rfl) (Nat.le_of_ble_eq_true rfl) ⟨2, rfl, hp.2 rfl⟩ dL_rule_20
  · obtain ⟨r, rfl, hr⟩ := hv
    refine aw_i2l F dL_rule_8 ?_
    refine aw_last F (r := r) (hPP 25 rfl) (by unfold vp_in; decide) dL_rule_9 ?_
    refine aw_go F (tgt := 21) dL_rule_10 (by decide) ?_
    refine aw_ic F dL_rule_21 (v := (0 : Int32)) (by decide) ?_
    exact aw_iret F T (Nat.le_of_ble_eq_true rfl) (Nat.le_of_ble_eq_true rfl) ⟨0, rfl, h0 r G1 hr⟩ dL_rule_22
theorem mv_L7_near : MV yX7_near cX7_near 4 (some .boolean) 3 := ⟨⟨v_1083, v_1, by decide, by decide, by decide +kernel⟩, v_1081, v_1082⟩
theorem kL_near {l : Launch} {E : Ev} {P : Nat → Prop} {sd : Nat → Nat → Nat} {G : GH} {p0 : Bool → GH → Prop} {px : Nat → GH → Prop} {post : Int32 → GH → Prop} {x1 x2 x3 : Int32} (hPP : ∀ o, stt o = true → P o) (hM : CtX l yX7_near cX7_near 4 (some .boolean) 6 10 690 E P sd G [.ref (sd 0 0), .int x1, .int x2, .int x3] (pB p0) px) (h0 : ∀ r G1, p0 r G1 → post 0 (gs G1 25 1 (upd (G1 25 1) 0 (bI r)))) (hx : ∀ i G1, i < 2 → px i G1 → i = 0 ∧ post 1 G1) : CtW l yL_near cL_near 6 [(0, 19, 22, 18)] 7 10 690 E P sd G [.ref (sd 0 0), .int x1, .int x2, .int x3, .ref (sd 25 1)] (pI post) := by
  refine ctw_of (own := "MarkFieldLaw") (by decide) rfl (Nat.le_of_ble_eq_true rfl) hPP (fun X F T el eP es et => ?_)
  subst el
  subst eP
  subst es
  change AW E X 6 0 [(0, .ref (sdX X 0 0)), (1, .int x1), (2, .int x2), (3, .int x3), (4, .ref (sdX X 25 1))] [] G 0 0
  refine aw_al F 4 dL_near_0 rfl ?_
  refine aw_ic F dL_near_2 (v := (0 : Int32)) (by decide) ?_
  refine aw_al_n F 0 dL_near_3 rfl rfl ?_
  refine aw_il_n F 1 dL_near_4 rfl rfl ?_
  refine aw_il_n F 2 dL_near_5 rfl rfl ?_
  refine aw_il_n F 3 dL_near_6 rfl rfl ?_
  refine aw_cVC F T.room (o := 0) (c := 7) [.int x1, .int x2, .int x3] hM mv_L7_near v_1080 cf7 (lo_s rfl) (hPP 0 rfl) rfl (by decide) rfl rfl (Nat.le_of_ble_eq_true rfl) ⟨(Nat.le_of_ble_eq_true rfl), (Nat.le_of_ble_eq_true rfl)⟩ ⟨(Nat.le_of_ble_eq_true rfl), (Nat.le_of_ble_eq_true rfl)⟩ dL_near_7 (fun i G1 hi hq => ?_) (fun v G1 hv => ?_)
  · obtain ⟨rfl, hp⟩ := hx i G1 hi hq
    refine ⟨[], ⟨0, 19, 22, 18⟩, [], by rw [et]; rfl, fun z hz => absurd hz List.not_mem_nil, by decide, by decide, v_620, fun q => ?_⟩
    refine aw_as F dL_near_22 (by decide) rfl ?_
    refine aw_ic F dL_near_24 (v := (1 : Int32)) (by decide) ?_
    exact aw_iret F T (Nat.le_of_ble_eq_true rfl) (Nat.le_of_ble_eq_true rfl) ⟨1, rfl, hp⟩ dL_near_25
  · obtain ⟨r, rfl, hr⟩ := hv
    refine aw_if_eq F (tgt := 17) dL_near_10 (by decide) (fun hb => ?_) (fun hb => ?_)
    · have hb2 : r = false := bI_0.mp hb
      subst hb2
      refine aw_lc F (v := (bI false).toInt64) dL_near_17 (by decide) ?_
      refine aw_last F (r := bI false) (hPP 25 rfl) (by unfold vp_in; decide) dL_near_18 ?_
      refine aw_go F (tgt := 26) dL_near_19 (by decide) ?_
      refine aw_ic F dL_near_26 (v := (0 : Int32)) (by decide) ?_
      exact aw_iret F T (Nat.le_of_ble_eq_true rfl) (Nat.le_of_ble_eq_true rfl) ⟨0, rfl, h0 false G1 hr⟩ dL_near_27
    · have hb2 : r = true := by
        cases r
        · exact absurd rfl hb
        · rfl
      subst hb2
      refine aw_lc F (v := (bI true).toInt64) dL_near_13 (by decide) ?_
      refine aw_go F (tgt := 18) dL_near_14 (by decide) ?_
      refine aw_last F (r := bI true) (hPP 25 rfl) (by unfold vp_in; decide) dL_near_18 ?_
      refine aw_go F (tgt := 26) dL_near_19 (by decide) ?_
      refine aw_ic F dL_near_26 (v := (0 : Int32)) (by decide) ?_
      exact aw_iret F T (Nat.le_of_ble_eq_true rfl) (Nat.le_of_ble_eq_true rfl) ⟨0, rfl, h0 true G1 hr⟩ dL_near_27
theorem mv_L7_ask : MV yX7_ask cX7_ask 4 (some .int) 2 := ⟨⟨v_1090, v_1, by decide, by decide, by decide +kernel⟩, v_1088, v_1089⟩
theorem kL_ask {l : Launch} {E : Ev} {P : Nat → Prop} {sd : Nat → Nat → Nat} {G : GH} {p0 : Int32 → GH → Prop} {px : Nat → GH → Prop} {post : Int32 → GH → Prop} {x1 x2 : Int32} (hPP : ∀ o, stt o = true → P o) (hM : CtX l yX7_ask cX7_ask 4 (some .int) 38 3 18 E P sd G [.ref (sd 0 0), .int x1, .int x2] (pI p0) px) (h0 : ∀ r G1, p0 r G1 → post 0 (gs G1 25 1 (upd (G1 25 1) 0 r))) (hx : ∀ i G1, i < 2 → px i G1 → i = 1 ∧ post 1 G1) : CtW l yL_ask cL_ask 5 [(0, 10, 13, 13)] 39 3 18 E P sd G [.ref (sd 0 0), .int x1, .int x2, .ref (sd 25 1)] (pI post) := by
  refine ctw_of (own := "MarkFieldLaw") (by decide) rfl (Nat.le_of_ble_eq_true rfl) hPP (fun X F T el eP es et => ?_)
  subst el
  subst eP
  subst es
  change AW E X 5 0 [(0, .ref (sdX X 0 0)), (1, .int x1), (2, .int x2), (3, .ref (sdX X 25 1))] [] G 0 0
  refine aw_al_n F 3 dL_ask_0 rfl rfl ?_
  refine aw_ic F dL_ask_1 (v := (0 : Int32)) (by decide) ?_
  refine aw_al_n F 0 dL_ask_2 rfl rfl ?_
  refine aw_il_n F 1 dL_ask_3 rfl rfl ?_
  refine aw_il_n F 2 dL_ask_4 rfl rfl ?_
  refine aw_cVC F T.room (o := 0) (c := 7) [.int x1, .int x2] hM mv_L7_ask v_1087 cf7 (lo_s rfl) (hPP 0 rfl) rfl (by decide) rfl rfl (Nat.le_of_ble_eq_true rfl) ⟨(Nat.le_of_ble_eq_true rfl), (Nat.le_of_ble_eq_true rfl)⟩ ⟨(Nat.le_of_ble_eq_true rfl), (Nat.le_of_ble_eq_true rfl)⟩ dL_ask_5 (fun i G1 hi hq => ?_) (fun v G1 hv => ?_)
  · obtain ⟨rfl, hp⟩ := hx i G1 hi hq
    refine ⟨[], ⟨0, 10, 13, 13⟩, [], by rw [et]; rfl, fun z hz => absurd hz List.not_mem_nil, by decide, by decide, v_374, fun q => ?_⟩
    refine aw_as F dL_ask_13 (by decide) rfl ?_
    refine aw_ic F dL_ask_15 (v := (1 : Int32)) (by decide) ?_
    exact aw_iret F T (Nat.le_of_ble_eq_true rfl) (Nat.le_of_ble_eq_true rfl) ⟨1, rfl, hp⟩ dL_ask_16
  · obtain ⟨r, rfl, hr⟩ := hv
    refine aw_i2l F dL_ask_8 ?_
    refine aw_last F (r := r) (hPP 25 rfl) (by unfold vp_in; decide) dL_ask_9 ?_
    refine aw_go F (tgt := 17) dL_ask_10 (by decide) ?_
    refine aw_ic F dL_ask_17 (v := (0 : Int32)) (by decide) ?_
    exact aw_iret F T (Nat.le_of_ble_eq_true rfl) (Nat.le_of_ble_eq_true rfl) ⟨0, rfl, h0 r G1 hr⟩ dL_ask_18
