theorem dX8_init_0 : decode cX8_init 0 = .ok (.aload_n 0, 1) := by decide +kernel
theorem dX8_init_1 : decode cX8_init 1 = .ok (.invokespecial 3, 3) := by decide +kernel
theorem dX8_init_4 : decode cX8_init 4 = .ok (.aload_n 0, 1) := by decide +kernel
theorem dX8_init_5 : decode cX8_init 5 = .ok (.sipush 681, 3) := by decide +kernel
theorem dX8_init_8 : decode cX8_init 8 = .ok (.newarray .int, 2) := by decide +kernel
theorem dX8_init_10 : decode cX8_init 10 = .ok (.putfield 9, 3) := by decide +kernel
theorem dX8_init_13 : decode cX8_init 13 = .ok (.aload_n 0, 1) := by decide +kernel
theorem dX8_init_14 : decode cX8_init 14 = .ok (.sipush 681, 3) := by decide +kernel
theorem dX8_init_17 : decode cX8_init 17 = .ok (.newarray .int, 2) := by decide +kernel
theorem dX8_init_19 : decode cX8_init 19 = .ok (.putfield 13, 3) := by decide +kernel
theorem dX8_init_22 : decode cX8_init 22 = .ok (.aload_n 0, 1) := by decide +kernel
theorem dX8_init_23 : decode cX8_init 23 = .ok (.sipush 681, 3) := by decide +kernel
theorem dX8_init_26 : decode cX8_init 26 = .ok (.newarray .int, 2) := by decide +kernel
theorem dX8_init_28 : decode cX8_init 28 = .ok (.putfield 16, 3) := by decide +kernel
theorem dX8_init_31 : decode cX8_init 31 = .ok (.aload_n 0, 1) := by decide +kernel
theorem dX8_init_32 : decode cX8_init 32 = .ok (.sipush 8172, 3) := by decide +kernel
theorem dX8_init_35 : decode cX8_init 35 = .ok (.newarray .int, 2) := by decide +kernel
theorem dX8_init_37 : decode cX8_init 37 = .ok (.putfield 19, 3) := by decide +kernel
theorem dX8_init_40 : decode cX8_init 40 = .ok (.aload_n 0, 1) := by decide +kernel
theorem dX8_init_41 : decode cX8_init 41 = .ok (.sipush 260, 3) := by decide +kernel
theorem dX8_init_44 : decode cX8_init 44 = .ok (.newarray .int, 2) := by decide +kernel
theorem dX8_init_46 : decode cX8_init 46 = .ok (.putfield 22, 3) := by decide +kernel
theorem dX8_init_49 : decode cX8_init 49 = .ok (.aload_n 0, 1) := by decide +kernel
theorem dX8_init_50 : decode cX8_init 50 = .ok (.bipush 13, 2) := by decide +kernel
theorem dX8_init_52 : decode cX8_init 52 = .ok (.newarray .int, 2) := by decide +kernel
theorem dX8_init_54 : decode cX8_init 54 = .ok (.putfield 25, 3) := by decide +kernel
theorem dX8_init_57 : decode cX8_init 57 = .ok (.aload_n 0, 1) := by decide +kernel
theorem dX8_init_58 : decode cX8_init 58 = .ok (.bipush 20, 2) := by decide +kernel
theorem dX8_init_60 : decode cX8_init 60 = .ok (.newarray .int, 2) := by decide +kernel
theorem dX8_init_62 : decode cX8_init 62 = .ok (.putfield 28, 3) := by decide +kernel
theorem dX8_init_65 : decode cX8_init 65 = .ok (.aload_n 0, 1) := by decide +kernel
theorem dX8_init_66 : decode cX8_init 66 = .ok (.bipush 20, 2) := by decide +kernel
theorem dX8_init_68 : decode cX8_init 68 = .ok (.newarray .int, 2) := by decide +kernel
theorem dX8_init_70 : decode cX8_init 70 = .ok (.putfield 31, 3) := by decide +kernel
theorem dX8_init_73 : decode cX8_init 73 = .ok (.aload_n 0, 1) := by decide +kernel
theorem dX8_init_74 : decode cX8_init 74 = .ok (.sipush 441, 3) := by decide +kernel
theorem dX8_init_77 : decode cX8_init 77 = .ok (.newarray .int, 2) := by decide +kernel
theorem dX8_init_79 : decode cX8_init 79 = .ok (.putfield 34, 3) := by decide +kernel
theorem dX8_init_82 : decode cX8_init 82 = .ok (.aload_n 0, 1) := by decide +kernel
theorem dX8_init_83 : decode cX8_init 83 = .ok (.sipush 169, 3) := by decide +kernel
theorem dX8_init_86 : decode cX8_init 86 = .ok (.newarray .int, 2) := by decide +kernel
theorem dX8_init_88 : decode cX8_init 88 = .ok (.putfield 37, 3) := by decide +kernel
theorem dX8_init_91 : decode cX8_init 91 = .ok (.aload_n 0, 1) := by decide +kernel
theorem dX8_init_92 : decode cX8_init 92 = .ok (.sipush 169, 3) := by decide +kernel
theorem dX8_init_95 : decode cX8_init 95 = .ok (.newarray .int, 2) := by decide +kernel
theorem dX8_init_97 : decode cX8_init 97 = .ok (.putfield 40, 3) := by decide +kernel
theorem dX8_init_100 : decode cX8_init 100 = .ok (.aload_n 0, 1) := by decide +kernel
theorem dX8_init_101 : decode cX8_init 101 = .ok (.sipush 169, 3) := by decide +kernel
theorem dX8_init_104 : decode cX8_init 104 = .ok (.newarray .int, 2) := by decide +kernel
theorem dX8_init_106 : decode cX8_init 106 = .ok (.putfield 43, 3) := by decide +kernel
theorem dX8_init_109 : decode cX8_init 109 = .ok (.aload_n 0, 1) := by decide +kernel
theorem dX8_init_110 : decode cX8_init 110 = .ok (.sipush 169, 3) := by decide +kernel
theorem dX8_init_113 : decode cX8_init 113 = .ok (.newarray .int, 2) := by decide +kernel
theorem dX8_init_115 : decode cX8_init 115 = .ok (.putfield 46, 3) := by decide +kernel
theorem dX8_init_118 : decode cX8_init 118 = .ok (.aload_n 0, 1) := by decide +kernel
theorem dX8_init_119 : decode cX8_init 119 = .ok (.bipush 13, 2) := by decide +kernel
theorem dX8_init_121 : decode cX8_init 121 = .ok (.newarray .int, 2) := by decide +kernel
theorem dX8_init_123 : decode cX8_init 123 = .ok (.putfield 49, 3) := by decide +kernel
theorem dX8_init_126 : decode cX8_init 126 = .ok (.aload_n 0, 1) := by decide +kernel
theorem dX8_init_127 : decode cX8_init 127 = .ok (.bipush 13, 2) := by decide +kernel
theorem dX8_init_129 : decode cX8_init 129 = .ok (.newarray .int, 2) := by decide +kernel
theorem dX8_init_131 : decode cX8_init 131 = .ok (.putfield 52, 3) := by decide +kernel
theorem dX8_init_134 : decode cX8_init 134 = .ok (.aload_n 0, 1) := by decide +kernel
theorem dX8_init_135 : decode cX8_init 135 = .ok (.bipush 13, 2) := by decide +kernel
theorem dX8_init_137 : decode cX8_init 137 = .ok (.newarray .int, 2) := by decide +kernel
theorem dX8_init_139 : decode cX8_init 139 = .ok (.putfield 55, 3) := by decide +kernel
theorem dX8_init_142 : decode cX8_init 142 = .ok (.aload_n 0, 1) := by decide +kernel
theorem dX8_init_143 : decode cX8_init 143 = .ok (.bipush 10, 2) := by decide +kernel
theorem dX8_init_145 : decode cX8_init 145 = .ok (.newarray .int, 2) := by decide +kernel
theorem dX8_init_147 : decode cX8_init 147 = .ok (.putfield 58, 3) := by decide +kernel
theorem dX8_init_150 : decode cX8_init 150 = .ok (.aload_n 0, 1) := by decide +kernel
theorem dX8_init_151 : decode cX8_init 151 = .ok (.bipush 13, 2) := by decide +kernel
theorem dX8_init_153 : decode cX8_init 153 = .ok (.newarray .int, 2) := by decide +kernel
theorem dX8_init_155 : decode cX8_init 155 = .ok (.putfield 61, 3) := by decide +kernel
theorem dX8_init_158 : decode cX8_init 158 = .ok (.aload_n 0, 1) := by decide +kernel
theorem dX8_init_159 : decode cX8_init 159 = .ok (.bipush 13, 2) := by decide +kernel
theorem dX8_init_161 : decode cX8_init 161 = .ok (.newarray .int, 2) := by decide +kernel
theorem dX8_init_163 : decode cX8_init 163 = .ok (.putfield 64, 3) := by decide +kernel
theorem dX8_init_166 : decode cX8_init 166 = .ok (.aload_n 0, 1) := by decide +kernel
theorem dX8_init_167 : decode cX8_init 167 = .ok (.bipush 13, 2) := by decide +kernel
theorem dX8_init_169 : decode cX8_init 169 = .ok (.newarray .int, 2) := by decide +kernel
theorem dX8_init_171 : decode cX8_init 171 = .ok (.putfield 67, 3) := by decide +kernel
theorem dX8_init_174 : decode cX8_init 174 = .ok (.aload_n 0, 1) := by decide +kernel
theorem dX8_init_175 : decode cX8_init 175 = .ok (.sipush 325, 3) := by decide +kernel
theorem dX8_init_178 : decode cX8_init 178 = .ok (.newarray .int, 2) := by decide +kernel
theorem dX8_init_180 : decode cX8_init 180 = .ok (.putfield 70, 3) := by decide +kernel
theorem dX8_init_183 : decode cX8_init 183 = .ok (.aload_n 0, 1) := by decide +kernel
theorem dX8_init_184 : decode cX8_init 184 = .ok (.bipush 10, 2) := by decide +kernel
theorem dX8_init_186 : decode cX8_init 186 = .ok (.newarray .int, 2) := by decide +kernel
theorem dX8_init_188 : decode cX8_init 188 = .ok (.putfield 73, 3) := by decide +kernel
theorem dX8_init_191 : decode cX8_init 191 = .ok (.aload_n 0, 1) := by decide +kernel
theorem dX8_init_192 : decode cX8_init 192 = .ok (.sipush 700, 3) := by decide +kernel
theorem dX8_init_195 : decode cX8_init 195 = .ok (.newarray .int, 2) := by decide +kernel
theorem dX8_init_197 : decode cX8_init 197 = .ok (.putfield 76, 3) := by decide +kernel
theorem dX8_init_200 : decode cX8_init 200 = .ok (.aload_n 0, 1) := by decide +kernel
theorem dX8_init_201 : decode cX8_init 201 = .ok (.iconst (-1), 1) := by decide +kernel
theorem dX8_init_202 : decode cX8_init 202 = .ok (.putfield 79, 3) := by decide +kernel
theorem dX8_init_205 : decode cX8_init 205 = .ok (.aload_n 0, 1) := by decide +kernel
theorem dX8_init_206 : decode cX8_init 206 = .ok (.getfield 9, 3) := by decide +kernel
theorem dX8_init_209 : decode cX8_init 209 = .ok (.invokestatic 83, 3) := by decide +kernel
theorem dX8_init_212 : decode cX8_init 212 = .ok (.aload_n 0, 1) := by decide +kernel
theorem dX8_init_213 : decode cX8_init 213 = .ok (.getfield 9, 3) := by decide +kernel
theorem dX8_init_216 : decode cX8_init 216 = .ok (.iconst 0, 1) := by decide +kernel
theorem dX8_init_217 : decode cX8_init 217 = .ok (.iconst 1, 1) := by decide +kernel
theorem dX8_init_218 : decode cX8_init 218 = .ok (.iastore, 1) := by decide +kernel
theorem dX8_init_219 : decode cX8_init 219 = .ok (.return_, 1) := by decide +kernel
theorem dX8_thrown_0 : decode cX8_thrown 0 = .ok (.aload_n 0, 1) := by decide +kernel
theorem dX8_thrown_1 : decode cX8_thrown 1 = .ok (.getfield 87, 3) := by decide +kernel
theorem dX8_thrown_4 : decode cX8_thrown 4 = .ok (.ireturn, 1) := by decide +kernel
theorem dX8_fail_0 : decode cX8_fail 0 = .ok (.aload_n 0, 1) := by decide +kernel
theorem dX8_fail_1 : decode cX8_fail 1 = .ok (.iload_n 1, 1) := by decide +kernel
theorem dX8_fail_2 : decode cX8_fail 2 = .ok (.putfield 87, 3) := by decide +kernel
theorem dX8_fail_5 : decode cX8_fail 5 = .ok (.iconst 0, 1) := by decide +kernel
theorem dX8_fail_6 : decode cX8_fail 6 = .ok (.ireturn, 1) := by decide +kernel
theorem dX8_within_0 : decode cX8_within 0 = .ok (.iload_n 0, 1) := by decide +kernel
theorem dX8_within_1 : decode cX8_within 1 = .ok (.iload_n 1, 1) := by decide +kernel
theorem dX8_within_2 : decode cX8_within 2 = .ok (.if_icmp .lt 12, 3) := by decide +kernel
theorem dX8_within_5 : decode cX8_within 5 = .ok (.iload_n 0, 1) := by decide +kernel
theorem dX8_within_6 : decode cX8_within 6 = .ok (.iload_n 2, 1) := by decide +kernel
theorem dX8_within_7 : decode cX8_within 7 = .ok (.if_icmp .gt 7, 3) := by decide +kernel
theorem dX8_within_10 : decode cX8_within 10 = .ok (.iconst 1, 1) := by decide +kernel
theorem dX8_within_11 : decode cX8_within 11 = .ok (.goto 4, 3) := by decide +kernel
theorem dX8_within_14 : decode cX8_within 14 = .ok (.iconst 0, 1) := by decide +kernel
theorem dX8_within_15 : decode cX8_within 15 = .ok (.ireturn, 1) := by decide +kernel
theorem dX8_has_0 : decode cX8_has 0 = .ok (.iload_n 0, 1) := by decide +kernel
theorem dX8_has_1 : decode cX8_has 1 = .ok (.iload_n 1, 1) := by decide +kernel
theorem dX8_has_2 : decode cX8_has 2 = .ok (.ishr, 1) := by decide +kernel
theorem dX8_has_3 : decode cX8_has 3 = .ok (.iconst 1, 1) := by decide +kernel
theorem dX8_has_4 : decode cX8_has 4 = .ok (.iand, 1) := by decide +kernel
theorem dX8_has_5 : decode cX8_has 5 = .ok (.iconst 1, 1) := by decide +kernel
theorem dX8_has_6 : decode cX8_has 6 = .ok (.if_icmp .ne 7, 3) := by decide +kernel
theorem dX8_has_9 : decode cX8_has 9 = .ok (.iconst 1, 1) := by decide +kernel
theorem dX8_has_10 : decode cX8_has 10 = .ok (.goto 4, 3) := by decide +kernel
theorem dX8_has_13 : decode cX8_has 13 = .ok (.iconst 0, 1) := by decide +kernel
theorem dX8_has_14 : decode cX8_has 14 = .ok (.ireturn, 1) := by decide +kernel
theorem dX8_bitsOf_0 : decode cX8_bitsOf 0 = .ok (.iconst 0, 1) := by decide +kernel
theorem dX8_bitsOf_1 : decode cX8_bitsOf 1 = .ok (.istore_n 1, 1) := by decide +kernel
theorem dX8_bitsOf_2 : decode cX8_bitsOf 2 = .ok (.iload_n 0, 1) := by decide +kernel
theorem dX8_bitsOf_3 : decode cX8_bitsOf 3 = .ok (.istore_n 2, 1) := by decide +kernel
theorem dX8_bitsOf_4 : decode cX8_bitsOf 4 = .ok (.iload_n 2, 1) := by decide +kernel
theorem dX8_bitsOf_5 : decode cX8_bitsOf 5 = .ok (.ifCond .eq 15, 3) := by decide +kernel
theorem dX8_bitsOf_8 : decode cX8_bitsOf 8 = .ok (.iinc 1 1, 3) := by decide +kernel
theorem dX8_bitsOf_11 : decode cX8_bitsOf 11 = .ok (.iload_n 2, 1) := by decide +kernel
theorem dX8_bitsOf_12 : decode cX8_bitsOf 12 = .ok (.iload_n 2, 1) := by decide +kernel
theorem dX8_bitsOf_13 : decode cX8_bitsOf 13 = .ok (.iconst 1, 1) := by decide +kernel
theorem dX8_bitsOf_14 : decode cX8_bitsOf 14 = .ok (.isub, 1) := by decide +kernel
theorem dX8_bitsOf_15 : decode cX8_bitsOf 15 = .ok (.iand, 1) := by decide +kernel
theorem dX8_bitsOf_16 : decode cX8_bitsOf 16 = .ok (.istore_n 2, 1) := by decide +kernel
theorem dX8_bitsOf_17 : decode cX8_bitsOf 17 = .ok (.goto (-13), 3) := by decide +kernel
theorem dX8_bitsOf_20 : decode cX8_bitsOf 20 = .ok (.iload_n 1, 1) := by decide +kernel
theorem dX8_bitsOf_21 : decode cX8_bitsOf 21 = .ok (.ireturn, 1) := by decide +kernel
theorem dX8_begins_0 : decode cX8_begins 0 = .ok (.iconst 0, 1) := by decide +kernel
theorem dX8_begins_1 : decode cX8_begins 1 = .ok (.istore_n 1, 1) := by decide +kernel
theorem dX8_begins_2 : decode cX8_begins 2 = .ok (.iload_n 1, 1) := by decide +kernel
theorem dX8_begins_3 : decode cX8_begins 3 = .ok (.sipush 681, 3) := by decide +kernel
theorem dX8_begins_6 : decode cX8_begins 6 = .ok (.if_icmp .ge 13, 3) := by decide +kernel
theorem dX8_begins_9 : decode cX8_begins 9 = .ok (.aload_n 0, 1) := by decide +kernel
theorem dX8_begins_10 : decode cX8_begins 10 = .ok (.iload_n 1, 1) := by decide +kernel
theorem dX8_begins_11 : decode cX8_begins 11 = .ok (.iconst 0, 1) := by decide +kernel
theorem dX8_begins_12 : decode cX8_begins 12 = .ok (.iastore, 1) := by decide +kernel
theorem dX8_begins_13 : decode cX8_begins 13 = .ok (.iinc 1 1, 3) := by decide +kernel
theorem dX8_begins_16 : decode cX8_begins 16 = .ok (.goto (-14), 3) := by decide +kernel
theorem dX8_begins_19 : decode cX8_begins 19 = .ok (.aload_n 0, 1) := by decide +kernel
theorem dX8_begins_20 : decode cX8_begins 20 = .ok (.iconst 2, 1) := by decide +kernel
theorem dX8_begins_21 : decode cX8_begins 21 = .ok (.bipush 60, 2) := by decide +kernel
theorem dX8_begins_23 : decode cX8_begins 23 = .ok (.iastore, 1) := by decide +kernel
theorem dX8_begins_24 : decode cX8_begins 24 = .ok (.aload_n 0, 1) := by decide +kernel
theorem dX8_begins_25 : decode cX8_begins 25 = .ok (.iconst 3, 1) := by decide +kernel
theorem dX8_begins_26 : decode cX8_begins 26 = .ok (.iconst 5, 1) := by decide +kernel
theorem dX8_begins_27 : decode cX8_begins 27 = .ok (.iastore, 1) := by decide +kernel
theorem dX8_begins_28 : decode cX8_begins 28 = .ok (.aload_n 0, 1) := by decide +kernel
theorem dX8_begins_29 : decode cX8_begins 29 = .ok (.iconst 4, 1) := by decide +kernel
theorem dX8_begins_30 : decode cX8_begins 30 = .ok (.iconst 2, 1) := by decide +kernel
theorem dX8_begins_31 : decode cX8_begins 31 = .ok (.iastore, 1) := by decide +kernel
theorem dX8_begins_32 : decode cX8_begins 32 = .ok (.aload_n 0, 1) := by decide +kernel
theorem dX8_begins_33 : decode cX8_begins 33 = .ok (.bipush 6, 2) := by decide +kernel
theorem dX8_begins_35 : decode cX8_begins 35 = .ok (.bipush 30, 2) := by decide +kernel
theorem dX8_begins_37 : decode cX8_begins 37 = .ok (.iastore, 1) := by decide +kernel
theorem dX8_begins_38 : decode cX8_begins 38 = .ok (.aload_n 0, 1) := by decide +kernel
theorem dX8_begins_39 : decode cX8_begins 39 = .ok (.bipush 7, 2) := by decide +kernel
theorem dX8_begins_41 : decode cX8_begins 41 = .ok (.bipush 50, 2) := by decide +kernel
theorem dX8_begins_43 : decode cX8_begins 43 = .ok (.iastore, 1) := by decide +kernel
theorem dX8_begins_44 : decode cX8_begins 44 = .ok (.return_, 1) := by decide +kernel
theorem dX8_marks_0 : decode cX8_marks 0 = .ok (.aload_n 0, 1) := by decide +kernel
theorem dX8_marks_1 : decode cX8_marks 1 = .ok (.getfield 9, 3) := by decide +kernel
theorem dX8_marks_4 : decode cX8_marks 4 = .ok (.iconst 1, 1) := by decide +kernel
theorem dX8_marks_5 : decode cX8_marks 5 = .ok (.iaload, 1) := by decide +kernel
theorem dX8_marks_6 : decode cX8_marks 6 = .ok (.ireturn, 1) := by decide +kernel
theorem dX8_halvesMany_0 : decode cX8_halvesMany 0 = .ok (.iconst 2, 1) := by decide +kernel
theorem dX8_halvesMany_1 : decode cX8_halvesMany 1 = .ok (.aload_n 0, 1) := by decide +kernel
theorem dX8_halvesMany_2 : decode cX8_halvesMany 2 = .ok (.getfield 9, 3) := by decide +kernel
theorem dX8_halvesMany_5 : decode cX8_halvesMany 5 = .ok (.iconst 0, 1) := by decide +kernel
theorem dX8_halvesMany_6 : decode cX8_halvesMany 6 = .ok (.iaload, 1) := by decide +kernel
theorem dX8_halvesMany_7 : decode cX8_halvesMany 7 = .ok (.imul, 1) := by decide +kernel
theorem dX8_halvesMany_8 : decode cX8_halvesMany 8 = .ok (.ireturn, 1) := by decide +kernel
theorem dX8_ruleOf_0 : decode cX8_ruleOf 0 = .ok (.aload_n 0, 1) := by decide +kernel
theorem dX8_ruleOf_1 : decode cX8_ruleOf 1 = .ok (.getfield 9, 3) := by decide +kernel
theorem dX8_ruleOf_4 : decode cX8_ruleOf 4 = .ok (.iconst 2, 1) := by decide +kernel
theorem dX8_ruleOf_5 : decode cX8_ruleOf 5 = .ok (.iload_n 1, 1) := by decide +kernel
theorem dX8_ruleOf_6 : decode cX8_ruleOf 6 = .ok (.iadd, 1) := by decide +kernel
theorem dX8_ruleOf_7 : decode cX8_ruleOf 7 = .ok (.iaload, 1) := by decide +kernel
theorem dX8_ruleOf_8 : decode cX8_ruleOf 8 = .ok (.ireturn, 1) := by decide +kernel
theorem dX8_of1_0 : decode cX8_of1 0 = .ok (.aload_n 0, 1) := by decide +kernel
theorem dX8_of1_1 : decode cX8_of1 1 = .ok (.getfield 9, 3) := by decide +kernel
theorem dX8_of1_4 : decode cX8_of1 4 = .ok (.bipush 18, 2) := by decide +kernel
theorem dX8_of1_6 : decode cX8_of1 6 = .ok (.bipush 51, 2) := by decide +kernel
theorem dX8_of1_8 : decode cX8_of1 8 = .ok (.iload_n 1, 1) := by decide +kernel
theorem dX8_of1_9 : decode cX8_of1 9 = .ok (.imul, 1) := by decide +kernel
theorem dX8_of1_10 : decode cX8_of1 10 = .ok (.iadd, 1) := by decide +kernel
theorem dX8_of1_11 : decode cX8_of1 11 = .ok (.iload_n 2, 1) := by decide +kernel
theorem dX8_of1_12 : decode cX8_of1 12 = .ok (.iadd, 1) := by decide +kernel
theorem dX8_of1_13 : decode cX8_of1 13 = .ok (.iaload, 1) := by decide +kernel
theorem dX8_of1_14 : decode cX8_of1 14 = .ok (.ireturn, 1) := by decide +kernel
theorem dX8_put_0 : decode cX8_put 0 = .ok (.aload_n 0, 1) := by decide +kernel
theorem dX8_put_1 : decode cX8_put 1 = .ok (.getfield 9, 3) := by decide +kernel
theorem dX8_put_4 : decode cX8_put 4 = .ok (.bipush 18, 2) := by decide +kernel
theorem dX8_put_6 : decode cX8_put 6 = .ok (.bipush 51, 2) := by decide +kernel
theorem dX8_put_8 : decode cX8_put 8 = .ok (.iload_n 1, 1) := by decide +kernel
theorem dX8_put_9 : decode cX8_put 9 = .ok (.imul, 1) := by decide +kernel
theorem dX8_put_10 : decode cX8_put 10 = .ok (.iadd, 1) := by decide +kernel
theorem dX8_put_11 : decode cX8_put 11 = .ok (.iload_n 2, 1) := by decide +kernel
theorem dX8_put_12 : decode cX8_put 12 = .ok (.iadd, 1) := by decide +kernel
theorem dX8_put_13 : decode cX8_put 13 = .ok (.iload_n 3, 1) := by decide +kernel
theorem dX8_put_14 : decode cX8_put 14 = .ok (.iastore, 1) := by decide +kernel
theorem dX8_put_15 : decode cX8_put 15 = .ok (.return_, 1) := by decide +kernel
theorem dX8_isMark_0 : decode cX8_isMark 0 = .ok (.iload_n 1, 1) := by decide +kernel
theorem dX8_isMark_1 : decode cX8_isMark 1 = .ok (.iconst 0, 1) := by decide +kernel
theorem dX8_isMark_2 : decode cX8_isMark 2 = .ok (.aload_n 0, 1) := by decide +kernel
theorem dX8_isMark_3 : decode cX8_isMark 3 = .ok (.invokevirtual 90, 3) := by decide +kernel
theorem dX8_isMark_6 : decode cX8_isMark 6 = .ok (.iconst 1, 1) := by decide +kernel
theorem dX8_isMark_7 : decode cX8_isMark 7 = .ok (.isub, 1) := by decide +kernel
theorem dX8_isMark_8 : decode cX8_isMark 8 = .ok (.invokestatic 94, 3) := by decide +kernel
theorem dX8_isMark_11 : decode cX8_isMark 11 = .ok (.ireturn, 1) := by decide +kernel
theorem dX8_isHalf_0 : decode cX8_isHalf 0 = .ok (.iload_n 1, 1) := by decide +kernel
theorem dX8_isHalf_1 : decode cX8_isHalf 1 = .ok (.iconst 0, 1) := by decide +kernel
theorem dX8_isHalf_2 : decode cX8_isHalf 2 = .ok (.aload_n 0, 1) := by decide +kernel
theorem dX8_isHalf_3 : decode cX8_isHalf 3 = .ok (.invokevirtual 98, 3) := by decide +kernel
theorem dX8_isHalf_6 : decode cX8_isHalf 6 = .ok (.iconst 1, 1) := by decide +kernel
theorem dX8_isHalf_7 : decode cX8_isHalf 7 = .ok (.isub, 1) := by decide +kernel
theorem dX8_isHalf_8 : decode cX8_isHalf 8 = .ok (.invokestatic 94, 3) := by decide +kernel
theorem dX8_isHalf_11 : decode cX8_isHalf 11 = .ok (.ireturn, 1) := by decide +kernel
theorem dX8_isDay_0 : decode cX8_isDay 0 = .ok (.iload_n 0, 1) := by decide +kernel
theorem dX8_isDay_1 : decode cX8_isDay 1 = .ok (.iconst 0, 1) := by decide +kernel
theorem dX8_isDay_2 : decode cX8_isDay 2 = .ok (.sipush 9999, 3) := by decide +kernel
theorem dX8_isDay_5 : decode cX8_isDay 5 = .ok (.invokestatic 94, 3) := by decide +kernel
theorem dX8_isDay_8 : decode cX8_isDay 8 = .ok (.ireturn, 1) := by decide +kernel
theorem dX8_letterAt_0 : decode cX8_letterAt 0 = .ok (.iload_n 2, 1) := by decide +kernel
theorem dX8_letterAt_1 : decode cX8_letterAt 1 = .ok (.aload_n 0, 1) := by decide +kernel
theorem dX8_letterAt_2 : decode cX8_letterAt 2 = .ok (.iload_n 1, 1) := by decide +kernel
theorem dX8_letterAt_3 : decode cX8_letterAt 3 = .ok (.iconst 0, 1) := by decide +kernel
theorem dX8_letterAt_4 : decode cX8_letterAt 4 = .ok (.invokevirtual 101, 3) := by decide +kernel
theorem dX8_letterAt_7 : decode cX8_letterAt 7 = .ok (.if_icmp .ge 14, 3) := by decide +kernel
theorem dX8_letterAt_10 : decode cX8_letterAt 10 = .ok (.aload_n 0, 1) := by decide +kernel
theorem dX8_letterAt_11 : decode cX8_letterAt 11 = .ok (.iload_n 1, 1) := by decide +kernel
theorem dX8_letterAt_12 : decode cX8_letterAt 12 = .ok (.iconst 1, 1) := by decide +kernel
theorem dX8_letterAt_13 : decode cX8_letterAt 13 = .ok (.iload_n 2, 1) := by decide +kernel
theorem dX8_letterAt_14 : decode cX8_letterAt 14 = .ok (.iadd, 1) := by decide +kernel
theorem dX8_letterAt_15 : decode cX8_letterAt 15 = .ok (.invokevirtual 101, 3) := by decide +kernel
theorem dX8_letterAt_18 : decode cX8_letterAt 18 = .ok (.goto 4, 3) := by decide +kernel
theorem dX8_letterAt_21 : decode cX8_letterAt 21 = .ok (.iconst 0, 1) := by decide +kernel
theorem dX8_letterAt_22 : decode cX8_letterAt 22 = .ok (.ireturn, 1) := by decide +kernel
theorem dX8_isPair_0 : decode cX8_isPair 0 = .ok (.aload_n 0, 1) := by decide +kernel
theorem dX8_isPair_1 : decode cX8_isPair 1 = .ok (.iload_n 1, 1) := by decide +kernel
theorem dX8_isPair_2 : decode cX8_isPair 2 = .ok (.iload_n 2, 1) := by decide +kernel
theorem dX8_isPair_3 : decode cX8_isPair 3 = .ok (.invokevirtual 105, 3) := by decide +kernel
theorem dX8_isPair_6 : decode cX8_isPair 6 = .ok (.iload_n 3, 1) := by decide +kernel
theorem dX8_isPair_7 : decode cX8_isPair 7 = .ok (.if_icmp .ne 20, 3) := by decide +kernel
theorem dX8_isPair_10 : decode cX8_isPair 10 = .ok (.aload_n 0, 1) := by decide +kernel
theorem dX8_isPair_11 : decode cX8_isPair 11 = .ok (.iload_n 1, 1) := by decide +kernel
theorem dX8_isPair_12 : decode cX8_isPair 12 = .ok (.iload_n 2, 1) := by decide +kernel
theorem dX8_isPair_13 : decode cX8_isPair 13 = .ok (.iconst 1, 1) := by decide +kernel
theorem dX8_isPair_14 : decode cX8_isPair 14 = .ok (.iadd, 1) := by decide +kernel
theorem dX8_isPair_15 : decode cX8_isPair 15 = .ok (.invokevirtual 105, 3) := by decide +kernel
theorem dX8_isPair_18 : decode cX8_isPair 18 = .ok (.iload 4, 2) := by decide +kernel
theorem dX8_isPair_20 : decode cX8_isPair 20 = .ok (.if_icmp .ne 7, 3) := by decide +kernel
theorem dX8_isPair_23 : decode cX8_isPair 23 = .ok (.iconst 1, 1) := by decide +kernel
theorem dX8_isPair_24 : decode cX8_isPair 24 = .ok (.goto 4, 3) := by decide +kernel
theorem dX8_isPair_27 : decode cX8_isPair 27 = .ok (.iconst 0, 1) := by decide +kernel
theorem dX8_isPair_28 : decode cX8_isPair 28 = .ok (.ireturn, 1) := by decide +kernel
theorem dX8_hears_0 : decode cX8_hears 0 = .ok (.aload_n 0, 1) := by decide +kernel
theorem dX8_hears_1 : decode cX8_hears 1 = .ok (.getfield 25, 3) := by decide +kernel
theorem dX8_hears_4 : decode cX8_hears 4 = .ok (.iload_n 1, 1) := by decide +kernel
theorem dX8_hears_5 : decode cX8_hears 5 = .ok (.iaload, 1) := by decide +kernel
theorem dX8_hears_6 : decode cX8_hears 6 = .ok (.istore_n 3, 1) := by decide +kernel
theorem dX8_hears_7 : decode cX8_hears 7 = .ok (.iload_n 3, 1) := by decide +kernel
theorem dX8_hears_8 : decode cX8_hears 8 = .ok (.ifCond .le 21, 3) := by decide +kernel
theorem dX8_hears_11 : decode cX8_hears 11 = .ok (.aload_n 0, 1) := by decide +kernel
theorem dX8_hears_12 : decode cX8_hears 12 = .ok (.getfield 22, 3) := by decide +kernel
theorem dX8_hears_15 : decode cX8_hears 15 = .ok (.bipush 20, 2) := by decide +kernel
theorem dX8_hears_17 : decode cX8_hears 17 = .ok (.iload_n 1, 1) := by decide +kernel
theorem dX8_hears_18 : decode cX8_hears 18 = .ok (.imul, 1) := by decide +kernel
theorem dX8_hears_19 : decode cX8_hears 19 = .ok (.iload_n 3, 1) := by decide +kernel
theorem dX8_hears_20 : decode cX8_hears 20 = .ok (.iadd, 1) := by decide +kernel
theorem dX8_hears_21 : decode cX8_hears 21 = .ok (.iconst 1, 1) := by decide +kernel
theorem dX8_hears_22 : decode cX8_hears 22 = .ok (.isub, 1) := by decide +kernel
theorem dX8_hears_23 : decode cX8_hears 23 = .ok (.iaload, 1) := by decide +kernel
theorem dX8_hears_24 : decode cX8_hears 24 = .ok (.iload_n 2, 1) := by decide +kernel
theorem dX8_hears_25 : decode cX8_hears 25 = .ok (.if_icmp .ne 4, 3) := by decide +kernel
theorem dX8_hears_28 : decode cX8_hears 28 = .ok (.return_, 1) := by decide +kernel
theorem dX8_hears_29 : decode cX8_hears 29 = .ok (.aload_n 0, 1) := by decide +kernel
theorem dX8_hears_30 : decode cX8_hears 30 = .ok (.getfield 22, 3) := by decide +kernel
theorem dX8_hears_33 : decode cX8_hears 33 = .ok (.bipush 20, 2) := by decide +kernel
theorem dX8_hears_35 : decode cX8_hears 35 = .ok (.iload_n 1, 1) := by decide +kernel
theorem dX8_hears_36 : decode cX8_hears 36 = .ok (.imul, 1) := by decide +kernel
theorem dX8_hears_37 : decode cX8_hears 37 = .ok (.iload_n 3, 1) := by decide +kernel
theorem dX8_hears_38 : decode cX8_hears 38 = .ok (.iadd, 1) := by decide +kernel
theorem dX8_hears_39 : decode cX8_hears 39 = .ok (.iload_n 2, 1) := by decide +kernel
theorem dX8_hears_40 : decode cX8_hears 40 = .ok (.iastore, 1) := by decide +kernel
theorem dX8_hears_41 : decode cX8_hears 41 = .ok (.aload_n 0, 1) := by decide +kernel
theorem dX8_hears_42 : decode cX8_hears 42 = .ok (.getfield 25, 3) := by decide +kernel
theorem dX8_hears_45 : decode cX8_hears 45 = .ok (.iload_n 1, 1) := by decide +kernel
theorem dX8_hears_46 : decode cX8_hears 46 = .ok (.dup2, 1) := by decide +kernel
theorem dX8_hears_47 : decode cX8_hears 47 = .ok (.iaload, 1) := by decide +kernel
theorem dX8_hears_48 : decode cX8_hears 48 = .ok (.iconst 1, 1) := by decide +kernel
theorem dX8_hears_49 : decode cX8_hears 49 = .ok (.iadd, 1) := by decide +kernel
theorem dX8_hears_50 : decode cX8_hears 50 = .ok (.iastore, 1) := by decide +kernel
theorem dX8_hears_51 : decode cX8_hears 51 = .ok (.return_, 1) := by decide +kernel
theorem dX8_pairAt_0 : decode cX8_pairAt 0 = .ok (.aload_n 0, 1) := by decide +kernel
theorem dX8_pairAt_1 : decode cX8_pairAt 1 = .ok (.iload_n 1, 1) := by decide +kernel
theorem dX8_pairAt_2 : decode cX8_pairAt 2 = .ok (.iload_n 2, 1) := by decide +kernel
theorem dX8_pairAt_3 : decode cX8_pairAt 3 = .ok (.bipush 112, 2) := by decide +kernel
theorem dX8_pairAt_5 : decode cX8_pairAt 5 = .ok (.bipush 104, 2) := by decide +kernel
theorem dX8_pairAt_7 : decode cX8_pairAt 7 = .ok (.invokevirtual 108, 3) := by decide +kernel
theorem dX8_pairAt_10 : decode cX8_pairAt 10 = .ok (.ifCond .eq 5, 3) := by decide +kernel
theorem dX8_pairAt_13 : decode cX8_pairAt 13 = .ok (.iconst 1, 1) := by decide +kernel
theorem dX8_pairAt_14 : decode cX8_pairAt 14 = .ok (.ireturn, 1) := by decide +kernel
theorem dX8_pairAt_15 : decode cX8_pairAt 15 = .ok (.aload_n 0, 1) := by decide +kernel
theorem dX8_pairAt_16 : decode cX8_pairAt 16 = .ok (.iload_n 1, 1) := by decide +kernel
theorem dX8_pairAt_17 : decode cX8_pairAt 17 = .ok (.iload_n 2, 1) := by decide +kernel
theorem dX8_pairAt_18 : decode cX8_pairAt 18 = .ok (.bipush 116, 2) := by decide +kernel
theorem dX8_pairAt_20 : decode cX8_pairAt 20 = .ok (.bipush 104, 2) := by decide +kernel
theorem dX8_pairAt_22 : decode cX8_pairAt 22 = .ok (.invokevirtual 108, 3) := by decide +kernel
theorem dX8_pairAt_25 : decode cX8_pairAt 25 = .ok (.ifCond .eq 6, 3) := by decide +kernel
theorem dX8_pairAt_28 : decode cX8_pairAt 28 = .ok (.bipush 9, 2) := by decide +kernel
theorem dX8_pairAt_30 : decode cX8_pairAt 30 = .ok (.ireturn, 1) := by decide +kernel
theorem dX8_pairAt_31 : decode cX8_pairAt 31 = .ok (.aload_n 0, 1) := by decide +kernel
theorem dX8_pairAt_32 : decode cX8_pairAt 32 = .ok (.iload_n 1, 1) := by decide +kernel
theorem dX8_pairAt_33 : decode cX8_pairAt 33 = .ok (.iload_n 2, 1) := by decide +kernel
theorem dX8_pairAt_34 : decode cX8_pairAt 34 = .ok (.bipush 99, 2) := by decide +kernel
theorem dX8_pairAt_36 : decode cX8_pairAt 36 = .ok (.bipush 104, 2) := by decide +kernel
theorem dX8_pairAt_38 : decode cX8_pairAt 38 = .ok (.invokevirtual 108, 3) := by decide +kernel
theorem dX8_pairAt_41 : decode cX8_pairAt 41 = .ok (.ifCond .ne 16, 3) := by decide +kernel
theorem dX8_pairAt_44 : decode cX8_pairAt 44 = .ok (.aload_n 0, 1) := by decide +kernel
theorem dX8_pairAt_45 : decode cX8_pairAt 45 = .ok (.iload_n 1, 1) := by decide +kernel
theorem dX8_pairAt_46 : decode cX8_pairAt 46 = .ok (.iload_n 2, 1) := by decide +kernel
theorem dX8_pairAt_47 : decode cX8_pairAt 47 = .ok (.bipush 99, 2) := by decide +kernel
theorem dX8_pairAt_49 : decode cX8_pairAt 49 = .ok (.bipush 107, 2) := by decide +kernel
theorem dX8_pairAt_51 : decode cX8_pairAt 51 = .ok (.invokevirtual 108, 3) := by decide +kernel
theorem dX8_pairAt_54 : decode cX8_pairAt 54 = .ok (.ifCond .eq 5, 3) := by decide +kernel
theorem dX8_pairAt_57 : decode cX8_pairAt 57 = .ok (.iconst 2, 1) := by decide +kernel
theorem dX8_pairAt_58 : decode cX8_pairAt 58 = .ok (.ireturn, 1) := by decide +kernel
theorem dX8_pairAt_59 : decode cX8_pairAt 59 = .ok (.aload_n 0, 1) := by decide +kernel
theorem dX8_pairAt_60 : decode cX8_pairAt 60 = .ok (.iload_n 1, 1) := by decide +kernel
theorem dX8_pairAt_61 : decode cX8_pairAt 61 = .ok (.iload_n 2, 1) := by decide +kernel
theorem dX8_pairAt_62 : decode cX8_pairAt 62 = .ok (.bipush 115, 2) := by decide +kernel
theorem dX8_pairAt_64 : decode cX8_pairAt 64 = .ok (.bipush 104, 2) := by decide +kernel
theorem dX8_pairAt_66 : decode cX8_pairAt 66 = .ok (.invokevirtual 108, 3) := by decide +kernel
theorem dX8_pairAt_69 : decode cX8_pairAt 69 = .ok (.ifCond .eq 6, 3) := by decide +kernel
theorem dX8_pairAt_72 : decode cX8_pairAt 72 = .ok (.bipush 8, 2) := by decide +kernel
theorem dX8_pairAt_74 : decode cX8_pairAt 74 = .ok (.ireturn, 1) := by decide +kernel
theorem dX8_pairAt_75 : decode cX8_pairAt 75 = .ok (.aload_n 0, 1) := by decide +kernel
theorem dX8_pairAt_76 : decode cX8_pairAt 76 = .ok (.iload_n 1, 1) := by decide +kernel
theorem dX8_pairAt_77 : decode cX8_pairAt 77 = .ok (.iload_n 2, 1) := by decide +kernel
theorem dX8_pairAt_78 : decode cX8_pairAt 78 = .ok (.bipush 103, 2) := by decide +kernel
theorem dX8_pairAt_80 : decode cX8_pairAt 80 = .ok (.bipush 104, 2) := by decide +kernel
theorem dX8_pairAt_82 : decode cX8_pairAt 82 = .ok (.invokevirtual 108, 3) := by decide +kernel
theorem dX8_pairAt_85 : decode cX8_pairAt 85 = .ok (.ifCond .eq 8, 3) := by decide +kernel
theorem dX8_pairAt_88 : decode cX8_pairAt 88 = .ok (.bipush (-2), 2) := by decide +kernel
theorem dX8_pairAt_90 : decode cX8_pairAt 90 = .ok (.goto 4, 3) := by decide +kernel
theorem dX8_pairAt_93 : decode cX8_pairAt 93 = .ok (.iconst (-1), 1) := by decide +kernel
theorem dX8_pairAt_94 : decode cX8_pairAt 94 = .ok (.ireturn, 1) := by decide +kernel
theorem dX8_singleAt_0 : decode cX8_singleAt 0 = .ok (.aload_n 0, 1) := by decide +kernel
theorem dX8_singleAt_1 : decode cX8_singleAt 1 = .ok (.iload_n 1, 1) := by decide +kernel
theorem dX8_singleAt_2 : decode cX8_singleAt 2 = .ok (.iload_n 2, 1) := by decide +kernel
theorem dX8_singleAt_3 : decode cX8_singleAt 3 = .ok (.iconst 1, 1) := by decide +kernel
theorem dX8_singleAt_4 : decode cX8_singleAt 4 = .ok (.iadd, 1) := by decide +kernel
theorem dX8_singleAt_5 : decode cX8_singleAt 5 = .ok (.invokevirtual 105, 3) := by decide +kernel
theorem dX8_singleAt_8 : decode cX8_singleAt 8 = .ok (.istore_n 3, 1) := by decide +kernel
theorem dX8_singleAt_9 : decode cX8_singleAt 9 = .ok (.aload_n 0, 1) := by decide +kernel
theorem dX8_singleAt_10 : decode cX8_singleAt 10 = .ok (.iload_n 1, 1) := by decide +kernel
theorem dX8_singleAt_11 : decode cX8_singleAt 11 = .ok (.iload_n 2, 1) := by decide +kernel
theorem dX8_singleAt_12 : decode cX8_singleAt 12 = .ok (.invokevirtual 105, 3) := by decide +kernel
theorem dX8_singleAt_15 : decode cX8_singleAt 15 = .ok (.tableswitch 162 98 122 #[145, 113, 148, 162, 143, 138, 160, 162, 138, 138, 155, 151, 153, 162, 145, 138, 157, 140, 148, 162, 143, 160, 162, 162, 140], 113) := by decide +kernel
theorem dX8_singleAt_128 : decode cX8_singleAt 128 = .ok (.iload_n 3, 1) := by decide +kernel
theorem dX8_singleAt_129 : decode cX8_singleAt 129 = .ok (.bipush 101, 2) := by decide +kernel
theorem dX8_singleAt_131 : decode cX8_singleAt 131 = .ok (.if_icmp .eq 15, 3) := by decide +kernel
theorem dX8_singleAt_134 : decode cX8_singleAt 134 = .ok (.iload_n 3, 1) := by decide +kernel
theorem dX8_singleAt_135 : decode cX8_singleAt 135 = .ok (.bipush 105, 2) := by decide +kernel
theorem dX8_singleAt_137 : decode cX8_singleAt 137 = .ok (.if_icmp .eq 9, 3) := by decide +kernel
theorem dX8_singleAt_140 : decode cX8_singleAt 140 = .ok (.iload_n 3, 1) := by decide +kernel
theorem dX8_singleAt_141 : decode cX8_singleAt 141 = .ok (.bipush 121, 2) := by decide +kernel
theorem dX8_singleAt_143 : decode cX8_singleAt 143 = .ok (.if_icmp .ne 8, 3) := by decide +kernel
theorem dX8_singleAt_146 : decode cX8_singleAt 146 = .ok (.bipush 8, 2) := by decide +kernel
theorem dX8_singleAt_148 : decode cX8_singleAt 148 = .ok (.goto 4, 3) := by decide +kernel
theorem dX8_singleAt_151 : decode cX8_singleAt 151 = .ok (.iconst 2, 1) := by decide +kernel
theorem dX8_singleAt_152 : decode cX8_singleAt 152 = .ok (.ireturn, 1) := by decide +kernel
theorem dX8_singleAt_153 : decode cX8_singleAt 153 = .ok (.iconst 2, 1) := by decide +kernel
theorem dX8_singleAt_154 : decode cX8_singleAt 154 = .ok (.ireturn, 1) := by decide +kernel
theorem dX8_singleAt_155 : decode cX8_singleAt 155 = .ok (.bipush 8, 2) := by decide +kernel
theorem dX8_singleAt_157 : decode cX8_singleAt 157 = .ok (.ireturn, 1) := by decide +kernel
theorem dX8_singleAt_158 : decode cX8_singleAt 158 = .ok (.iconst 1, 1) := by decide +kernel
theorem dX8_singleAt_159 : decode cX8_singleAt 159 = .ok (.ireturn, 1) := by decide +kernel
theorem dX8_singleAt_160 : decode cX8_singleAt 160 = .ok (.bipush 6, 2) := by decide +kernel
theorem dX8_singleAt_162 : decode cX8_singleAt 162 = .ok (.ireturn, 1) := by decide +kernel
theorem dX8_singleAt_163 : decode cX8_singleAt 163 = .ok (.bipush 9, 2) := by decide +kernel
theorem dX8_singleAt_165 : decode cX8_singleAt 165 = .ok (.ireturn, 1) := by decide +kernel
theorem dX8_singleAt_166 : decode cX8_singleAt 166 = .ok (.iconst 4, 1) := by decide +kernel
theorem dX8_singleAt_167 : decode cX8_singleAt 167 = .ok (.ireturn, 1) := by decide +kernel
theorem dX8_singleAt_168 : decode cX8_singleAt 168 = .ok (.iconst 5, 1) := by decide +kernel
theorem dX8_singleAt_169 : decode cX8_singleAt 169 = .ok (.ireturn, 1) := by decide +kernel
theorem dX8_singleAt_170 : decode cX8_singleAt 170 = .ok (.iconst 3, 1) := by decide +kernel
theorem dX8_singleAt_171 : decode cX8_singleAt 171 = .ok (.ireturn, 1) := by decide +kernel
theorem dX8_singleAt_172 : decode cX8_singleAt 172 = .ok (.bipush 7, 2) := by decide +kernel
theorem dX8_singleAt_174 : decode cX8_singleAt 174 = .ok (.ireturn, 1) := by decide +kernel
theorem dX8_singleAt_175 : decode cX8_singleAt 175 = .ok (.iconst (-1), 1) := by decide +kernel
theorem dX8_singleAt_176 : decode cX8_singleAt 176 = .ok (.ireturn, 1) := by decide +kernel
theorem dX8_singleAt_177 : decode cX8_singleAt 177 = .ok (.iload_n 2, 1) := by decide +kernel
theorem dX8_singleAt_178 : decode cX8_singleAt 178 = .ok (.ifCond .ne 7, 3) := by decide +kernel
theorem dX8_singleAt_181 : decode cX8_singleAt 181 = .ok (.iconst 0, 1) := by decide +kernel
theorem dX8_singleAt_182 : decode cX8_singleAt 182 = .ok (.goto 4, 3) := by decide +kernel
theorem dX8_singleAt_185 : decode cX8_singleAt 185 = .ok (.iconst (-1), 1) := by decide +kernel
theorem dX8_singleAt_186 : decode cX8_singleAt 186 = .ok (.ireturn, 1) := by decide +kernel
theorem dX8_laySounds_0 : decode cX8_laySounds 0 = .ok (.aload_n 0, 1) := by decide +kernel
theorem dX8_laySounds_1 : decode cX8_laySounds 1 = .ok (.getfield 25, 3) := by decide +kernel
theorem dX8_laySounds_4 : decode cX8_laySounds 4 = .ok (.iload_n 1, 1) := by decide +kernel
theorem dX8_laySounds_5 : decode cX8_laySounds 5 = .ok (.iconst 0, 1) := by decide +kernel
theorem dX8_laySounds_6 : decode cX8_laySounds 6 = .ok (.iastore, 1) := by decide +kernel
theorem dX8_laySounds_7 : decode cX8_laySounds 7 = .ok (.iconst 0, 1) := by decide +kernel
theorem dX8_laySounds_8 : decode cX8_laySounds 8 = .ok (.istore_n 2, 1) := by decide +kernel
theorem dX8_laySounds_9 : decode cX8_laySounds 9 = .ok (.iload_n 2, 1) := by decide +kernel
theorem dX8_laySounds_10 : decode cX8_laySounds 10 = .ok (.aload_n 0, 1) := by decide +kernel
theorem dX8_laySounds_11 : decode cX8_laySounds 11 = .ok (.iload_n 1, 1) := by decide +kernel
theorem dX8_laySounds_12 : decode cX8_laySounds 12 = .ok (.iconst 0, 1) := by decide +kernel
theorem dX8_laySounds_13 : decode cX8_laySounds 13 = .ok (.invokevirtual 101, 3) := by decide +kernel
theorem dX8_laySounds_16 : decode cX8_laySounds 16 = .ok (.if_icmp .ge 85, 3) := by decide +kernel
theorem dX8_laySounds_19 : decode cX8_laySounds 19 = .ok (.aload_n 0, 1) := by decide +kernel
theorem dX8_laySounds_20 : decode cX8_laySounds 20 = .ok (.iload_n 1, 1) := by decide +kernel
theorem dX8_laySounds_21 : decode cX8_laySounds 21 = .ok (.iload_n 2, 1) := by decide +kernel
theorem dX8_laySounds_22 : decode cX8_laySounds 22 = .ok (.invokevirtual 112, 3) := by decide +kernel
theorem dX8_laySounds_25 : decode cX8_laySounds 25 = .ok (.istore_n 3, 1) := by decide +kernel
theorem dX8_laySounds_26 : decode cX8_laySounds 26 = .ok (.iload_n 3, 1) := by decide +kernel
theorem dX8_laySounds_27 : decode cX8_laySounds 27 = .ok (.iconst (-1), 1) := by decide +kernel
theorem dX8_laySounds_28 : decode cX8_laySounds 28 = .ok (.if_icmp .eq 19, 3) := by decide +kernel
theorem dX8_laySounds_31 : decode cX8_laySounds 31 = .ok (.iload_n 3, 1) := by decide +kernel
theorem dX8_laySounds_32 : decode cX8_laySounds 32 = .ok (.ifCond .lt 9, 3) := by decide +kernel
theorem dX8_laySounds_35 : decode cX8_laySounds 35 = .ok (.aload_n 0, 1) := by decide +kernel
theorem dX8_laySounds_36 : decode cX8_laySounds 36 = .ok (.iload_n 1, 1) := by decide +kernel
theorem dX8_laySounds_37 : decode cX8_laySounds 37 = .ok (.iload_n 3, 1) := by decide +kernel
theorem dX8_laySounds_38 : decode cX8_laySounds 38 = .ok (.invokevirtual 115, 3) := by decide +kernel
theorem dX8_laySounds_41 : decode cX8_laySounds 41 = .ok (.iinc 2 2, 3) := by decide +kernel
theorem dX8_laySounds_44 : decode cX8_laySounds 44 = .ok (.goto (-35), 3) := by decide +kernel
theorem dX8_laySounds_47 : decode cX8_laySounds 47 = .ok (.aload_n 0, 1) := by decide +kernel
theorem dX8_laySounds_48 : decode cX8_laySounds 48 = .ok (.iload_n 1, 1) := by decide +kernel
theorem dX8_laySounds_49 : decode cX8_laySounds 49 = .ok (.iload_n 2, 1) := by decide +kernel
theorem dX8_laySounds_50 : decode cX8_laySounds 50 = .ok (.invokevirtual 105, 3) := by decide +kernel
theorem dX8_laySounds_53 : decode cX8_laySounds 53 = .ok (.bipush 120, 2) := by decide +kernel
theorem dX8_laySounds_55 : decode cX8_laySounds 55 = .ok (.if_icmp .ne 19, 3) := by decide +kernel
theorem dX8_laySounds_58 : decode cX8_laySounds 58 = .ok (.aload_n 0, 1) := by decide +kernel
theorem dX8_laySounds_59 : decode cX8_laySounds 59 = .ok (.iload_n 1, 1) := by decide +kernel
theorem dX8_laySounds_60 : decode cX8_laySounds 60 = .ok (.iconst 2, 1) := by decide +kernel
theorem dX8_laySounds_61 : decode cX8_laySounds 61 = .ok (.invokevirtual 115, 3) := by decide +kernel
theorem dX8_laySounds_64 : decode cX8_laySounds 64 = .ok (.aload_n 0, 1) := by decide +kernel
theorem dX8_laySounds_65 : decode cX8_laySounds 65 = .ok (.iload_n 1, 1) := by decide +kernel
theorem dX8_laySounds_66 : decode cX8_laySounds 66 = .ok (.bipush 8, 2) := by decide +kernel
theorem dX8_laySounds_68 : decode cX8_laySounds 68 = .ok (.invokevirtual 115, 3) := by decide +kernel
theorem dX8_laySounds_71 : decode cX8_laySounds 71 = .ok (.goto 24, 3) := by decide +kernel
theorem dX8_laySounds_74 : decode cX8_laySounds 74 = .ok (.aload_n 0, 1) := by decide +kernel
theorem dX8_laySounds_75 : decode cX8_laySounds 75 = .ok (.iload_n 1, 1) := by decide +kernel
theorem dX8_laySounds_76 : decode cX8_laySounds 76 = .ok (.iload_n 2, 1) := by decide +kernel
theorem dX8_laySounds_77 : decode cX8_laySounds 77 = .ok (.invokevirtual 119, 3) := by decide +kernel
theorem dX8_laySounds_80 : decode cX8_laySounds 80 = .ok (.iconst (-1), 1) := by decide +kernel
theorem dX8_laySounds_81 : decode cX8_laySounds 81 = .ok (.if_icmp .eq 14, 3) := by decide +kernel
theorem dX8_laySounds_84 : decode cX8_laySounds 84 = .ok (.aload_n 0, 1) := by decide +kernel
theorem dX8_laySounds_85 : decode cX8_laySounds 85 = .ok (.iload_n 1, 1) := by decide +kernel
theorem dX8_laySounds_86 : decode cX8_laySounds 86 = .ok (.aload_n 0, 1) := by decide +kernel
theorem dX8_laySounds_87 : decode cX8_laySounds 87 = .ok (.iload_n 1, 1) := by decide +kernel
theorem dX8_laySounds_88 : decode cX8_laySounds 88 = .ok (.iload_n 2, 1) := by decide +kernel
theorem dX8_laySounds_89 : decode cX8_laySounds 89 = .ok (.invokevirtual 119, 3) := by decide +kernel
theorem dX8_laySounds_92 : decode cX8_laySounds 92 = .ok (.invokevirtual 115, 3) := by decide +kernel
theorem dX8_laySounds_95 : decode cX8_laySounds 95 = .ok (.iinc 2 1, 3) := by decide +kernel
theorem dX8_laySounds_98 : decode cX8_laySounds 98 = .ok (.goto (-89), 3) := by decide +kernel
theorem dX8_laySounds_101 : decode cX8_laySounds 101 = .ok (.return_, 1) := by decide +kernel
theorem dX8_areTwo_0 : decode cX8_areTwo 0 = .ok (.iload_n 0, 1) := by decide +kernel
theorem dX8_areTwo_1 : decode cX8_areTwo 1 = .ok (.iload_n 2, 1) := by decide +kernel
theorem dX8_areTwo_2 : decode cX8_areTwo 2 = .ok (.if_icmp .ne 8, 3) := by decide +kernel
theorem dX8_areTwo_5 : decode cX8_areTwo 5 = .ok (.iload_n 1, 1) := by decide +kernel
theorem dX8_areTwo_6 : decode cX8_areTwo 6 = .ok (.iload_n 3, 1) := by decide +kernel
theorem dX8_areTwo_7 : decode cX8_areTwo 7 = .ok (.if_icmp .eq 13, 3) := by decide +kernel
theorem dX8_areTwo_10 : decode cX8_areTwo 10 = .ok (.iload_n 0, 1) := by decide +kernel
theorem dX8_areTwo_11 : decode cX8_areTwo 11 = .ok (.iload_n 3, 1) := by decide +kernel
theorem dX8_areTwo_12 : decode cX8_areTwo 12 = .ok (.if_icmp .ne 12, 3) := by decide +kernel
theorem dX8_areTwo_15 : decode cX8_areTwo 15 = .ok (.iload_n 1, 1) := by decide +kernel
theorem dX8_areTwo_16 : decode cX8_areTwo 16 = .ok (.iload_n 2, 1) := by decide +kernel
theorem dX8_areTwo_17 : decode cX8_areTwo 17 = .ok (.if_icmp .ne 7, 3) := by decide +kernel
theorem dX8_areTwo_20 : decode cX8_areTwo 20 = .ok (.iconst 1, 1) := by decide +kernel
theorem dX8_areTwo_21 : decode cX8_areTwo 21 = .ok (.goto 4, 3) := by decide +kernel
theorem dX8_areTwo_24 : decode cX8_areTwo 24 = .ok (.iconst 0, 1) := by decide +kernel
theorem dX8_areTwo_25 : decode cX8_areTwo 25 = .ok (.ireturn, 1) := by decide +kernel
theorem dX8_areKinLetters_0 : decode cX8_areKinLetters 0 = .ok (.iload_n 0, 1) := by decide +kernel
theorem dX8_areKinLetters_1 : decode cX8_areKinLetters 1 = .ok (.iload_n 1, 1) := by decide +kernel
theorem dX8_areKinLetters_2 : decode cX8_areKinLetters 2 = .ok (.bipush 105, 2) := by decide +kernel
theorem dX8_areKinLetters_4 : decode cX8_areKinLetters 4 = .ok (.bipush 108, 2) := by decide +kernel
theorem dX8_areKinLetters_6 : decode cX8_areKinLetters 6 = .ok (.invokestatic 122, 3) := by decide +kernel
theorem dX8_areKinLetters_9 : decode cX8_areKinLetters 9 = .ok (.ifCond .ne 39, 3) := by decide +kernel
theorem dX8_areKinLetters_12 : decode cX8_areKinLetters 12 = .ok (.iload_n 0, 1) := by decide +kernel
theorem dX8_areKinLetters_13 : decode cX8_areKinLetters 13 = .ok (.iload_n 1, 1) := by decide +kernel
theorem dX8_areKinLetters_14 : decode cX8_areKinLetters 14 = .ok (.bipush 105, 2) := by decide +kernel
theorem dX8_areKinLetters_16 : decode cX8_areKinLetters 16 = .ok (.bipush 106, 2) := by decide +kernel
theorem dX8_areKinLetters_18 : decode cX8_areKinLetters 18 = .ok (.invokestatic 122, 3) := by decide +kernel
theorem dX8_areKinLetters_21 : decode cX8_areKinLetters 21 = .ok (.ifCond .ne 27, 3) := by decide +kernel
theorem dX8_areKinLetters_24 : decode cX8_areKinLetters 24 = .ok (.iload_n 0, 1) := by decide +kernel
theorem dX8_areKinLetters_25 : decode cX8_areKinLetters 25 = .ok (.iload_n 1, 1) := by decide +kernel
theorem dX8_areKinLetters_26 : decode cX8_areKinLetters 26 = .ok (.bipush 109, 2) := by decide +kernel
theorem dX8_areKinLetters_28 : decode cX8_areKinLetters 28 = .ok (.bipush 110, 2) := by decide +kernel
theorem dX8_areKinLetters_30 : decode cX8_areKinLetters 30 = .ok (.invokestatic 122, 3) := by decide +kernel
theorem dX8_areKinLetters_33 : decode cX8_areKinLetters 33 = .ok (.ifCond .ne 15, 3) := by decide +kernel
theorem dX8_areKinLetters_36 : decode cX8_areKinLetters 36 = .ok (.iload_n 0, 1) := by decide +kernel
theorem dX8_areKinLetters_37 : decode cX8_areKinLetters 37 = .ok (.iload_n 1, 1) := by decide +kernel
theorem dX8_areKinLetters_38 : decode cX8_areKinLetters 38 = .ok (.bipush 117, 2) := by decide +kernel
theorem dX8_areKinLetters_40 : decode cX8_areKinLetters 40 = .ok (.bipush 118, 2) := by decide +kernel
theorem dX8_areKinLetters_42 : decode cX8_areKinLetters 42 = .ok (.invokestatic 122, 3) := by decide +kernel
theorem dX8_areKinLetters_45 : decode cX8_areKinLetters 45 = .ok (.ifCond .eq 7, 3) := by decide +kernel
theorem dX8_areKinLetters_48 : decode cX8_areKinLetters 48 = .ok (.iconst 1, 1) := by decide +kernel
theorem dX8_areKinLetters_49 : decode cX8_areKinLetters 49 = .ok (.goto 4, 3) := by decide +kernel
theorem dX8_areKinLetters_52 : decode cX8_areKinLetters 52 = .ok (.iconst 0, 1) := by decide +kernel
theorem dX8_areKinLetters_53 : decode cX8_areKinLetters 53 = .ok (.istore_n 2, 1) := by decide +kernel
theorem dX8_areKinLetters_54 : decode cX8_areKinLetters 54 = .ok (.iload_n 2, 1) := by decide +kernel
theorem dX8_areKinLetters_55 : decode cX8_areKinLetters 55 = .ok (.ifCond .ne 51, 3) := by decide +kernel
theorem dX8_areKinLetters_58 : decode cX8_areKinLetters 58 = .ok (.iload_n 0, 1) := by decide +kernel
theorem dX8_areKinLetters_59 : decode cX8_areKinLetters 59 = .ok (.iload_n 1, 1) := by decide +kernel
theorem dX8_areKinLetters_60 : decode cX8_areKinLetters 60 = .ok (.bipush 99, 2) := by decide +kernel
theorem dX8_areKinLetters_62 : decode cX8_areKinLetters 62 = .ok (.bipush 111, 2) := by decide +kernel
theorem dX8_areKinLetters_64 : decode cX8_areKinLetters 64 = .ok (.invokestatic 122, 3) := by decide +kernel
theorem dX8_areKinLetters_67 : decode cX8_areKinLetters 67 = .ok (.ifCond .ne 39, 3) := by decide +kernel
theorem dX8_areKinLetters_70 : decode cX8_areKinLetters 70 = .ok (.iload_n 0, 1) := by decide +kernel
theorem dX8_areKinLetters_71 : decode cX8_areKinLetters 71 = .ok (.iload_n 1, 1) := by decide +kernel
theorem dX8_areKinLetters_72 : decode cX8_areKinLetters 72 = .ok (.bipush 98, 2) := by decide +kernel
theorem dX8_areKinLetters_74 : decode cX8_areKinLetters 74 = .ok (.bipush 100, 2) := by decide +kernel
theorem dX8_areKinLetters_76 : decode cX8_areKinLetters 76 = .ok (.invokestatic 122, 3) := by decide +kernel
theorem dX8_areKinLetters_79 : decode cX8_areKinLetters 79 = .ok (.ifCond .ne 27, 3) := by decide +kernel
theorem dX8_areKinLetters_82 : decode cX8_areKinLetters 82 = .ok (.iload_n 0, 1) := by decide +kernel
theorem dX8_areKinLetters_83 : decode cX8_areKinLetters 83 = .ok (.iload_n 1, 1) := by decide +kernel
theorem dX8_areKinLetters_84 : decode cX8_areKinLetters 84 = .ok (.bipush 112, 2) := by decide +kernel
theorem dX8_areKinLetters_86 : decode cX8_areKinLetters 86 = .ok (.bipush 113, 2) := by decide +kernel
theorem dX8_areKinLetters_88 : decode cX8_areKinLetters 88 = .ok (.invokestatic 122, 3) := by decide +kernel
theorem dX8_areKinLetters_91 : decode cX8_areKinLetters 91 = .ok (.ifCond .ne 15, 3) := by decide +kernel
theorem dX8_areKinLetters_94 : decode cX8_areKinLetters 94 = .ok (.iload_n 0, 1) := by decide +kernel
theorem dX8_areKinLetters_95 : decode cX8_areKinLetters 95 = .ok (.iload_n 1, 1) := by decide +kernel
theorem dX8_areKinLetters_96 : decode cX8_areKinLetters 96 = .ok (.bipush 101, 2) := by decide +kernel
theorem dX8_areKinLetters_98 : decode cX8_areKinLetters 98 = .ok (.bipush 99, 2) := by decide +kernel
theorem dX8_areKinLetters_100 : decode cX8_areKinLetters 100 = .ok (.invokestatic 122, 3) := by decide +kernel
theorem dX8_areKinLetters_103 : decode cX8_areKinLetters 103 = .ok (.ifCond .eq 7, 3) := by decide +kernel
theorem dX8_areKinLetters_106 : decode cX8_areKinLetters 106 = .ok (.iconst 1, 1) := by decide +kernel
theorem dX8_areKinLetters_107 : decode cX8_areKinLetters 107 = .ok (.goto 4, 3) := by decide +kernel
theorem dX8_areKinLetters_110 : decode cX8_areKinLetters 110 = .ok (.iconst 0, 1) := by decide +kernel
theorem dX8_areKinLetters_111 : decode cX8_areKinLetters 111 = .ok (.ireturn, 1) := by decide +kernel
theorem dX8_areKinSounds_0 : decode cX8_areKinSounds 0 = .ok (.iload_n 0, 1) := by decide +kernel
theorem dX8_areKinSounds_1 : decode cX8_areKinSounds 1 = .ok (.iload_n 1, 1) := by decide +kernel
theorem dX8_areKinSounds_2 : decode cX8_areKinSounds 2 = .ok (.bipush 6, 2) := by decide +kernel
theorem dX8_areKinSounds_4 : decode cX8_areKinSounds 4 = .ok (.iconst 1, 1) := by decide +kernel
theorem dX8_areKinSounds_5 : decode cX8_areKinSounds 5 = .ok (.invokestatic 122, 3) := by decide +kernel
theorem dX8_areKinSounds_8 : decode cX8_areKinSounds 8 = .ok (.ifCond .ne 24, 3) := by decide +kernel
theorem dX8_areKinSounds_11 : decode cX8_areKinSounds 11 = .ok (.iload_n 0, 1) := by decide +kernel
theorem dX8_areKinSounds_12 : decode cX8_areKinSounds 12 = .ok (.iload_n 1, 1) := by decide +kernel
theorem dX8_areKinSounds_13 : decode cX8_areKinSounds 13 = .ok (.iconst 2, 1) := by decide +kernel
theorem dX8_areKinSounds_14 : decode cX8_areKinSounds 14 = .ok (.bipush 8, 2) := by decide +kernel
theorem dX8_areKinSounds_16 : decode cX8_areKinSounds 16 = .ok (.invokestatic 122, 3) := by decide +kernel
theorem dX8_areKinSounds_19 : decode cX8_areKinSounds 19 = .ok (.ifCond .ne 13, 3) := by decide +kernel
theorem dX8_areKinSounds_22 : decode cX8_areKinSounds 22 = .ok (.iload_n 0, 1) := by decide +kernel
theorem dX8_areKinSounds_23 : decode cX8_areKinSounds 23 = .ok (.iload_n 1, 1) := by decide +kernel
theorem dX8_areKinSounds_24 : decode cX8_areKinSounds 24 = .ok (.iconst 4, 1) := by decide +kernel
theorem dX8_areKinSounds_25 : decode cX8_areKinSounds 25 = .ok (.iconst 5, 1) := by decide +kernel
theorem dX8_areKinSounds_26 : decode cX8_areKinSounds 26 = .ok (.invokestatic 122, 3) := by decide +kernel
theorem dX8_areKinSounds_29 : decode cX8_areKinSounds 29 = .ok (.ifCond .eq 7, 3) := by decide +kernel
theorem dX8_areKinSounds_32 : decode cX8_areKinSounds 32 = .ok (.iconst 1, 1) := by decide +kernel
theorem dX8_areKinSounds_33 : decode cX8_areKinSounds 33 = .ok (.goto 4, 3) := by decide +kernel
theorem dX8_areKinSounds_36 : decode cX8_areKinSounds 36 = .ok (.iconst 0, 1) := by decide +kernel
theorem dX8_areKinSounds_37 : decode cX8_areKinSounds 37 = .ok (.istore_n 2, 1) := by decide +kernel
theorem dX8_areKinSounds_38 : decode cX8_areKinSounds 38 = .ok (.iload_n 2, 1) := by decide +kernel
theorem dX8_areKinSounds_39 : decode cX8_areKinSounds 39 = .ok (.ifCond .ne 26, 3) := by decide +kernel
theorem dX8_areKinSounds_42 : decode cX8_areKinSounds 42 = .ok (.iload_n 0, 1) := by decide +kernel
theorem dX8_areKinSounds_43 : decode cX8_areKinSounds 43 = .ok (.iload_n 1, 1) := by decide +kernel
theorem dX8_areKinSounds_44 : decode cX8_areKinSounds 44 = .ok (.iconst 3, 1) := by decide +kernel
theorem dX8_areKinSounds_45 : decode cX8_areKinSounds 45 = .ok (.bipush 7, 2) := by decide +kernel
theorem dX8_areKinSounds_47 : decode cX8_areKinSounds 47 = .ok (.invokestatic 122, 3) := by decide +kernel
theorem dX8_areKinSounds_50 : decode cX8_areKinSounds 50 = .ok (.ifCond .ne 15, 3) := by decide +kernel
theorem dX8_areKinSounds_53 : decode cX8_areKinSounds 53 = .ok (.iload_n 0, 1) := by decide +kernel
theorem dX8_areKinSounds_54 : decode cX8_areKinSounds 54 = .ok (.iload_n 1, 1) := by decide +kernel
theorem dX8_areKinSounds_55 : decode cX8_areKinSounds 55 = .ok (.bipush 9, 2) := by decide +kernel
theorem dX8_areKinSounds_57 : decode cX8_areKinSounds 57 = .ok (.bipush 8, 2) := by decide +kernel
theorem dX8_areKinSounds_59 : decode cX8_areKinSounds 59 = .ok (.invokestatic 122, 3) := by decide +kernel
theorem dX8_areKinSounds_62 : decode cX8_areKinSounds 62 = .ok (.ifCond .eq 7, 3) := by decide +kernel
theorem dX8_areKinSounds_65 : decode cX8_areKinSounds 65 = .ok (.iconst 1, 1) := by decide +kernel
theorem dX8_areKinSounds_66 : decode cX8_areKinSounds 66 = .ok (.goto 4, 3) := by decide +kernel
theorem dX8_areKinSounds_69 : decode cX8_areKinSounds 69 = .ok (.iconst 0, 1) := by decide +kernel
theorem dX8_areKinSounds_70 : decode cX8_areKinSounds 70 = .ok (.ireturn, 1) := by decide +kernel
theorem dX8_changeOf_0 : decode cX8_changeOf 0 = .ok (.iload_n 1, 1) := by decide +kernel
theorem dX8_changeOf_1 : decode cX8_changeOf 1 = .ok (.iload_n 2, 1) := by decide +kernel
theorem dX8_changeOf_2 : decode cX8_changeOf 2 = .ok (.if_icmp .ne 5, 3) := by decide +kernel
theorem dX8_changeOf_5 : decode cX8_changeOf 5 = .ok (.iconst 0, 1) := by decide +kernel
theorem dX8_changeOf_6 : decode cX8_changeOf 6 = .ok (.ireturn, 1) := by decide +kernel
theorem dX8_changeOf_7 : decode cX8_changeOf 7 = .ok (.iload_n 3, 1) := by decide +kernel
theorem dX8_changeOf_8 : decode cX8_changeOf 8 = .ok (.ifCond .eq 14, 3) := by decide +kernel
theorem dX8_changeOf_11 : decode cX8_changeOf 11 = .ok (.iload_n 1, 1) := by decide +kernel
theorem dX8_changeOf_12 : decode cX8_changeOf 12 = .ok (.iload_n 2, 1) := by decide +kernel
theorem dX8_changeOf_13 : decode cX8_changeOf 13 = .ok (.invokestatic 125, 3) := by decide +kernel
theorem dX8_changeOf_16 : decode cX8_changeOf 16 = .ok (.ifCond .eq 18, 3) := by decide +kernel
theorem dX8_changeOf_19 : decode cX8_changeOf 19 = .ok (.goto 11, 3) := by decide +kernel
theorem dX8_changeOf_22 : decode cX8_changeOf 22 = .ok (.iload_n 1, 1) := by decide +kernel
theorem dX8_changeOf_23 : decode cX8_changeOf 23 = .ok (.iload_n 2, 1) := by decide +kernel
theorem dX8_changeOf_24 : decode cX8_changeOf 24 = .ok (.invokestatic 129, 3) := by decide +kernel
theorem dX8_changeOf_27 : decode cX8_changeOf 27 = .ok (.ifCond .eq 7, 3) := by decide +kernel
theorem dX8_changeOf_30 : decode cX8_changeOf 30 = .ok (.iconst 1, 1) := by decide +kernel
theorem dX8_changeOf_31 : decode cX8_changeOf 31 = .ok (.goto 4, 3) := by decide +kernel
theorem dX8_changeOf_34 : decode cX8_changeOf 34 = .ok (.iconst 2, 1) := by decide +kernel
theorem dX8_changeOf_35 : decode cX8_changeOf 35 = .ok (.ireturn, 1) := by decide +kernel
theorem dX8_farOf_0 : decode cX8_farOf 0 = .ok (.bipush 21, 2) := by decide +kernel
theorem dX8_farOf_2 : decode cX8_farOf 2 = .ok (.istore 4, 2) := by decide +kernel
theorem dX8_farOf_4 : decode cX8_farOf 4 = .ok (.iconst 0, 1) := by decide +kernel
theorem dX8_farOf_5 : decode cX8_farOf 5 = .ok (.istore 5, 2) := by decide +kernel
theorem dX8_farOf_7 : decode cX8_farOf 7 = .ok (.iload 5, 2) := by decide +kernel
theorem dX8_farOf_9 : decode cX8_farOf 9 = .ok (.iload_n 1, 1) := by decide +kernel
theorem dX8_farOf_10 : decode cX8_farOf 10 = .ok (.if_icmp .gt 173, 3) := by decide +kernel
theorem dX8_farOf_13 : decode cX8_farOf 13 = .ok (.iconst 0, 1) := by decide +kernel
theorem dX8_farOf_14 : decode cX8_farOf 14 = .ok (.istore 6, 2) := by decide +kernel
theorem dX8_farOf_16 : decode cX8_farOf 16 = .ok (.iload 6, 2) := by decide +kernel
theorem dX8_farOf_18 : decode cX8_farOf 18 = .ok (.iload_n 2, 1) := by decide +kernel
theorem dX8_farOf_19 : decode cX8_farOf 19 = .ok (.if_icmp .gt 158, 3) := by decide +kernel
theorem dX8_farOf_22 : decode cX8_farOf 22 = .ok (.iload 5, 2) := by decide +kernel
theorem dX8_farOf_24 : decode cX8_farOf 24 = .ok (.ifCond .ne 12, 3) := by decide +kernel
theorem dX8_farOf_27 : decode cX8_farOf 27 = .ok (.iload 6, 2) := by decide +kernel
theorem dX8_farOf_29 : decode cX8_farOf 29 = .ok (.ifCond .ne 7, 3) := by decide +kernel
theorem dX8_farOf_32 : decode cX8_farOf 32 = .ok (.iconst 0, 1) := by decide +kernel
theorem dX8_farOf_33 : decode cX8_farOf 33 = .ok (.goto 5, 3) := by decide +kernel
theorem dX8_farOf_36 : decode cX8_farOf 36 = .ok (.ldc 132, 2) := by decide +kernel
theorem dX8_farOf_38 : decode cX8_farOf 38 = .ok (.istore 7, 2) := by decide +kernel
theorem dX8_farOf_40 : decode cX8_farOf 40 = .ok (.iload 5, 2) := by decide +kernel
theorem dX8_farOf_42 : decode cX8_farOf 42 = .ok (.ifCond .le 27, 3) := by decide +kernel
theorem dX8_farOf_45 : decode cX8_farOf 45 = .ok (.iload 7, 2) := by decide +kernel
theorem dX8_farOf_47 : decode cX8_farOf 47 = .ok (.aload_n 0, 1) := by decide +kernel
theorem dX8_farOf_48 : decode cX8_farOf 48 = .ok (.getfield 34, 3) := by decide +kernel
theorem dX8_farOf_51 : decode cX8_farOf 51 = .ok (.iload 4, 2) := by decide +kernel
theorem dX8_farOf_53 : decode cX8_farOf 53 = .ok (.iload 5, 2) := by decide +kernel
theorem dX8_farOf_55 : decode cX8_farOf 55 = .ok (.iconst 1, 1) := by decide +kernel
theorem dX8_farOf_56 : decode cX8_farOf 56 = .ok (.isub, 1) := by decide +kernel
theorem dX8_farOf_57 : decode cX8_farOf 57 = .ok (.imul, 1) := by decide +kernel
theorem dX8_farOf_58 : decode cX8_farOf 58 = .ok (.iload 6, 2) := by decide +kernel
theorem dX8_farOf_60 : decode cX8_farOf 60 = .ok (.iadd, 1) := by decide +kernel
theorem dX8_farOf_61 : decode cX8_farOf 61 = .ok (.iaload, 1) := by decide +kernel
theorem dX8_farOf_62 : decode cX8_farOf 62 = .ok (.iconst 2, 1) := by decide +kernel
theorem dX8_farOf_63 : decode cX8_farOf 63 = .ok (.iadd, 1) := by decide +kernel
theorem dX8_farOf_64 : decode cX8_farOf 64 = .ok (.invokestatic 133, 3) := by decide +kernel
theorem dX8_farOf_67 : decode cX8_farOf 67 = .ok (.istore 7, 2) := by decide +kernel
theorem dX8_farOf_69 : decode cX8_farOf 69 = .ok (.iload 6, 2) := by decide +kernel
theorem dX8_farOf_71 : decode cX8_farOf 71 = .ok (.ifCond .le 27, 3) := by decide +kernel
theorem dX8_farOf_74 : decode cX8_farOf 74 = .ok (.iload 7, 2) := by decide +kernel
theorem dX8_farOf_76 : decode cX8_farOf 76 = .ok (.aload_n 0, 1) := by decide +kernel
theorem dX8_farOf_77 : decode cX8_farOf 77 = .ok (.getfield 34, 3) := by decide +kernel
theorem dX8_farOf_80 : decode cX8_farOf 80 = .ok (.iload 4, 2) := by decide +kernel
theorem dX8_farOf_82 : decode cX8_farOf 82 = .ok (.iload 5, 2) := by decide +kernel
theorem dX8_farOf_84 : decode cX8_farOf 84 = .ok (.imul, 1) := by decide +kernel
theorem dX8_farOf_85 : decode cX8_farOf 85 = .ok (.iload 6, 2) := by decide +kernel
theorem dX8_farOf_87 : decode cX8_farOf 87 = .ok (.iadd, 1) := by decide +kernel
theorem dX8_farOf_88 : decode cX8_farOf 88 = .ok (.iconst 1, 1) := by decide +kernel
theorem dX8_farOf_89 : decode cX8_farOf 89 = .ok (.isub, 1) := by decide +kernel
theorem dX8_farOf_90 : decode cX8_farOf 90 = .ok (.iaload, 1) := by decide +kernel
theorem dX8_farOf_91 : decode cX8_farOf 91 = .ok (.iconst 2, 1) := by decide +kernel
theorem dX8_farOf_92 : decode cX8_farOf 92 = .ok (.iadd, 1) := by decide +kernel
theorem dX8_farOf_93 : decode cX8_farOf 93 = .ok (.invokestatic 133, 3) := by decide +kernel
theorem dX8_farOf_96 : decode cX8_farOf 96 = .ok (.istore 7, 2) := by decide +kernel
theorem dX8_farOf_98 : decode cX8_farOf 98 = .ok (.iload 5, 2) := by decide +kernel
theorem dX8_farOf_100 : decode cX8_farOf 100 = .ok (.ifCond .le 56, 3) := by decide +kernel
theorem dX8_farOf_103 : decode cX8_farOf 103 = .ok (.iload 6, 2) := by decide +kernel
theorem dX8_farOf_105 : decode cX8_farOf 105 = .ok (.ifCond .le 51, 3) := by decide +kernel
theorem dX8_farOf_108 : decode cX8_farOf 108 = .ok (.iload 7, 2) := by decide +kernel
theorem dX8_farOf_110 : decode cX8_farOf 110 = .ok (.aload_n 0, 1) := by decide +kernel
theorem dX8_farOf_111 : decode cX8_farOf 111 = .ok (.getfield 34, 3) := by decide +kernel
theorem dX8_farOf_114 : decode cX8_farOf 114 = .ok (.iload 4, 2) := by decide +kernel
theorem dX8_farOf_116 : decode cX8_farOf 116 = .ok (.iload 5, 2) := by decide +kernel
theorem dX8_farOf_118 : decode cX8_farOf 118 = .ok (.iconst 1, 1) := by decide +kernel
theorem dX8_farOf_119 : decode cX8_farOf 119 = .ok (.isub, 1) := by decide +kernel
theorem dX8_farOf_120 : decode cX8_farOf 120 = .ok (.imul, 1) := by decide +kernel
theorem dX8_farOf_121 : decode cX8_farOf 121 = .ok (.iload 6, 2) := by decide +kernel
theorem dX8_farOf_123 : decode cX8_farOf 123 = .ok (.iadd, 1) := by decide +kernel
theorem dX8_farOf_124 : decode cX8_farOf 124 = .ok (.iconst 1, 1) := by decide +kernel
theorem dX8_farOf_125 : decode cX8_farOf 125 = .ok (.isub, 1) := by decide +kernel
theorem dX8_farOf_126 : decode cX8_farOf 126 = .ok (.iaload, 1) := by decide +kernel
theorem dX8_farOf_127 : decode cX8_farOf 127 = .ok (.aload_n 0, 1) := by decide +kernel
theorem dX8_farOf_128 : decode cX8_farOf 128 = .ok (.aload_n 0, 1) := by decide +kernel
theorem dX8_farOf_129 : decode cX8_farOf 129 = .ok (.getfield 28, 3) := by decide +kernel
theorem dX8_farOf_132 : decode cX8_farOf 132 = .ok (.iload 5, 2) := by decide +kernel
theorem dX8_farOf_134 : decode cX8_farOf 134 = .ok (.iconst 1, 1) := by decide +kernel
theorem dX8_farOf_135 : decode cX8_farOf 135 = .ok (.isub, 1) := by decide +kernel
theorem dX8_farOf_136 : decode cX8_farOf 136 = .ok (.iaload, 1) := by decide +kernel
theorem dX8_farOf_137 : decode cX8_farOf 137 = .ok (.aload_n 0, 1) := by decide +kernel
theorem dX8_farOf_138 : decode cX8_farOf 138 = .ok (.getfield 31, 3) := by decide +kernel
theorem dX8_farOf_141 : decode cX8_farOf 141 = .ok (.iload 6, 2) := by decide +kernel
theorem dX8_farOf_143 : decode cX8_farOf 143 = .ok (.iconst 1, 1) := by decide +kernel
theorem dX8_farOf_144 : decode cX8_farOf 144 = .ok (.isub, 1) := by decide +kernel
theorem dX8_farOf_145 : decode cX8_farOf 145 = .ok (.iaload, 1) := by decide +kernel
theorem dX8_farOf_146 : decode cX8_farOf 146 = .ok (.iload_n 3, 1) := by decide +kernel
theorem dX8_farOf_147 : decode cX8_farOf 147 = .ok (.invokevirtual 138, 3) := by decide +kernel
theorem dX8_farOf_150 : decode cX8_farOf 150 = .ok (.iadd, 1) := by decide +kernel
theorem dX8_farOf_151 : decode cX8_farOf 151 = .ok (.invokestatic 133, 3) := by decide +kernel
theorem dX8_farOf_154 : decode cX8_farOf 154 = .ok (.istore 7, 2) := by decide +kernel
theorem dX8_farOf_156 : decode cX8_farOf 156 = .ok (.aload_n 0, 1) := by decide +kernel
theorem dX8_farOf_157 : decode cX8_farOf 157 = .ok (.getfield 34, 3) := by decide +kernel
theorem dX8_farOf_160 : decode cX8_farOf 160 = .ok (.iload 4, 2) := by decide +kernel
theorem dX8_farOf_162 : decode cX8_farOf 162 = .ok (.iload 5, 2) := by decide +kernel
theorem dX8_farOf_164 : decode cX8_farOf 164 = .ok (.imul, 1) := by decide +kernel
theorem dX8_farOf_165 : decode cX8_farOf 165 = .ok (.iload 6, 2) := by decide +kernel
theorem dX8_farOf_167 : decode cX8_farOf 167 = .ok (.iadd, 1) := by decide +kernel
theorem dX8_farOf_168 : decode cX8_farOf 168 = .ok (.iload 7, 2) := by decide +kernel
theorem dX8_farOf_170 : decode cX8_farOf 170 = .ok (.iastore, 1) := by decide +kernel
theorem dX8_farOf_171 : decode cX8_farOf 171 = .ok (.iinc 6 1, 3) := by decide +kernel
theorem dX8_farOf_174 : decode cX8_farOf 174 = .ok (.goto (-158), 3) := by decide +kernel
theorem dX8_farOf_177 : decode cX8_farOf 177 = .ok (.iinc 5 1, 3) := by decide +kernel
theorem dX8_farOf_180 : decode cX8_farOf 180 = .ok (.goto (-173), 3) := by decide +kernel
theorem dX8_farOf_183 : decode cX8_farOf 183 = .ok (.aload_n 0, 1) := by decide +kernel
theorem dX8_farOf_184 : decode cX8_farOf 184 = .ok (.getfield 34, 3) := by decide +kernel
theorem dX8_farOf_187 : decode cX8_farOf 187 = .ok (.iload 4, 2) := by decide +kernel
theorem dX8_farOf_189 : decode cX8_farOf 189 = .ok (.iload_n 1, 1) := by decide +kernel
theorem dX8_farOf_190 : decode cX8_farOf 190 = .ok (.imul, 1) := by decide +kernel
theorem dX8_farOf_191 : decode cX8_farOf 191 = .ok (.iload_n 2, 1) := by decide +kernel
theorem dX8_farOf_192 : decode cX8_farOf 192 = .ok (.iadd, 1) := by decide +kernel
theorem dX8_farOf_193 : decode cX8_farOf 193 = .ok (.iaload, 1) := by decide +kernel
theorem dX8_farOf_194 : decode cX8_farOf 194 = .ok (.ireturn, 1) := by decide +kernel
theorem dX8_likenessOf_0 : decode cX8_likenessOf 0 = .ok (.iload_n 1, 1) := by decide +kernel
theorem dX8_likenessOf_1 : decode cX8_likenessOf 1 = .ok (.iload_n 2, 1) := by decide +kernel
theorem dX8_likenessOf_2 : decode cX8_likenessOf 2 = .ok (.invokestatic 142, 3) := by decide +kernel
theorem dX8_likenessOf_5 : decode cX8_likenessOf 5 = .ok (.istore 4, 2) := by decide +kernel
theorem dX8_likenessOf_7 : decode cX8_likenessOf 7 = .ok (.iload 4, 2) := by decide +kernel
theorem dX8_likenessOf_9 : decode cX8_likenessOf 9 = .ok (.ifCond .ne 8, 3) := by decide +kernel
theorem dX8_likenessOf_12 : decode cX8_likenessOf 12 = .ok (.bipush 100, 2) := by decide +kernel
theorem dX8_likenessOf_14 : decode cX8_likenessOf 14 = .ok (.goto 24, 3) := by decide +kernel
theorem dX8_likenessOf_17 : decode cX8_likenessOf 17 = .ok (.bipush 100, 2) := by decide +kernel
theorem dX8_likenessOf_19 : decode cX8_likenessOf 19 = .ok (.bipush 50, 2) := by decide +kernel
theorem dX8_likenessOf_21 : decode cX8_likenessOf 21 = .ok (.aload_n 0, 1) := by decide +kernel
theorem dX8_likenessOf_22 : decode cX8_likenessOf 22 = .ok (.iload_n 1, 1) := by decide +kernel
theorem dX8_likenessOf_23 : decode cX8_likenessOf 23 = .ok (.iload_n 2, 1) := by decide +kernel
theorem dX8_likenessOf_24 : decode cX8_likenessOf 24 = .ok (.iload_n 3, 1) := by decide +kernel
theorem dX8_likenessOf_25 : decode cX8_likenessOf 25 = .ok (.invokevirtual 145, 3) := by decide +kernel
theorem dX8_likenessOf_28 : decode cX8_likenessOf 28 = .ok (.imul, 1) := by decide +kernel
theorem dX8_likenessOf_29 : decode cX8_likenessOf 29 = .ok (.iload 4, 2) := by decide +kernel
theorem dX8_likenessOf_31 : decode cX8_likenessOf 31 = .ok (.iadd, 1) := by decide +kernel
theorem dX8_likenessOf_32 : decode cX8_likenessOf 32 = .ok (.iconst 1, 1) := by decide +kernel
theorem dX8_likenessOf_33 : decode cX8_likenessOf 33 = .ok (.isub, 1) := by decide +kernel
theorem dX8_likenessOf_34 : decode cX8_likenessOf 34 = .ok (.iload 4, 2) := by decide +kernel
theorem dX8_likenessOf_36 : decode cX8_likenessOf 36 = .ok (.idiv, 1) := by decide +kernel
theorem dX8_likenessOf_37 : decode cX8_likenessOf 37 = .ok (.isub, 1) := by decide +kernel
theorem dX8_likenessOf_38 : decode cX8_likenessOf 38 = .ok (.ireturn, 1) := by decide +kernel
theorem dX8_byLetters_0 : decode cX8_byLetters 0 = .ok (.iconst 0, 1) := by decide +kernel
theorem dX8_byLetters_1 : decode cX8_byLetters 1 = .ok (.istore_n 3, 1) := by decide +kernel
theorem dX8_byLetters_2 : decode cX8_byLetters 2 = .ok (.iload_n 3, 1) := by decide +kernel
theorem dX8_byLetters_3 : decode cX8_byLetters 3 = .ok (.bipush 10, 2) := by decide +kernel
theorem dX8_byLetters_5 : decode cX8_byLetters 5 = .ok (.if_icmp .ge 33, 3) := by decide +kernel
theorem dX8_byLetters_8 : decode cX8_byLetters 8 = .ok (.aload_n 0, 1) := by decide +kernel
theorem dX8_byLetters_9 : decode cX8_byLetters 9 = .ok (.getfield 28, 3) := by decide +kernel
theorem dX8_byLetters_12 : decode cX8_byLetters 12 = .ok (.iload_n 3, 1) := by decide +kernel
theorem dX8_byLetters_13 : decode cX8_byLetters 13 = .ok (.aload_n 0, 1) := by decide +kernel
theorem dX8_byLetters_14 : decode cX8_byLetters 14 = .ok (.iload_n 1, 1) := by decide +kernel
theorem dX8_byLetters_15 : decode cX8_byLetters 15 = .ok (.iload_n 3, 1) := by decide +kernel
theorem dX8_byLetters_16 : decode cX8_byLetters 16 = .ok (.invokevirtual 105, 3) := by decide +kernel
theorem dX8_byLetters_19 : decode cX8_byLetters 19 = .ok (.iastore, 1) := by decide +kernel
theorem dX8_byLetters_20 : decode cX8_byLetters 20 = .ok (.aload_n 0, 1) := by decide +kernel
theorem dX8_byLetters_21 : decode cX8_byLetters 21 = .ok (.getfield 31, 3) := by decide +kernel
theorem dX8_byLetters_24 : decode cX8_byLetters 24 = .ok (.iload_n 3, 1) := by decide +kernel
theorem dX8_byLetters_25 : decode cX8_byLetters 25 = .ok (.aload_n 0, 1) := by decide +kernel
theorem dX8_byLetters_26 : decode cX8_byLetters 26 = .ok (.iload_n 2, 1) := by decide +kernel
theorem dX8_byLetters_27 : decode cX8_byLetters 27 = .ok (.iload_n 3, 1) := by decide +kernel
theorem dX8_byLetters_28 : decode cX8_byLetters 28 = .ok (.invokevirtual 105, 3) := by decide +kernel
theorem dX8_byLetters_31 : decode cX8_byLetters 31 = .ok (.iastore, 1) := by decide +kernel
theorem dX8_byLetters_32 : decode cX8_byLetters 32 = .ok (.iinc 3 1, 3) := by decide +kernel
theorem dX8_byLetters_35 : decode cX8_byLetters 35 = .ok (.goto (-33), 3) := by decide +kernel
theorem dX8_byLetters_38 : decode cX8_byLetters 38 = .ok (.aload_n 0, 1) := by decide +kernel
theorem dX8_byLetters_39 : decode cX8_byLetters 39 = .ok (.aload_n 0, 1) := by decide +kernel
theorem dX8_byLetters_40 : decode cX8_byLetters 40 = .ok (.iload_n 1, 1) := by decide +kernel
theorem dX8_byLetters_41 : decode cX8_byLetters 41 = .ok (.iconst 0, 1) := by decide +kernel
theorem dX8_byLetters_42 : decode cX8_byLetters 42 = .ok (.invokevirtual 101, 3) := by decide +kernel
theorem dX8_byLetters_45 : decode cX8_byLetters 45 = .ok (.aload_n 0, 1) := by decide +kernel
theorem dX8_byLetters_46 : decode cX8_byLetters 46 = .ok (.iload_n 2, 1) := by decide +kernel
theorem dX8_byLetters_47 : decode cX8_byLetters 47 = .ok (.iconst 0, 1) := by decide +kernel
theorem dX8_byLetters_48 : decode cX8_byLetters 48 = .ok (.invokevirtual 101, 3) := by decide +kernel
theorem dX8_byLetters_51 : decode cX8_byLetters 51 = .ok (.iconst 0, 1) := by decide +kernel
theorem dX8_byLetters_52 : decode cX8_byLetters 52 = .ok (.invokevirtual 148, 3) := by decide +kernel
theorem dX8_byLetters_55 : decode cX8_byLetters 55 = .ok (.ireturn, 1) := by decide +kernel
theorem dX8_bySounds_0 : decode cX8_bySounds 0 = .ok (.iconst 0, 1) := by decide +kernel
theorem dX8_bySounds_1 : decode cX8_bySounds 1 = .ok (.istore_n 3, 1) := by decide +kernel
theorem dX8_bySounds_2 : decode cX8_bySounds 2 = .ok (.iload_n 3, 1) := by decide +kernel
theorem dX8_bySounds_3 : decode cX8_bySounds 3 = .ok (.bipush 20, 2) := by decide +kernel
theorem dX8_bySounds_5 : decode cX8_bySounds 5 = .ok (.if_icmp .ge 43, 3) := by decide +kernel
theorem dX8_bySounds_8 : decode cX8_bySounds 8 = .ok (.aload_n 0, 1) := by decide +kernel
theorem dX8_bySounds_9 : decode cX8_bySounds 9 = .ok (.getfield 28, 3) := by decide +kernel
theorem dX8_bySounds_12 : decode cX8_bySounds 12 = .ok (.iload_n 3, 1) := by decide +kernel
theorem dX8_bySounds_13 : decode cX8_bySounds 13 = .ok (.aload_n 0, 1) := by decide +kernel
theorem dX8_bySounds_14 : decode cX8_bySounds 14 = .ok (.getfield 22, 3) := by decide +kernel
theorem dX8_bySounds_17 : decode cX8_bySounds 17 = .ok (.bipush 20, 2) := by decide +kernel
theorem dX8_bySounds_19 : decode cX8_bySounds 19 = .ok (.iload_n 1, 1) := by decide +kernel
theorem dX8_bySounds_20 : decode cX8_bySounds 20 = .ok (.imul, 1) := by decide +kernel
theorem dX8_bySounds_21 : decode cX8_bySounds 21 = .ok (.iload_n 3, 1) := by decide +kernel
theorem dX8_bySounds_22 : decode cX8_bySounds 22 = .ok (.iadd, 1) := by decide +kernel
theorem dX8_bySounds_23 : decode cX8_bySounds 23 = .ok (.iaload, 1) := by decide +kernel
theorem dX8_bySounds_24 : decode cX8_bySounds 24 = .ok (.iastore, 1) := by decide +kernel
theorem dX8_bySounds_25 : decode cX8_bySounds 25 = .ok (.aload_n 0, 1) := by decide +kernel
theorem dX8_bySounds_26 : decode cX8_bySounds 26 = .ok (.getfield 31, 3) := by decide +kernel
theorem dX8_bySounds_29 : decode cX8_bySounds 29 = .ok (.iload_n 3, 1) := by decide +kernel
theorem dX8_bySounds_30 : decode cX8_bySounds 30 = .ok (.aload_n 0, 1) := by decide +kernel
theorem dX8_bySounds_31 : decode cX8_bySounds 31 = .ok (.getfield 22, 3) := by decide +kernel
theorem dX8_bySounds_34 : decode cX8_bySounds 34 = .ok (.bipush 20, 2) := by decide +kernel
theorem dX8_bySounds_36 : decode cX8_bySounds 36 = .ok (.iload_n 2, 1) := by decide +kernel
theorem dX8_bySounds_37 : decode cX8_bySounds 37 = .ok (.imul, 1) := by decide +kernel
theorem dX8_bySounds_38 : decode cX8_bySounds 38 = .ok (.iload_n 3, 1) := by decide +kernel
theorem dX8_bySounds_39 : decode cX8_bySounds 39 = .ok (.iadd, 1) := by decide +kernel
theorem dX8_bySounds_40 : decode cX8_bySounds 40 = .ok (.iaload, 1) := by decide +kernel
theorem dX8_bySounds_41 : decode cX8_bySounds 41 = .ok (.iastore, 1) := by decide +kernel
theorem dX8_bySounds_42 : decode cX8_bySounds 42 = .ok (.iinc 3 1, 3) := by decide +kernel
theorem dX8_bySounds_45 : decode cX8_bySounds 45 = .ok (.goto (-43), 3) := by decide +kernel
theorem dX8_bySounds_48 : decode cX8_bySounds 48 = .ok (.aload_n 0, 1) := by decide +kernel
theorem dX8_bySounds_49 : decode cX8_bySounds 49 = .ok (.aload_n 0, 1) := by decide +kernel
theorem dX8_bySounds_50 : decode cX8_bySounds 50 = .ok (.getfield 25, 3) := by decide +kernel
theorem dX8_bySounds_53 : decode cX8_bySounds 53 = .ok (.iload_n 1, 1) := by decide +kernel
theorem dX8_bySounds_54 : decode cX8_bySounds 54 = .ok (.iaload, 1) := by decide +kernel
theorem dX8_bySounds_55 : decode cX8_bySounds 55 = .ok (.aload_n 0, 1) := by decide +kernel
theorem dX8_bySounds_56 : decode cX8_bySounds 56 = .ok (.getfield 25, 3) := by decide +kernel
theorem dX8_bySounds_59 : decode cX8_bySounds 59 = .ok (.iload_n 2, 1) := by decide +kernel
theorem dX8_bySounds_60 : decode cX8_bySounds 60 = .ok (.iaload, 1) := by decide +kernel
theorem dX8_bySounds_61 : decode cX8_bySounds 61 = .ok (.iconst 1, 1) := by decide +kernel
theorem dX8_bySounds_62 : decode cX8_bySounds 62 = .ok (.invokevirtual 148, 3) := by decide +kernel
theorem dX8_bySounds_65 : decode cX8_bySounds 65 = .ok (.ireturn, 1) := by decide +kernel
theorem dX8_layStepsFrom_0 : decode cX8_layStepsFrom 0 = .ok (.iload_n 1, 1) := by decide +kernel
theorem dX8_layStepsFrom_1 : decode cX8_layStepsFrom 1 = .ok (.istore_n 2, 1) := by decide +kernel
theorem dX8_layStepsFrom_2 : decode cX8_layStepsFrom 2 = .ok (.iconst 0, 1) := by decide +kernel
theorem dX8_layStepsFrom_3 : decode cX8_layStepsFrom 3 = .ok (.istore_n 3, 1) := by decide +kernel
theorem dX8_layStepsFrom_4 : decode cX8_layStepsFrom 4 = .ok (.iload_n 3, 1) := by decide +kernel
theorem dX8_layStepsFrom_5 : decode cX8_layStepsFrom 5 = .ok (.bipush 10, 2) := by decide +kernel
theorem dX8_layStepsFrom_7 : decode cX8_layStepsFrom 7 = .ok (.if_icmp .ge 28, 3) := by decide +kernel
theorem dX8_layStepsFrom_10 : decode cX8_layStepsFrom 10 = .ok (.aload_n 0, 1) := by decide +kernel
theorem dX8_layStepsFrom_11 : decode cX8_layStepsFrom 11 = .ok (.getfield 58, 3) := by decide +kernel
theorem dX8_layStepsFrom_14 : decode cX8_layStepsFrom 14 = .ok (.iload_n 3, 1) := by decide +kernel
theorem dX8_layStepsFrom_15 : decode cX8_layStepsFrom 15 = .ok (.iload_n 1, 1) := by decide +kernel
theorem dX8_layStepsFrom_16 : decode cX8_layStepsFrom 16 = .ok (.iload_n 3, 1) := by decide +kernel
theorem dX8_layStepsFrom_17 : decode cX8_layStepsFrom 17 = .ok (.invokestatic 151, 3) := by decide +kernel
theorem dX8_layStepsFrom_20 : decode cX8_layStepsFrom 20 = .ok (.ifCond .eq 7, 3) := by decide +kernel
theorem dX8_layStepsFrom_23 : decode cX8_layStepsFrom 23 = .ok (.iconst 0, 1) := by decide +kernel
theorem dX8_layStepsFrom_24 : decode cX8_layStepsFrom 24 = .ok (.goto 4, 3) := by decide +kernel
theorem dX8_layStepsFrom_27 : decode cX8_layStepsFrom 27 = .ok (.iconst (-1), 1) := by decide +kernel
theorem dX8_layStepsFrom_28 : decode cX8_layStepsFrom 28 = .ok (.iastore, 1) := by decide +kernel
theorem dX8_layStepsFrom_29 : decode cX8_layStepsFrom 29 = .ok (.iinc 3 1, 3) := by decide +kernel
theorem dX8_layStepsFrom_32 : decode cX8_layStepsFrom 32 = .ok (.goto (-28), 3) := by decide +kernel
theorem dX8_layStepsFrom_35 : decode cX8_layStepsFrom 35 = .ok (.iconst 1, 1) := by decide +kernel
theorem dX8_layStepsFrom_36 : decode cX8_layStepsFrom 36 = .ok (.istore_n 3, 1) := by decide +kernel
theorem dX8_layStepsFrom_37 : decode cX8_layStepsFrom 37 = .ok (.iload_n 3, 1) := by decide +kernel
theorem dX8_layStepsFrom_38 : decode cX8_layStepsFrom 38 = .ok (.bipush 10, 2) := by decide +kernel
theorem dX8_layStepsFrom_40 : decode cX8_layStepsFrom 40 = .ok (.if_icmp .ge 99, 3) := by decide +kernel
theorem dX8_layStepsFrom_43 : decode cX8_layStepsFrom 43 = .ok (.iconst 0, 1) := by decide +kernel
theorem dX8_layStepsFrom_44 : decode cX8_layStepsFrom 44 = .ok (.istore 4, 2) := by decide +kernel
theorem dX8_layStepsFrom_46 : decode cX8_layStepsFrom 46 = .ok (.iconst 0, 1) := by decide +kernel
theorem dX8_layStepsFrom_47 : decode cX8_layStepsFrom 47 = .ok (.istore 5, 2) := by decide +kernel
theorem dX8_layStepsFrom_49 : decode cX8_layStepsFrom 49 = .ok (.iload 5, 2) := by decide +kernel
theorem dX8_layStepsFrom_51 : decode cX8_layStepsFrom 51 = .ok (.bipush 10, 2) := by decide +kernel
theorem dX8_layStepsFrom_53 : decode cX8_layStepsFrom 53 = .ok (.if_icmp .ge 33, 3) := by decide +kernel
theorem dX8_layStepsFrom_56 : decode cX8_layStepsFrom 56 = .ok (.iload_n 2, 1) := by decide +kernel
theorem dX8_layStepsFrom_57 : decode cX8_layStepsFrom 57 = .ok (.iload 5, 2) := by decide +kernel
theorem dX8_layStepsFrom_59 : decode cX8_layStepsFrom 59 = .ok (.invokestatic 151, 3) := by decide +kernel
theorem dX8_layStepsFrom_62 : decode cX8_layStepsFrom 62 = .ok (.ifCond .eq 18, 3) := by decide +kernel
theorem dX8_layStepsFrom_65 : decode cX8_layStepsFrom 65 = .ok (.iload 4, 2) := by decide +kernel
theorem dX8_layStepsFrom_67 : decode cX8_layStepsFrom 67 = .ok (.aload_n 0, 1) := by decide +kernel
theorem dX8_layStepsFrom_68 : decode cX8_layStepsFrom 68 = .ok (.getfield 9, 3) := by decide +kernel
theorem dX8_layStepsFrom_71 : decode cX8_layStepsFrom 71 = .ok (.bipush 8, 2) := by decide +kernel
theorem dX8_layStepsFrom_73 : decode cX8_layStepsFrom 73 = .ok (.iload 5, 2) := by decide +kernel
theorem dX8_layStepsFrom_75 : decode cX8_layStepsFrom 75 = .ok (.iadd, 1) := by decide +kernel
theorem dX8_layStepsFrom_76 : decode cX8_layStepsFrom 76 = .ok (.iaload, 1) := by decide +kernel
theorem dX8_layStepsFrom_77 : decode cX8_layStepsFrom 77 = .ok (.ior, 1) := by decide +kernel
theorem dX8_layStepsFrom_78 : decode cX8_layStepsFrom 78 = .ok (.istore 4, 2) := by decide +kernel
theorem dX8_layStepsFrom_80 : decode cX8_layStepsFrom 80 = .ok (.iinc 5 1, 3) := by decide +kernel
theorem dX8_layStepsFrom_83 : decode cX8_layStepsFrom 83 = .ok (.goto (-34), 3) := by decide +kernel
theorem dX8_layStepsFrom_86 : decode cX8_layStepsFrom 86 = .ok (.iload 4, 2) := by decide +kernel
theorem dX8_layStepsFrom_88 : decode cX8_layStepsFrom 88 = .ok (.iload_n 2, 1) := by decide +kernel
theorem dX8_layStepsFrom_89 : decode cX8_layStepsFrom 89 = .ok (.iconst (-1), 1) := by decide +kernel
theorem dX8_layStepsFrom_90 : decode cX8_layStepsFrom 90 = .ok (.ixor, 1) := by decide +kernel
theorem dX8_layStepsFrom_91 : decode cX8_layStepsFrom 91 = .ok (.iand, 1) := by decide +kernel
theorem dX8_layStepsFrom_92 : decode cX8_layStepsFrom 92 = .ok (.istore 4, 2) := by decide +kernel
theorem dX8_layStepsFrom_94 : decode cX8_layStepsFrom 94 = .ok (.iconst 0, 1) := by decide +kernel
theorem dX8_layStepsFrom_95 : decode cX8_layStepsFrom 95 = .ok (.istore 5, 2) := by decide +kernel
theorem dX8_layStepsFrom_97 : decode cX8_layStepsFrom 97 = .ok (.iload 5, 2) := by decide +kernel
theorem dX8_layStepsFrom_99 : decode cX8_layStepsFrom 99 = .ok (.bipush 10, 2) := by decide +kernel
theorem dX8_layStepsFrom_101 : decode cX8_layStepsFrom 101 = .ok (.if_icmp .ge 27, 3) := by decide +kernel
theorem dX8_layStepsFrom_104 : decode cX8_layStepsFrom 104 = .ok (.iload 4, 2) := by decide +kernel
theorem dX8_layStepsFrom_106 : decode cX8_layStepsFrom 106 = .ok (.iload 5, 2) := by decide +kernel
theorem dX8_layStepsFrom_108 : decode cX8_layStepsFrom 108 = .ok (.invokestatic 151, 3) := by decide +kernel
theorem dX8_layStepsFrom_111 : decode cX8_layStepsFrom 111 = .ok (.ifCond .eq 11, 3) := by decide +kernel
theorem dX8_layStepsFrom_114 : decode cX8_layStepsFrom 114 = .ok (.aload_n 0, 1) := by decide +kernel
theorem dX8_layStepsFrom_115 : decode cX8_layStepsFrom 115 = .ok (.getfield 58, 3) := by decide +kernel
theorem dX8_layStepsFrom_118 : decode cX8_layStepsFrom 118 = .ok (.iload 5, 2) := by decide +kernel
theorem dX8_layStepsFrom_120 : decode cX8_layStepsFrom 120 = .ok (.iload_n 3, 1) := by decide +kernel
theorem dX8_layStepsFrom_121 : decode cX8_layStepsFrom 121 = .ok (.iastore, 1) := by decide +kernel
theorem dX8_layStepsFrom_122 : decode cX8_layStepsFrom 122 = .ok (.iinc 5 1, 3) := by decide +kernel
theorem dX8_layStepsFrom_125 : decode cX8_layStepsFrom 125 = .ok (.goto (-28), 3) := by decide +kernel
theorem dX8_layStepsFrom_128 : decode cX8_layStepsFrom 128 = .ok (.iload_n 2, 1) := by decide +kernel
theorem dX8_layStepsFrom_129 : decode cX8_layStepsFrom 129 = .ok (.iload 4, 2) := by decide +kernel
theorem dX8_layStepsFrom_131 : decode cX8_layStepsFrom 131 = .ok (.ior, 1) := by decide +kernel
theorem dX8_layStepsFrom_132 : decode cX8_layStepsFrom 132 = .ok (.istore_n 2, 1) := by decide +kernel
theorem dX8_layStepsFrom_133 : decode cX8_layStepsFrom 133 = .ok (.iinc 3 1, 3) := by decide +kernel
theorem dX8_layStepsFrom_136 : decode cX8_layStepsFrom 136 = .ok (.goto (-99), 3) := by decide +kernel
theorem dX8_layStepsFrom_139 : decode cX8_layStepsFrom 139 = .ok (.iload_n 2, 1) := by decide +kernel
theorem dX8_layStepsFrom_140 : decode cX8_layStepsFrom 140 = .ok (.ireturn, 1) := by decide +kernel
theorem dX8_stepsOf_0 : decode cX8_stepsOf 0 = .ok (.aload_n 0, 1) := by decide +kernel
theorem dX8_stepsOf_1 : decode cX8_stepsOf 1 = .ok (.aload_n 0, 1) := by decide +kernel
theorem dX8_stepsOf_2 : decode cX8_stepsOf 2 = .ok (.iload_n 1, 1) := by decide +kernel
theorem dX8_stepsOf_3 : decode cX8_stepsOf 3 = .ok (.bipush 11, 2) := by decide +kernel
theorem dX8_stepsOf_5 : decode cX8_stepsOf 5 = .ok (.invokevirtual 101, 3) := by decide +kernel
theorem dX8_stepsOf_8 : decode cX8_stepsOf 8 = .ok (.invokevirtual 154, 3) := by decide +kernel
theorem dX8_stepsOf_11 : decode cX8_stepsOf 11 = .ok (.istore_n 3, 1) := by decide +kernel
theorem dX8_stepsOf_12 : decode cX8_stepsOf 12 = .ok (.iconst (-1), 1) := by decide +kernel
theorem dX8_stepsOf_13 : decode cX8_stepsOf 13 = .ok (.istore 4, 2) := by decide +kernel
theorem dX8_stepsOf_15 : decode cX8_stepsOf 15 = .ok (.iconst 0, 1) := by decide +kernel
theorem dX8_stepsOf_16 : decode cX8_stepsOf 16 = .ok (.istore 5, 2) := by decide +kernel
theorem dX8_stepsOf_18 : decode cX8_stepsOf 18 = .ok (.iload 5, 2) := by decide +kernel
theorem dX8_stepsOf_20 : decode cX8_stepsOf 20 = .ok (.bipush 10, 2) := by decide +kernel
theorem dX8_stepsOf_22 : decode cX8_stepsOf 22 = .ok (.if_icmp .ge 63, 3) := by decide +kernel
theorem dX8_stepsOf_25 : decode cX8_stepsOf 25 = .ok (.aload_n 0, 1) := by decide +kernel
theorem dX8_stepsOf_26 : decode cX8_stepsOf 26 = .ok (.iload_n 2, 1) := by decide +kernel
theorem dX8_stepsOf_27 : decode cX8_stepsOf 27 = .ok (.bipush 11, 2) := by decide +kernel
theorem dX8_stepsOf_29 : decode cX8_stepsOf 29 = .ok (.invokevirtual 101, 3) := by decide +kernel
theorem dX8_stepsOf_32 : decode cX8_stepsOf 32 = .ok (.iload 5, 2) := by decide +kernel
theorem dX8_stepsOf_34 : decode cX8_stepsOf 34 = .ok (.invokestatic 151, 3) := by decide +kernel
theorem dX8_stepsOf_37 : decode cX8_stepsOf 37 = .ok (.ifCond .eq 42, 3) := by decide +kernel
theorem dX8_stepsOf_40 : decode cX8_stepsOf 40 = .ok (.iload_n 3, 1) := by decide +kernel
theorem dX8_stepsOf_41 : decode cX8_stepsOf 41 = .ok (.iload 5, 2) := by decide +kernel
theorem dX8_stepsOf_43 : decode cX8_stepsOf 43 = .ok (.invokestatic 151, 3) := by decide +kernel
theorem dX8_stepsOf_46 : decode cX8_stepsOf 46 = .ok (.ifCond .ne 6, 3) := by decide +kernel
theorem dX8_stepsOf_49 : decode cX8_stepsOf 49 = .ok (.goto 30, 3) := by decide +kernel
theorem dX8_stepsOf_52 : decode cX8_stepsOf 52 = .ok (.iload 4, 2) := by decide +kernel
theorem dX8_stepsOf_54 : decode cX8_stepsOf 54 = .ok (.iconst (-1), 1) := by decide +kernel
theorem dX8_stepsOf_55 : decode cX8_stepsOf 55 = .ok (.if_icmp .eq 15, 3) := by decide +kernel
theorem dX8_stepsOf_58 : decode cX8_stepsOf 58 = .ok (.aload_n 0, 1) := by decide +kernel
theorem dX8_stepsOf_59 : decode cX8_stepsOf 59 = .ok (.getfield 58, 3) := by decide +kernel
theorem dX8_stepsOf_62 : decode cX8_stepsOf 62 = .ok (.iload 5, 2) := by decide +kernel
theorem dX8_stepsOf_64 : decode cX8_stepsOf 64 = .ok (.iaload, 1) := by decide +kernel
theorem dX8_stepsOf_65 : decode cX8_stepsOf 65 = .ok (.iload 4, 2) := by decide +kernel
theorem dX8_stepsOf_67 : decode cX8_stepsOf 67 = .ok (.if_icmp .ge 12, 3) := by decide +kernel
theorem dX8_stepsOf_70 : decode cX8_stepsOf 70 = .ok (.aload_n 0, 1) := by decide +kernel
theorem dX8_stepsOf_71 : decode cX8_stepsOf 71 = .ok (.getfield 58, 3) := by decide +kernel
theorem dX8_stepsOf_74 : decode cX8_stepsOf 74 = .ok (.iload 5, 2) := by decide +kernel
theorem dX8_stepsOf_76 : decode cX8_stepsOf 76 = .ok (.iaload, 1) := by decide +kernel
theorem dX8_stepsOf_77 : decode cX8_stepsOf 77 = .ok (.istore 4, 2) := by decide +kernel
theorem dX8_stepsOf_79 : decode cX8_stepsOf 79 = .ok (.iinc 5 1, 3) := by decide +kernel
theorem dX8_stepsOf_82 : decode cX8_stepsOf 82 = .ok (.goto (-64), 3) := by decide +kernel
theorem dX8_stepsOf_85 : decode cX8_stepsOf 85 = .ok (.iload 4, 2) := by decide +kernel
theorem dX8_stepsOf_87 : decode cX8_stepsOf 87 = .ok (.ireturn, 1) := by decide +kernel
theorem dX8_areNear_0 : decode cX8_areNear 0 = .ok (.aload_n 0, 1) := by decide +kernel
theorem dX8_areNear_1 : decode cX8_areNear 1 = .ok (.getfield 46, 3) := by decide +kernel
theorem dX8_areNear_4 : decode cX8_areNear 4 = .ok (.bipush 13, 2) := by decide +kernel
theorem dX8_areNear_6 : decode cX8_areNear 6 = .ok (.iload_n 1, 1) := by decide +kernel
theorem dX8_areNear_7 : decode cX8_areNear 7 = .ok (.imul, 1) := by decide +kernel
theorem dX8_areNear_8 : decode cX8_areNear 8 = .ok (.iload_n 2, 1) := by decide +kernel
theorem dX8_areNear_9 : decode cX8_areNear 9 = .ok (.iadd, 1) := by decide +kernel
theorem dX8_areNear_10 : decode cX8_areNear 10 = .ok (.iaload, 1) := by decide +kernel
theorem dX8_areNear_11 : decode cX8_areNear 11 = .ok (.istore_n 3, 1) := by decide +kernel
theorem dX8_areNear_12 : decode cX8_areNear 12 = .ok (.iload_n 3, 1) := by decide +kernel
theorem dX8_areNear_13 : decode cX8_areNear 13 = .ok (.iconst (-1), 1) := by decide +kernel
theorem dX8_areNear_14 : decode cX8_areNear 14 = .ok (.if_icmp .eq 16, 3) := by decide +kernel
theorem dX8_areNear_17 : decode cX8_areNear 17 = .ok (.iload_n 3, 1) := by decide +kernel
theorem dX8_areNear_18 : decode cX8_areNear 18 = .ok (.aload_n 0, 1) := by decide +kernel
theorem dX8_areNear_19 : decode cX8_areNear 19 = .ok (.iconst 3, 1) := by decide +kernel
theorem dX8_areNear_20 : decode cX8_areNear 20 = .ok (.invokevirtual 158, 3) := by decide +kernel
theorem dX8_areNear_23 : decode cX8_areNear 23 = .ok (.if_icmp .gt 7, 3) := by decide +kernel
theorem dX8_areNear_26 : decode cX8_areNear 26 = .ok (.iconst 1, 1) := by decide +kernel
theorem dX8_areNear_27 : decode cX8_areNear 27 = .ok (.goto 4, 3) := by decide +kernel
theorem dX8_areNear_30 : decode cX8_areNear 30 = .ok (.iconst 0, 1) := by decide +kernel
theorem dX8_areNear_31 : decode cX8_areNear 31 = .ok (.ireturn, 1) := by decide +kernel
theorem dX8_layCouple_0 : decode cX8_layCouple 0 = .ok (.bipush 13, 2) := by decide +kernel
theorem dX8_layCouple_2 : decode cX8_layCouple 2 = .ok (.iload_n 1, 1) := by decide +kernel
theorem dX8_layCouple_3 : decode cX8_layCouple 3 = .ok (.imul, 1) := by decide +kernel
theorem dX8_layCouple_4 : decode cX8_layCouple 4 = .ok (.iload_n 2, 1) := by decide +kernel
theorem dX8_layCouple_5 : decode cX8_layCouple 5 = .ok (.iadd, 1) := by decide +kernel
theorem dX8_layCouple_6 : decode cX8_layCouple 6 = .ok (.istore_n 3, 1) := by decide +kernel
theorem dX8_layCouple_7 : decode cX8_layCouple 7 = .ok (.aload_n 0, 1) := by decide +kernel
theorem dX8_layCouple_8 : decode cX8_layCouple 8 = .ok (.getfield 37, 3) := by decide +kernel
theorem dX8_layCouple_11 : decode cX8_layCouple 11 = .ok (.iload_n 3, 1) := by decide +kernel
theorem dX8_layCouple_12 : decode cX8_layCouple 12 = .ok (.aload_n 0, 1) := by decide +kernel
theorem dX8_layCouple_13 : decode cX8_layCouple 13 = .ok (.iload_n 1, 1) := by decide +kernel
theorem dX8_layCouple_14 : decode cX8_layCouple 14 = .ok (.iload_n 2, 1) := by decide +kernel
theorem dX8_layCouple_15 : decode cX8_layCouple 15 = .ok (.invokevirtual 161, 3) := by decide +kernel
theorem dX8_layCouple_18 : decode cX8_layCouple 18 = .ok (.iastore, 1) := by decide +kernel
theorem dX8_layCouple_19 : decode cX8_layCouple 19 = .ok (.aload_n 0, 1) := by decide +kernel
theorem dX8_layCouple_20 : decode cX8_layCouple 20 = .ok (.getfield 40, 3) := by decide +kernel
theorem dX8_layCouple_23 : decode cX8_layCouple 23 = .ok (.iload_n 3, 1) := by decide +kernel
theorem dX8_layCouple_24 : decode cX8_layCouple 24 = .ok (.aload_n 0, 1) := by decide +kernel
theorem dX8_layCouple_25 : decode cX8_layCouple 25 = .ok (.iload_n 1, 1) := by decide +kernel
theorem dX8_layCouple_26 : decode cX8_layCouple 26 = .ok (.iload_n 2, 1) := by decide +kernel
theorem dX8_layCouple_27 : decode cX8_layCouple 27 = .ok (.invokevirtual 164, 3) := by decide +kernel
theorem dX8_layCouple_30 : decode cX8_layCouple 30 = .ok (.iastore, 1) := by decide +kernel
theorem dX8_layCouple_31 : decode cX8_layCouple 31 = .ok (.aload_n 0, 1) := by decide +kernel
theorem dX8_layCouple_32 : decode cX8_layCouple 32 = .ok (.getfield 43, 3) := by decide +kernel
theorem dX8_layCouple_35 : decode cX8_layCouple 35 = .ok (.iload_n 3, 1) := by decide +kernel
theorem dX8_layCouple_36 : decode cX8_layCouple 36 = .ok (.aload_n 0, 1) := by decide +kernel
theorem dX8_layCouple_37 : decode cX8_layCouple 37 = .ok (.iconst 5, 1) := by decide +kernel
theorem dX8_layCouple_38 : decode cX8_layCouple 38 = .ok (.invokevirtual 158, 3) := by decide +kernel
theorem dX8_layCouple_41 : decode cX8_layCouple 41 = .ok (.aload_n 0, 1) := by decide +kernel
theorem dX8_layCouple_42 : decode cX8_layCouple 42 = .ok (.getfield 40, 3) := by decide +kernel
theorem dX8_layCouple_45 : decode cX8_layCouple 45 = .ok (.iload_n 3, 1) := by decide +kernel
theorem dX8_layCouple_46 : decode cX8_layCouple 46 = .ok (.iaload, 1) := by decide +kernel
theorem dX8_layCouple_47 : decode cX8_layCouple 47 = .ok (.imul, 1) := by decide +kernel
theorem dX8_layCouple_48 : decode cX8_layCouple 48 = .ok (.bipush 100, 2) := by decide +kernel
theorem dX8_layCouple_50 : decode cX8_layCouple 50 = .ok (.aload_n 0, 1) := by decide +kernel
theorem dX8_layCouple_51 : decode cX8_layCouple 51 = .ok (.iconst 5, 1) := by decide +kernel
theorem dX8_layCouple_52 : decode cX8_layCouple 52 = .ok (.invokevirtual 158, 3) := by decide +kernel
theorem dX8_layCouple_55 : decode cX8_layCouple 55 = .ok (.isub, 1) := by decide +kernel
theorem dX8_layCouple_56 : decode cX8_layCouple 56 = .ok (.aload_n 0, 1) := by decide +kernel
theorem dX8_layCouple_57 : decode cX8_layCouple 57 = .ok (.getfield 37, 3) := by decide +kernel
theorem dX8_layCouple_60 : decode cX8_layCouple 60 = .ok (.iload_n 3, 1) := by decide +kernel
theorem dX8_layCouple_61 : decode cX8_layCouple 61 = .ok (.iaload, 1) := by decide +kernel
theorem dX8_layCouple_62 : decode cX8_layCouple 62 = .ok (.imul, 1) := by decide +kernel
theorem dX8_layCouple_63 : decode cX8_layCouple 63 = .ok (.iadd, 1) := by decide +kernel
theorem dX8_layCouple_64 : decode cX8_layCouple 64 = .ok (.bipush 100, 2) := by decide +kernel
theorem dX8_layCouple_66 : decode cX8_layCouple 66 = .ok (.idiv, 1) := by decide +kernel
theorem dX8_layCouple_67 : decode cX8_layCouple 67 = .ok (.iastore, 1) := by decide +kernel
theorem dX8_layCouple_68 : decode cX8_layCouple 68 = .ok (.aload_n 0, 1) := by decide +kernel
theorem dX8_layCouple_69 : decode cX8_layCouple 69 = .ok (.getfield 46, 3) := by decide +kernel
theorem dX8_layCouple_72 : decode cX8_layCouple 72 = .ok (.iload_n 3, 1) := by decide +kernel
theorem dX8_layCouple_73 : decode cX8_layCouple 73 = .ok (.aload_n 0, 1) := by decide +kernel
theorem dX8_layCouple_74 : decode cX8_layCouple 74 = .ok (.iload_n 1, 1) := by decide +kernel
theorem dX8_layCouple_75 : decode cX8_layCouple 75 = .ok (.iload_n 2, 1) := by decide +kernel
theorem dX8_layCouple_76 : decode cX8_layCouple 76 = .ok (.invokevirtual 167, 3) := by decide +kernel
theorem dX8_layCouple_79 : decode cX8_layCouple 79 = .ok (.iastore, 1) := by decide +kernel
theorem dX8_layCouple_80 : decode cX8_layCouple 80 = .ok (.return_, 1) := by decide +kernel
theorem dX8_fieldOf_0 : decode cX8_fieldOf 0 = .ok (.iconst 0, 1) := by decide +kernel
theorem dX8_fieldOf_1 : decode cX8_fieldOf 1 = .ok (.istore_n 2, 1) := by decide +kernel
theorem dX8_fieldOf_2 : decode cX8_fieldOf 2 = .ok (.iconst 0, 1) := by decide +kernel
theorem dX8_fieldOf_3 : decode cX8_fieldOf 3 = .ok (.istore_n 3, 1) := by decide +kernel
theorem dX8_fieldOf_4 : decode cX8_fieldOf 4 = .ok (.iload_n 3, 1) := by decide +kernel
theorem dX8_fieldOf_5 : decode cX8_fieldOf 5 = .ok (.aload_n 0, 1) := by decide +kernel
theorem dX8_fieldOf_6 : decode cX8_fieldOf 6 = .ok (.invokevirtual 90, 3) := by decide +kernel
theorem dX8_fieldOf_9 : decode cX8_fieldOf 9 = .ok (.if_icmp .ge 50, 3) := by decide +kernel
theorem dX8_fieldOf_12 : decode cX8_fieldOf 12 = .ok (.iload_n 2, 1) := by decide +kernel
theorem dX8_fieldOf_13 : decode cX8_fieldOf 13 = .ok (.iload_n 3, 1) := by decide +kernel
theorem dX8_fieldOf_14 : decode cX8_fieldOf 14 = .ok (.iload_n 1, 1) := by decide +kernel
theorem dX8_fieldOf_15 : decode cX8_fieldOf 15 = .ok (.if_icmp .eq 35, 3) := by decide +kernel
theorem dX8_fieldOf_18 : decode cX8_fieldOf 18 = .ok (.aload_n 0, 1) := by decide +kernel
theorem dX8_fieldOf_19 : decode cX8_fieldOf 19 = .ok (.iload_n 1, 1) := by decide +kernel
theorem dX8_fieldOf_20 : decode cX8_fieldOf 20 = .ok (.iload_n 3, 1) := by decide +kernel
theorem dX8_fieldOf_21 : decode cX8_fieldOf 21 = .ok (.invokevirtual 170, 3) := by decide +kernel
theorem dX8_fieldOf_24 : decode cX8_fieldOf 24 = .ok (.ifCond .eq 26, 3) := by decide +kernel
theorem dX8_fieldOf_27 : decode cX8_fieldOf 27 = .ok (.aload_n 0, 1) := by decide +kernel
theorem dX8_fieldOf_28 : decode cX8_fieldOf 28 = .ok (.getfield 43, 3) := by decide +kernel
theorem dX8_fieldOf_31 : decode cX8_fieldOf 31 = .ok (.bipush 13, 2) := by decide +kernel
theorem dX8_fieldOf_33 : decode cX8_fieldOf 33 = .ok (.iload_n 1, 1) := by decide +kernel
theorem dX8_fieldOf_34 : decode cX8_fieldOf 34 = .ok (.imul, 1) := by decide +kernel
theorem dX8_fieldOf_35 : decode cX8_fieldOf 35 = .ok (.iload_n 3, 1) := by decide +kernel
theorem dX8_fieldOf_36 : decode cX8_fieldOf 36 = .ok (.iadd, 1) := by decide +kernel
theorem dX8_fieldOf_37 : decode cX8_fieldOf 37 = .ok (.iaload, 1) := by decide +kernel
theorem dX8_fieldOf_38 : decode cX8_fieldOf 38 = .ok (.aload_n 0, 1) := by decide +kernel
theorem dX8_fieldOf_39 : decode cX8_fieldOf 39 = .ok (.iconst 0, 1) := by decide +kernel
theorem dX8_fieldOf_40 : decode cX8_fieldOf 40 = .ok (.invokevirtual 158, 3) := by decide +kernel
theorem dX8_fieldOf_43 : decode cX8_fieldOf 43 = .ok (.if_icmp .lt 7, 3) := by decide +kernel
theorem dX8_fieldOf_46 : decode cX8_fieldOf 46 = .ok (.iconst 1, 1) := by decide +kernel
theorem dX8_fieldOf_47 : decode cX8_fieldOf 47 = .ok (.goto 4, 3) := by decide +kernel
theorem dX8_fieldOf_50 : decode cX8_fieldOf 50 = .ok (.iconst 0, 1) := by decide +kernel
theorem dX8_fieldOf_51 : decode cX8_fieldOf 51 = .ok (.iadd, 1) := by decide +kernel
theorem dX8_fieldOf_52 : decode cX8_fieldOf 52 = .ok (.istore_n 2, 1) := by decide +kernel
theorem dX8_fieldOf_53 : decode cX8_fieldOf 53 = .ok (.iinc 3 1, 3) := by decide +kernel
theorem dX8_fieldOf_56 : decode cX8_fieldOf 56 = .ok (.goto (-52), 3) := by decide +kernel
theorem dX8_fieldOf_59 : decode cX8_fieldOf 59 = .ok (.iload_n 2, 1) := by decide +kernel
theorem dX8_fieldOf_60 : decode cX8_fieldOf 60 = .ok (.ireturn, 1) := by decide +kernel
theorem dX8_areAlike_0 : decode cX8_areAlike 0 = .ok (.bipush 100, 2) := by decide +kernel
theorem dX8_areAlike_2 : decode cX8_areAlike 2 = .ok (.aload_n 0, 1) := by decide +kernel
theorem dX8_areAlike_3 : decode cX8_areAlike 3 = .ok (.iconst 0, 1) := by decide +kernel
theorem dX8_areAlike_4 : decode cX8_areAlike 4 = .ok (.invokevirtual 158, 3) := by decide +kernel
theorem dX8_areAlike_7 : decode cX8_areAlike 7 = .ok (.aload_n 0, 1) := by decide +kernel
theorem dX8_areAlike_8 : decode cX8_areAlike 8 = .ok (.iconst 1, 1) := by decide +kernel
theorem dX8_areAlike_9 : decode cX8_areAlike 9 = .ok (.invokevirtual 158, 3) := by decide +kernel
theorem dX8_areAlike_12 : decode cX8_areAlike 12 = .ok (.aload_n 0, 1) := by decide +kernel
theorem dX8_areAlike_13 : decode cX8_areAlike 13 = .ok (.getfield 52, 3) := by decide +kernel
theorem dX8_areAlike_16 : decode cX8_areAlike 16 = .ok (.iload_n 1, 1) := by decide +kernel
theorem dX8_areAlike_17 : decode cX8_areAlike 17 = .ok (.iaload, 1) := by decide +kernel
theorem dX8_areAlike_18 : decode cX8_areAlike 18 = .ok (.aload_n 0, 1) := by decide +kernel
theorem dX8_areAlike_19 : decode cX8_areAlike 19 = .ok (.getfield 52, 3) := by decide +kernel
theorem dX8_areAlike_22 : decode cX8_areAlike 22 = .ok (.iload_n 2, 1) := by decide +kernel
theorem dX8_areAlike_23 : decode cX8_areAlike 23 = .ok (.iaload, 1) := by decide +kernel
theorem dX8_areAlike_24 : decode cX8_areAlike 24 = .ok (.invokestatic 142, 3) := by decide +kernel
theorem dX8_areAlike_27 : decode cX8_areAlike 27 = .ok (.imul, 1) := by decide +kernel
theorem dX8_areAlike_28 : decode cX8_areAlike 28 = .ok (.iadd, 1) := by decide +kernel
theorem dX8_areAlike_29 : decode cX8_areAlike 29 = .ok (.invokestatic 133, 3) := by decide +kernel
theorem dX8_areAlike_32 : decode cX8_areAlike 32 = .ok (.istore_n 3, 1) := by decide +kernel
theorem dX8_areAlike_33 : decode cX8_areAlike 33 = .ok (.iload_n 1, 1) := by decide +kernel
theorem dX8_areAlike_34 : decode cX8_areAlike 34 = .ok (.iload_n 2, 1) := by decide +kernel
theorem dX8_areAlike_35 : decode cX8_areAlike 35 = .ok (.if_icmp .eq 31, 3) := by decide +kernel
theorem dX8_areAlike_38 : decode cX8_areAlike 38 = .ok (.aload_n 0, 1) := by decide +kernel
theorem dX8_areAlike_39 : decode cX8_areAlike 39 = .ok (.iload_n 1, 1) := by decide +kernel
theorem dX8_areAlike_40 : decode cX8_areAlike 40 = .ok (.iload_n 2, 1) := by decide +kernel
theorem dX8_areAlike_41 : decode cX8_areAlike 41 = .ok (.invokevirtual 170, 3) := by decide +kernel
theorem dX8_areAlike_44 : decode cX8_areAlike 44 = .ok (.ifCond .eq 22, 3) := by decide +kernel
theorem dX8_areAlike_47 : decode cX8_areAlike 47 = .ok (.aload_n 0, 1) := by decide +kernel
theorem dX8_areAlike_48 : decode cX8_areAlike 48 = .ok (.getfield 43, 3) := by decide +kernel
theorem dX8_areAlike_51 : decode cX8_areAlike 51 = .ok (.bipush 13, 2) := by decide +kernel
theorem dX8_areAlike_53 : decode cX8_areAlike 53 = .ok (.iload_n 1, 1) := by decide +kernel
theorem dX8_areAlike_54 : decode cX8_areAlike 54 = .ok (.imul, 1) := by decide +kernel
theorem dX8_areAlike_55 : decode cX8_areAlike 55 = .ok (.iload_n 2, 1) := by decide +kernel
theorem dX8_areAlike_56 : decode cX8_areAlike 56 = .ok (.iadd, 1) := by decide +kernel
theorem dX8_areAlike_57 : decode cX8_areAlike 57 = .ok (.iaload, 1) := by decide +kernel
theorem dX8_areAlike_58 : decode cX8_areAlike 58 = .ok (.iload_n 3, 1) := by decide +kernel
theorem dX8_areAlike_59 : decode cX8_areAlike 59 = .ok (.if_icmp .lt 7, 3) := by decide +kernel
theorem dX8_areAlike_62 : decode cX8_areAlike 62 = .ok (.iconst 1, 1) := by decide +kernel
theorem dX8_areAlike_63 : decode cX8_areAlike 63 = .ok (.goto 4, 3) := by decide +kernel
theorem dX8_areAlike_66 : decode cX8_areAlike 66 = .ok (.iconst 0, 1) := by decide +kernel
theorem dX8_areAlike_67 : decode cX8_areAlike 67 = .ok (.ireturn, 1) := by decide +kernel
theorem dX8_lay_0 : decode cX8_lay 0 = .ok (.aload_n 0, 1) := by decide +kernel
theorem dX8_lay_1 : decode cX8_lay 1 = .ok (.getfield 173, 3) := by decide +kernel
theorem dX8_lay_4 : decode cX8_lay 4 = .ok (.ifCond .eq 4, 3) := by decide +kernel
theorem dX8_lay_7 : decode cX8_lay 7 = .ok (.return_, 1) := by decide +kernel
theorem dX8_lay_8 : decode cX8_lay 8 = .ok (.aload_n 0, 1) := by decide +kernel
theorem dX8_lay_9 : decode cX8_lay 9 = .ok (.iconst 1, 1) := by decide +kernel
theorem dX8_lay_10 : decode cX8_lay 10 = .ok (.putfield 173, 3) := by decide +kernel
theorem dX8_lay_13 : decode cX8_lay 13 = .ok (.iconst 0, 1) := by decide +kernel
theorem dX8_lay_14 : decode cX8_lay 14 = .ok (.istore_n 1, 1) := by decide +kernel
theorem dX8_lay_15 : decode cX8_lay 15 = .ok (.iload_n 1, 1) := by decide +kernel
theorem dX8_lay_16 : decode cX8_lay 16 = .ok (.aload_n 0, 1) := by decide +kernel
theorem dX8_lay_17 : decode cX8_lay 17 = .ok (.invokevirtual 90, 3) := by decide +kernel
theorem dX8_lay_20 : decode cX8_lay 20 = .ok (.if_icmp .ge 14, 3) := by decide +kernel
theorem dX8_lay_23 : decode cX8_lay 23 = .ok (.aload_n 0, 1) := by decide +kernel
theorem dX8_lay_24 : decode cX8_lay 24 = .ok (.iload_n 1, 1) := by decide +kernel
theorem dX8_lay_25 : decode cX8_lay 25 = .ok (.invokevirtual 177, 3) := by decide +kernel
theorem dX8_lay_28 : decode cX8_lay 28 = .ok (.iinc 1 1, 3) := by decide +kernel
theorem dX8_lay_31 : decode cX8_lay 31 = .ok (.goto (-16), 3) := by decide +kernel
theorem dX8_lay_34 : decode cX8_lay 34 = .ok (.iconst 0, 1) := by decide +kernel
theorem dX8_lay_35 : decode cX8_lay 35 = .ok (.istore_n 1, 1) := by decide +kernel
theorem dX8_lay_36 : decode cX8_lay 36 = .ok (.iload_n 1, 1) := by decide +kernel
theorem dX8_lay_37 : decode cX8_lay 37 = .ok (.aload_n 0, 1) := by decide +kernel
theorem dX8_lay_38 : decode cX8_lay 38 = .ok (.invokevirtual 90, 3) := by decide +kernel
theorem dX8_lay_41 : decode cX8_lay 41 = .ok (.if_icmp .ge 31, 3) := by decide +kernel
theorem dX8_lay_44 : decode cX8_lay 44 = .ok (.iconst 0, 1) := by decide +kernel
theorem dX8_lay_45 : decode cX8_lay 45 = .ok (.istore_n 2, 1) := by decide +kernel
theorem dX8_lay_46 : decode cX8_lay 46 = .ok (.iload_n 2, 1) := by decide +kernel
theorem dX8_lay_47 : decode cX8_lay 47 = .ok (.aload_n 0, 1) := by decide +kernel
theorem dX8_lay_48 : decode cX8_lay 48 = .ok (.invokevirtual 90, 3) := by decide +kernel
theorem dX8_lay_51 : decode cX8_lay 51 = .ok (.if_icmp .ge 15, 3) := by decide +kernel
theorem dX8_lay_54 : decode cX8_lay 54 = .ok (.aload_n 0, 1) := by decide +kernel
theorem dX8_lay_55 : decode cX8_lay 55 = .ok (.iload_n 1, 1) := by decide +kernel
theorem dX8_lay_56 : decode cX8_lay 56 = .ok (.iload_n 2, 1) := by decide +kernel
theorem dX8_lay_57 : decode cX8_lay 57 = .ok (.invokevirtual 181, 3) := by decide +kernel
theorem dX8_lay_60 : decode cX8_lay 60 = .ok (.iinc 2 1, 3) := by decide +kernel
theorem dX8_lay_63 : decode cX8_lay 63 = .ok (.goto (-17), 3) := by decide +kernel
theorem dX8_lay_66 : decode cX8_lay 66 = .ok (.iinc 1 1, 3) := by decide +kernel
theorem dX8_lay_69 : decode cX8_lay 69 = .ok (.goto (-33), 3) := by decide +kernel
theorem dX8_lay_72 : decode cX8_lay 72 = .ok (.iconst 0, 1) := by decide +kernel
theorem dX8_lay_73 : decode cX8_lay 73 = .ok (.istore_n 1, 1) := by decide +kernel
theorem dX8_lay_74 : decode cX8_lay 74 = .ok (.iload_n 1, 1) := by decide +kernel
theorem dX8_lay_75 : decode cX8_lay 75 = .ok (.aload_n 0, 1) := by decide +kernel
theorem dX8_lay_76 : decode cX8_lay 76 = .ok (.invokevirtual 90, 3) := by decide +kernel
theorem dX8_lay_79 : decode cX8_lay 79 = .ok (.if_icmp .ge 42, 3) := by decide +kernel
theorem dX8_lay_82 : decode cX8_lay 82 = .ok (.aload_n 0, 1) := by decide +kernel
theorem dX8_lay_83 : decode cX8_lay 83 = .ok (.getfield 49, 3) := by decide +kernel
theorem dX8_lay_86 : decode cX8_lay 86 = .ok (.iload_n 1, 1) := by decide +kernel
theorem dX8_lay_87 : decode cX8_lay 87 = .ok (.aload_n 0, 1) := by decide +kernel
theorem dX8_lay_88 : decode cX8_lay 88 = .ok (.iload_n 1, 1) := by decide +kernel
theorem dX8_lay_89 : decode cX8_lay 89 = .ok (.invokevirtual 184, 3) := by decide +kernel
theorem dX8_lay_92 : decode cX8_lay 92 = .ok (.iastore, 1) := by decide +kernel
theorem dX8_lay_93 : decode cX8_lay 93 = .ok (.aload_n 0, 1) := by decide +kernel
theorem dX8_lay_94 : decode cX8_lay 94 = .ok (.getfield 52, 3) := by decide +kernel
theorem dX8_lay_97 : decode cX8_lay 97 = .ok (.iload_n 1, 1) := by decide +kernel
theorem dX8_lay_98 : decode cX8_lay 98 = .ok (.iconst 0, 1) := by decide +kernel
theorem dX8_lay_99 : decode cX8_lay 99 = .ok (.aload_n 0, 1) := by decide +kernel
theorem dX8_lay_100 : decode cX8_lay 100 = .ok (.getfield 49, 3) := by decide +kernel
theorem dX8_lay_103 : decode cX8_lay 103 = .ok (.iload_n 1, 1) := by decide +kernel
theorem dX8_lay_104 : decode cX8_lay 104 = .ok (.iaload, 1) := by decide +kernel
theorem dX8_lay_105 : decode cX8_lay 105 = .ok (.aload_n 0, 1) := by decide +kernel
theorem dX8_lay_106 : decode cX8_lay 106 = .ok (.iconst 2, 1) := by decide +kernel
theorem dX8_lay_107 : decode cX8_lay 107 = .ok (.invokevirtual 158, 3) := by decide +kernel
theorem dX8_lay_110 : decode cX8_lay 110 = .ok (.isub, 1) := by decide +kernel
theorem dX8_lay_111 : decode cX8_lay 111 = .ok (.invokestatic 142, 3) := by decide +kernel
theorem dX8_lay_114 : decode cX8_lay 114 = .ok (.iastore, 1) := by decide +kernel
theorem dX8_lay_115 : decode cX8_lay 115 = .ok (.iinc 1 1, 3) := by decide +kernel
theorem dX8_lay_118 : decode cX8_lay 118 = .ok (.goto (-44), 3) := by decide +kernel
theorem dX8_lay_121 : decode cX8_lay 121 = .ok (.iconst 0, 1) := by decide +kernel
theorem dX8_lay_122 : decode cX8_lay 122 = .ok (.istore_n 1, 1) := by decide +kernel
theorem dX8_lay_123 : decode cX8_lay 123 = .ok (.iload_n 1, 1) := by decide +kernel
theorem dX8_lay_124 : decode cX8_lay 124 = .ok (.aload_n 0, 1) := by decide +kernel
theorem dX8_lay_125 : decode cX8_lay 125 = .ok (.invokevirtual 90, 3) := by decide +kernel
theorem dX8_lay_128 : decode cX8_lay 128 = .ok (.if_icmp .ge 53, 3) := by decide +kernel
theorem dX8_lay_131 : decode cX8_lay 131 = .ok (.aload_n 0, 1) := by decide +kernel
theorem dX8_lay_132 : decode cX8_lay 132 = .ok (.getfield 55, 3) := by decide +kernel
theorem dX8_lay_135 : decode cX8_lay 135 = .ok (.iload_n 1, 1) := by decide +kernel
theorem dX8_lay_136 : decode cX8_lay 136 = .ok (.iconst 0, 1) := by decide +kernel
theorem dX8_lay_137 : decode cX8_lay 137 = .ok (.iastore, 1) := by decide +kernel
theorem dX8_lay_138 : decode cX8_lay 138 = .ok (.iconst 0, 1) := by decide +kernel
theorem dX8_lay_139 : decode cX8_lay 139 = .ok (.istore_n 2, 1) := by decide +kernel
theorem dX8_lay_140 : decode cX8_lay 140 = .ok (.iload_n 2, 1) := by decide +kernel
theorem dX8_lay_141 : decode cX8_lay 141 = .ok (.aload_n 0, 1) := by decide +kernel
theorem dX8_lay_142 : decode cX8_lay 142 = .ok (.invokevirtual 90, 3) := by decide +kernel
theorem dX8_lay_145 : decode cX8_lay 145 = .ok (.if_icmp .ge 30, 3) := by decide +kernel
theorem dX8_lay_148 : decode cX8_lay 148 = .ok (.aload_n 0, 1) := by decide +kernel
theorem dX8_lay_149 : decode cX8_lay 149 = .ok (.iload_n 1, 1) := by decide +kernel
theorem dX8_lay_150 : decode cX8_lay 150 = .ok (.iload_n 2, 1) := by decide +kernel
theorem dX8_lay_151 : decode cX8_lay 151 = .ok (.invokevirtual 187, 3) := by decide +kernel
theorem dX8_lay_154 : decode cX8_lay 154 = .ok (.ifCond .eq 15, 3) := by decide +kernel
theorem dX8_lay_157 : decode cX8_lay 157 = .ok (.aload_n 0, 1) := by decide +kernel
theorem dX8_lay_158 : decode cX8_lay 158 = .ok (.getfield 55, 3) := by decide +kernel
theorem dX8_lay_161 : decode cX8_lay 161 = .ok (.iload_n 1, 1) := by decide +kernel
theorem dX8_lay_162 : decode cX8_lay 162 = .ok (.dup2, 1) := by decide +kernel
theorem dX8_lay_163 : decode cX8_lay 163 = .ok (.iaload, 1) := by decide +kernel
theorem dX8_lay_164 : decode cX8_lay 164 = .ok (.iconst 1, 1) := by decide +kernel
theorem dX8_lay_165 : decode cX8_lay 165 = .ok (.iload_n 2, 1) := by decide +kernel
theorem dX8_lay_166 : decode cX8_lay 166 = .ok (.ishl, 1) := by decide +kernel
theorem dX8_lay_167 : decode cX8_lay 167 = .ok (.ior, 1) := by decide +kernel
theorem dX8_lay_168 : decode cX8_lay 168 = .ok (.iastore, 1) := by decide +kernel
theorem dX8_lay_169 : decode cX8_lay 169 = .ok (.iinc 2 1, 3) := by decide +kernel
theorem dX8_lay_172 : decode cX8_lay 172 = .ok (.goto (-32), 3) := by decide +kernel
theorem dX8_lay_175 : decode cX8_lay 175 = .ok (.iinc 1 1, 3) := by decide +kernel
theorem dX8_lay_178 : decode cX8_lay 178 = .ok (.goto (-55), 3) := by decide +kernel
theorem dX8_lay_181 : decode cX8_lay 181 = .ok (.return_, 1) := by decide +kernel
theorem dX8_isLive_0 : decode cX8_isLive 0 = .ok (.bipush 14, 2) := by decide +kernel
theorem dX8_isLive_2 : decode cX8_isLive 2 = .ok (.iconst 3, 1) := by decide +kernel
theorem dX8_isLive_3 : decode cX8_isLive 3 = .ok (.iload_n 2, 1) := by decide +kernel
theorem dX8_isLive_4 : decode cX8_isLive 4 = .ok (.imul, 1) := by decide +kernel
theorem dX8_isLive_5 : decode cX8_isLive 5 = .ok (.iadd, 1) := by decide +kernel
theorem dX8_isLive_6 : decode cX8_isLive 6 = .ok (.istore 4, 2) := by decide +kernel
theorem dX8_isLive_8 : decode cX8_isLive 8 = .ok (.aload_n 0, 1) := by decide +kernel
theorem dX8_isLive_9 : decode cX8_isLive 9 = .ok (.iload_n 1, 1) := by decide +kernel
theorem dX8_isLive_10 : decode cX8_isLive 10 = .ok (.iload 4, 2) := by decide +kernel
theorem dX8_isLive_12 : decode cX8_isLive 12 = .ok (.iconst 1, 1) := by decide +kernel
theorem dX8_isLive_13 : decode cX8_isLive 13 = .ok (.iadd, 1) := by decide +kernel
theorem dX8_isLive_14 : decode cX8_isLive 14 = .ok (.invokevirtual 101, 3) := by decide +kernel
theorem dX8_isLive_17 : decode cX8_isLive 17 = .ok (.iload_n 3, 1) := by decide +kernel
theorem dX8_isLive_18 : decode cX8_isLive 18 = .ok (.if_icmp .gt 26, 3) := by decide +kernel
theorem dX8_isLive_21 : decode cX8_isLive 21 = .ok (.iload_n 3, 1) := by decide +kernel
theorem dX8_isLive_22 : decode cX8_isLive 22 = .ok (.aload_n 0, 1) := by decide +kernel
theorem dX8_isLive_23 : decode cX8_isLive 23 = .ok (.iload_n 1, 1) := by decide +kernel
theorem dX8_isLive_24 : decode cX8_isLive 24 = .ok (.iload 4, 2) := by decide +kernel
theorem dX8_isLive_26 : decode cX8_isLive 26 = .ok (.iconst 2, 1) := by decide +kernel
theorem dX8_isLive_27 : decode cX8_isLive 27 = .ok (.iadd, 1) := by decide +kernel
theorem dX8_isLive_28 : decode cX8_isLive 28 = .ok (.invokevirtual 101, 3) := by decide +kernel
theorem dX8_isLive_31 : decode cX8_isLive 31 = .ok (.aload_n 0, 1) := by decide +kernel
theorem dX8_isLive_32 : decode cX8_isLive 32 = .ok (.iconst 4, 1) := by decide +kernel
theorem dX8_isLive_33 : decode cX8_isLive 33 = .ok (.invokevirtual 158, 3) := by decide +kernel
theorem dX8_isLive_36 : decode cX8_isLive 36 = .ok (.iadd, 1) := by decide +kernel
theorem dX8_isLive_37 : decode cX8_isLive 37 = .ok (.if_icmp .gt 7, 3) := by decide +kernel
theorem dX8_isLive_40 : decode cX8_isLive 40 = .ok (.iconst 1, 1) := by decide +kernel
theorem dX8_isLive_41 : decode cX8_isLive 41 = .ok (.goto 4, 3) := by decide +kernel
theorem dX8_isLive_44 : decode cX8_isLive 44 = .ok (.iconst 0, 1) := by decide +kernel
theorem dX8_isLive_45 : decode cX8_isLive 45 = .ok (.ireturn, 1) := by decide +kernel
theorem dX8_sinceOf_0 : decode cX8_sinceOf 0 = .ok (.iconst (-1), 1) := by decide +kernel
theorem dX8_sinceOf_1 : decode cX8_sinceOf 1 = .ok (.istore 4, 2) := by decide +kernel
theorem dX8_sinceOf_3 : decode cX8_sinceOf 3 = .ok (.iload_n 3, 1) := by decide +kernel
theorem dX8_sinceOf_4 : decode cX8_sinceOf 4 = .ok (.istore 5, 2) := by decide +kernel
theorem dX8_sinceOf_6 : decode cX8_sinceOf 6 = .ok (.iconst 1, 1) := by decide +kernel
theorem dX8_sinceOf_7 : decode cX8_sinceOf 7 = .ok (.istore 6, 2) := by decide +kernel
theorem dX8_sinceOf_9 : decode cX8_sinceOf 9 = .ok (.iload 6, 2) := by decide +kernel
theorem dX8_sinceOf_11 : decode cX8_sinceOf 11 = .ok (.ifCond .eq 103, 3) := by decide +kernel
theorem dX8_sinceOf_14 : decode cX8_sinceOf 14 = .ok (.iconst 0, 1) := by decide +kernel
theorem dX8_sinceOf_15 : decode cX8_sinceOf 15 = .ok (.istore 6, 2) := by decide +kernel
theorem dX8_sinceOf_17 : decode cX8_sinceOf 17 = .ok (.iconst 0, 1) := by decide +kernel
theorem dX8_sinceOf_18 : decode cX8_sinceOf 18 = .ok (.istore 7, 2) := by decide +kernel
theorem dX8_sinceOf_20 : decode cX8_sinceOf 20 = .ok (.iload 7, 2) := by decide +kernel
theorem dX8_sinceOf_22 : decode cX8_sinceOf 22 = .ok (.aload_n 0, 1) := by decide +kernel
theorem dX8_sinceOf_23 : decode cX8_sinceOf 23 = .ok (.iload_n 1, 1) := by decide +kernel
theorem dX8_sinceOf_24 : decode cX8_sinceOf 24 = .ok (.bipush 13, 2) := by decide +kernel
theorem dX8_sinceOf_26 : decode cX8_sinceOf 26 = .ok (.invokevirtual 101, 3) := by decide +kernel
theorem dX8_sinceOf_29 : decode cX8_sinceOf 29 = .ok (.if_icmp .ge 76, 3) := by decide +kernel
theorem dX8_sinceOf_32 : decode cX8_sinceOf 32 = .ok (.aload_n 0, 1) := by decide +kernel
theorem dX8_sinceOf_33 : decode cX8_sinceOf 33 = .ok (.iload_n 1, 1) := by decide +kernel
theorem dX8_sinceOf_34 : decode cX8_sinceOf 34 = .ok (.bipush 14, 2) := by decide +kernel
theorem dX8_sinceOf_36 : decode cX8_sinceOf 36 = .ok (.iconst 3, 1) := by decide +kernel
theorem dX8_sinceOf_37 : decode cX8_sinceOf 37 = .ok (.iload 7, 2) := by decide +kernel
theorem dX8_sinceOf_39 : decode cX8_sinceOf 39 = .ok (.imul, 1) := by decide +kernel
theorem dX8_sinceOf_40 : decode cX8_sinceOf 40 = .ok (.iadd, 1) := by decide +kernel
theorem dX8_sinceOf_41 : decode cX8_sinceOf 41 = .ok (.iconst 1, 1) := by decide +kernel
theorem dX8_sinceOf_42 : decode cX8_sinceOf 42 = .ok (.iadd, 1) := by decide +kernel
theorem dX8_sinceOf_43 : decode cX8_sinceOf 43 = .ok (.invokevirtual 101, 3) := by decide +kernel
theorem dX8_sinceOf_46 : decode cX8_sinceOf 46 = .ok (.istore 8, 2) := by decide +kernel
theorem dX8_sinceOf_48 : decode cX8_sinceOf 48 = .ok (.aload_n 0, 1) := by decide +kernel
theorem dX8_sinceOf_49 : decode cX8_sinceOf 49 = .ok (.iload_n 1, 1) := by decide +kernel
theorem dX8_sinceOf_50 : decode cX8_sinceOf 50 = .ok (.bipush 14, 2) := by decide +kernel
theorem dX8_sinceOf_52 : decode cX8_sinceOf 52 = .ok (.iconst 3, 1) := by decide +kernel
theorem dX8_sinceOf_53 : decode cX8_sinceOf 53 = .ok (.iload 7, 2) := by decide +kernel
theorem dX8_sinceOf_55 : decode cX8_sinceOf 55 = .ok (.imul, 1) := by decide +kernel
theorem dX8_sinceOf_56 : decode cX8_sinceOf 56 = .ok (.iadd, 1) := by decide +kernel
theorem dX8_sinceOf_57 : decode cX8_sinceOf 57 = .ok (.invokevirtual 101, 3) := by decide +kernel
theorem dX8_sinceOf_60 : decode cX8_sinceOf 60 = .ok (.iload_n 2, 1) := by decide +kernel
theorem dX8_sinceOf_61 : decode cX8_sinceOf 61 = .ok (.if_icmp .ne 38, 3) := by decide +kernel
theorem dX8_sinceOf_64 : decode cX8_sinceOf 64 = .ok (.aload_n 0, 1) := by decide +kernel
theorem dX8_sinceOf_65 : decode cX8_sinceOf 65 = .ok (.iload_n 1, 1) := by decide +kernel
theorem dX8_sinceOf_66 : decode cX8_sinceOf 66 = .ok (.iload 7, 2) := by decide +kernel
theorem dX8_sinceOf_68 : decode cX8_sinceOf 68 = .ok (.iload 5, 2) := by decide +kernel
theorem dX8_sinceOf_70 : decode cX8_sinceOf 70 = .ok (.invokevirtual 190, 3) := by decide +kernel
theorem dX8_sinceOf_73 : decode cX8_sinceOf 73 = .ok (.ifCond .eq 26, 3) := by decide +kernel
theorem dX8_sinceOf_76 : decode cX8_sinceOf 76 = .ok (.iload 4, 2) := by decide +kernel
theorem dX8_sinceOf_78 : decode cX8_sinceOf 78 = .ok (.iconst (-1), 1) := by decide +kernel
theorem dX8_sinceOf_79 : decode cX8_sinceOf 79 = .ok (.if_icmp .eq 13, 3) := by decide +kernel
theorem dX8_sinceOf_82 : decode cX8_sinceOf 82 = .ok (.iload 8, 2) := by decide +kernel
theorem dX8_sinceOf_84 : decode cX8_sinceOf 84 = .ok (.iload 4, 2) := by decide +kernel
theorem dX8_sinceOf_86 : decode cX8_sinceOf 86 = .ok (.if_icmp .lt 6, 3) := by decide +kernel
theorem dX8_sinceOf_89 : decode cX8_sinceOf 89 = .ok (.goto 10, 3) := by decide +kernel
theorem dX8_sinceOf_92 : decode cX8_sinceOf 92 = .ok (.iload 8, 2) := by decide +kernel
theorem dX8_sinceOf_94 : decode cX8_sinceOf 94 = .ok (.istore 4, 2) := by decide +kernel
theorem dX8_sinceOf_96 : decode cX8_sinceOf 96 = .ok (.iconst 1, 1) := by decide +kernel
theorem dX8_sinceOf_97 : decode cX8_sinceOf 97 = .ok (.istore 6, 2) := by decide +kernel
theorem dX8_sinceOf_99 : decode cX8_sinceOf 99 = .ok (.iinc 7 1, 3) := by decide +kernel
theorem dX8_sinceOf_102 : decode cX8_sinceOf 102 = .ok (.goto (-82), 3) := by decide +kernel
theorem dX8_sinceOf_105 : decode cX8_sinceOf 105 = .ok (.iload 4, 2) := by decide +kernel
theorem dX8_sinceOf_107 : decode cX8_sinceOf 107 = .ok (.iconst 1, 1) := by decide +kernel
theorem dX8_sinceOf_108 : decode cX8_sinceOf 108 = .ok (.isub, 1) := by decide +kernel
theorem dX8_sinceOf_109 : decode cX8_sinceOf 109 = .ok (.istore 5, 2) := by decide +kernel
theorem dX8_sinceOf_111 : decode cX8_sinceOf 111 = .ok (.goto (-102), 3) := by decide +kernel
theorem dX8_sinceOf_114 : decode cX8_sinceOf 114 = .ok (.iload 4, 2) := by decide +kernel
theorem dX8_sinceOf_116 : decode cX8_sinceOf 116 = .ok (.ireturn, 1) := by decide +kernel
theorem dX8_priorityOf_0 : decode cX8_priorityOf 0 = .ok (.aload_n 0, 1) := by decide +kernel
theorem dX8_priorityOf_1 : decode cX8_priorityOf 1 = .ok (.iload_n 1, 1) := by decide +kernel
theorem dX8_priorityOf_2 : decode cX8_priorityOf 2 = .ok (.iload_n 2, 1) := by decide +kernel
theorem dX8_priorityOf_3 : decode cX8_priorityOf 3 = .ok (.iload_n 3, 1) := by decide +kernel
theorem dX8_priorityOf_4 : decode cX8_priorityOf 4 = .ok (.invokevirtual 193, 3) := by decide +kernel
theorem dX8_priorityOf_7 : decode cX8_priorityOf 7 = .ok (.istore 4, 2) := by decide +kernel
theorem dX8_priorityOf_9 : decode cX8_priorityOf 9 = .ok (.aload_n 0, 1) := by decide +kernel
theorem dX8_priorityOf_10 : decode cX8_priorityOf 10 = .ok (.iload_n 1, 1) := by decide +kernel
theorem dX8_priorityOf_11 : decode cX8_priorityOf 11 = .ok (.bipush 12, 2) := by decide +kernel
theorem dX8_priorityOf_13 : decode cX8_priorityOf 13 = .ok (.invokevirtual 101, 3) := by decide +kernel
theorem dX8_priorityOf_16 : decode cX8_priorityOf 16 = .ok (.istore 5, 2) := by decide +kernel
theorem dX8_priorityOf_18 : decode cX8_priorityOf 18 = .ok (.iload 5, 2) := by decide +kernel
theorem dX8_priorityOf_20 : decode cX8_priorityOf 20 = .ok (.iload_n 3, 1) := by decide +kernel
theorem dX8_priorityOf_21 : decode cX8_priorityOf 21 = .ok (.if_icmp .le 6, 3) := by decide +kernel
theorem dX8_priorityOf_24 : decode cX8_priorityOf 24 = .ok (.iload 4, 2) := by decide +kernel
theorem dX8_priorityOf_26 : decode cX8_priorityOf 26 = .ok (.ireturn, 1) := by decide +kernel
theorem dX8_priorityOf_27 : decode cX8_priorityOf 27 = .ok (.iload 4, 2) := by decide +kernel
theorem dX8_priorityOf_29 : decode cX8_priorityOf 29 = .ok (.iconst (-1), 1) := by decide +kernel
theorem dX8_priorityOf_30 : decode cX8_priorityOf 30 = .ok (.if_icmp .ne 8, 3) := by decide +kernel
theorem dX8_priorityOf_33 : decode cX8_priorityOf 33 = .ok (.iload 5, 2) := by decide +kernel
theorem dX8_priorityOf_35 : decode cX8_priorityOf 35 = .ok (.goto 10, 3) := by decide +kernel
theorem dX8_priorityOf_38 : decode cX8_priorityOf 38 = .ok (.iload 4, 2) := by decide +kernel
theorem dX8_priorityOf_40 : decode cX8_priorityOf 40 = .ok (.iload 5, 2) := by decide +kernel
theorem dX8_priorityOf_42 : decode cX8_priorityOf 42 = .ok (.invokestatic 133, 3) := by decide +kernel
theorem dX8_priorityOf_45 : decode cX8_priorityOf 45 = .ok (.ireturn, 1) := by decide +kernel
theorem dX8_isSenior_0 : decode cX8_isSenior 0 = .ok (.aload_n 0, 1) := by decide +kernel
theorem dX8_isSenior_1 : decode cX8_isSenior 1 = .ok (.getfield 61, 3) := by decide +kernel
theorem dX8_isSenior_4 : decode cX8_isSenior 4 = .ok (.iload_n 1, 1) := by decide +kernel
theorem dX8_isSenior_5 : decode cX8_isSenior 5 = .ok (.iaload, 1) := by decide +kernel
theorem dX8_isSenior_6 : decode cX8_isSenior 6 = .ok (.aload_n 0, 1) := by decide +kernel
theorem dX8_isSenior_7 : decode cX8_isSenior 7 = .ok (.getfield 61, 3) := by decide +kernel
theorem dX8_isSenior_10 : decode cX8_isSenior 10 = .ok (.iload_n 2, 1) := by decide +kernel
theorem dX8_isSenior_11 : decode cX8_isSenior 11 = .ok (.iaload, 1) := by decide +kernel
theorem dX8_isSenior_12 : decode cX8_isSenior 12 = .ok (.if_icmp .lt 23, 3) := by decide +kernel
theorem dX8_isSenior_15 : decode cX8_isSenior 15 = .ok (.aload_n 0, 1) := by decide +kernel
theorem dX8_isSenior_16 : decode cX8_isSenior 16 = .ok (.getfield 61, 3) := by decide +kernel
theorem dX8_isSenior_19 : decode cX8_isSenior 19 = .ok (.iload_n 1, 1) := by decide +kernel
theorem dX8_isSenior_20 : decode cX8_isSenior 20 = .ok (.iaload, 1) := by decide +kernel
theorem dX8_isSenior_21 : decode cX8_isSenior 21 = .ok (.aload_n 0, 1) := by decide +kernel
theorem dX8_isSenior_22 : decode cX8_isSenior 22 = .ok (.getfield 61, 3) := by decide +kernel
theorem dX8_isSenior_25 : decode cX8_isSenior 25 = .ok (.iload_n 2, 1) := by decide +kernel
theorem dX8_isSenior_26 : decode cX8_isSenior 26 = .ok (.iaload, 1) := by decide +kernel
theorem dX8_isSenior_27 : decode cX8_isSenior 27 = .ok (.if_icmp .ne 12, 3) := by decide +kernel
theorem dX8_isSenior_30 : decode cX8_isSenior 30 = .ok (.iload_n 1, 1) := by decide +kernel
theorem dX8_isSenior_31 : decode cX8_isSenior 31 = .ok (.iload_n 2, 1) := by decide +kernel
theorem dX8_isSenior_32 : decode cX8_isSenior 32 = .ok (.if_icmp .ge 7, 3) := by decide +kernel
theorem dX8_isSenior_35 : decode cX8_isSenior 35 = .ok (.iconst 1, 1) := by decide +kernel
theorem dX8_isSenior_36 : decode cX8_isSenior 36 = .ok (.goto 4, 3) := by decide +kernel
theorem dX8_isSenior_39 : decode cX8_isSenior 39 = .ok (.iconst 0, 1) := by decide +kernel
theorem dX8_isSenior_40 : decode cX8_isSenior 40 = .ok (.ireturn, 1) := by decide +kernel
theorem dX8_layRanks_0 : decode cX8_layRanks 0 = .ok (.aload_n 0, 1) := by decide +kernel
theorem dX8_layRanks_1 : decode cX8_layRanks 1 = .ok (.iconst 0, 1) := by decide +kernel
theorem dX8_layRanks_2 : decode cX8_layRanks 2 = .ok (.putfield 197, 3) := by decide +kernel
theorem dX8_layRanks_5 : decode cX8_layRanks 5 = .ok (.iconst 0, 1) := by decide +kernel
theorem dX8_layRanks_6 : decode cX8_layRanks 6 = .ok (.istore_n 3, 1) := by decide +kernel
theorem dX8_layRanks_7 : decode cX8_layRanks 7 = .ok (.iload_n 3, 1) := by decide +kernel
theorem dX8_layRanks_8 : decode cX8_layRanks 8 = .ok (.aload_n 0, 1) := by decide +kernel
theorem dX8_layRanks_9 : decode cX8_layRanks 9 = .ok (.invokevirtual 90, 3) := by decide +kernel
theorem dX8_layRanks_12 : decode cX8_layRanks 12 = .ok (.if_icmp .ge 110, 3) := by decide +kernel
theorem dX8_layRanks_15 : decode cX8_layRanks 15 = .ok (.aload_n 0, 1) := by decide +kernel
theorem dX8_layRanks_16 : decode cX8_layRanks 16 = .ok (.getfield 61, 3) := by decide +kernel
theorem dX8_layRanks_19 : decode cX8_layRanks 19 = .ok (.iload_n 3, 1) := by decide +kernel
theorem dX8_layRanks_20 : decode cX8_layRanks 20 = .ok (.aload_n 0, 1) := by decide +kernel
theorem dX8_layRanks_21 : decode cX8_layRanks 21 = .ok (.iload_n 3, 1) := by decide +kernel
theorem dX8_layRanks_22 : decode cX8_layRanks 22 = .ok (.iload_n 1, 1) := by decide +kernel
theorem dX8_layRanks_23 : decode cX8_layRanks 23 = .ok (.iload_n 2, 1) := by decide +kernel
theorem dX8_layRanks_24 : decode cX8_layRanks 24 = .ok (.invokevirtual 200, 3) := by decide +kernel
theorem dX8_layRanks_27 : decode cX8_layRanks 27 = .ok (.iastore, 1) := by decide +kernel
theorem dX8_layRanks_28 : decode cX8_layRanks 28 = .ok (.aload_n 0, 1) := by decide +kernel
theorem dX8_layRanks_29 : decode cX8_layRanks 29 = .ok (.getfield 67, 3) := by decide +kernel
theorem dX8_layRanks_32 : decode cX8_layRanks 32 = .ok (.iload_n 3, 1) := by decide +kernel
theorem dX8_layRanks_33 : decode cX8_layRanks 33 = .ok (.iconst (-1), 1) := by decide +kernel
theorem dX8_layRanks_34 : decode cX8_layRanks 34 = .ok (.iastore, 1) := by decide +kernel
theorem dX8_layRanks_35 : decode cX8_layRanks 35 = .ok (.aload_n 0, 1) := by decide +kernel
theorem dX8_layRanks_36 : decode cX8_layRanks 36 = .ok (.getfield 61, 3) := by decide +kernel
theorem dX8_layRanks_39 : decode cX8_layRanks 39 = .ok (.iload_n 3, 1) := by decide +kernel
theorem dX8_layRanks_40 : decode cX8_layRanks 40 = .ok (.iaload, 1) := by decide +kernel
theorem dX8_layRanks_41 : decode cX8_layRanks 41 = .ok (.iconst (-1), 1) := by decide +kernel
theorem dX8_layRanks_42 : decode cX8_layRanks 42 = .ok (.if_icmp .ne 6, 3) := by decide +kernel
theorem dX8_layRanks_45 : decode cX8_layRanks 45 = .ok (.goto 71, 3) := by decide +kernel
theorem dX8_layRanks_48 : decode cX8_layRanks 48 = .ok (.aload_n 0, 1) := by decide +kernel
theorem dX8_layRanks_49 : decode cX8_layRanks 49 = .ok (.getfield 197, 3) := by decide +kernel
theorem dX8_layRanks_52 : decode cX8_layRanks 52 = .ok (.istore 4, 2) := by decide +kernel
theorem dX8_layRanks_54 : decode cX8_layRanks 54 = .ok (.iload 4, 2) := by decide +kernel
theorem dX8_layRanks_56 : decode cX8_layRanks 56 = .ok (.ifCond .le 42, 3) := by decide +kernel
theorem dX8_layRanks_59 : decode cX8_layRanks 59 = .ok (.aload_n 0, 1) := by decide +kernel
theorem dX8_layRanks_60 : decode cX8_layRanks 60 = .ok (.iload_n 3, 1) := by decide +kernel
theorem dX8_layRanks_61 : decode cX8_layRanks 61 = .ok (.aload_n 0, 1) := by decide +kernel
theorem dX8_layRanks_62 : decode cX8_layRanks 62 = .ok (.getfield 64, 3) := by decide +kernel
theorem dX8_layRanks_65 : decode cX8_layRanks 65 = .ok (.iload 4, 2) := by decide +kernel
theorem dX8_layRanks_67 : decode cX8_layRanks 67 = .ok (.iconst 1, 1) := by decide +kernel
theorem dX8_layRanks_68 : decode cX8_layRanks 68 = .ok (.isub, 1) := by decide +kernel
theorem dX8_layRanks_69 : decode cX8_layRanks 69 = .ok (.iaload, 1) := by decide +kernel
theorem dX8_layRanks_70 : decode cX8_layRanks 70 = .ok (.invokevirtual 203, 3) := by decide +kernel
theorem dX8_layRanks_73 : decode cX8_layRanks 73 = .ok (.ifCond .eq 25, 3) := by decide +kernel
theorem dX8_layRanks_76 : decode cX8_layRanks 76 = .ok (.aload_n 0, 1) := by decide +kernel
theorem dX8_layRanks_77 : decode cX8_layRanks 77 = .ok (.getfield 64, 3) := by decide +kernel
theorem dX8_layRanks_80 : decode cX8_layRanks 80 = .ok (.iload 4, 2) := by decide +kernel
theorem dX8_layRanks_82 : decode cX8_layRanks 82 = .ok (.aload_n 0, 1) := by decide +kernel
theorem dX8_layRanks_83 : decode cX8_layRanks 83 = .ok (.getfield 64, 3) := by decide +kernel
theorem dX8_layRanks_86 : decode cX8_layRanks 86 = .ok (.iload 4, 2) := by decide +kernel
theorem dX8_layRanks_88 : decode cX8_layRanks 88 = .ok (.iconst 1, 1) := by decide +kernel
theorem dX8_layRanks_89 : decode cX8_layRanks 89 = .ok (.isub, 1) := by decide +kernel
theorem dX8_layRanks_90 : decode cX8_layRanks 90 = .ok (.iaload, 1) := by decide +kernel
theorem dX8_layRanks_91 : decode cX8_layRanks 91 = .ok (.iastore, 1) := by decide +kernel
theorem dX8_layRanks_92 : decode cX8_layRanks 92 = .ok (.iinc 4 (-1), 3) := by decide +kernel
theorem dX8_layRanks_95 : decode cX8_layRanks 95 = .ok (.goto (-41), 3) := by decide +kernel
theorem dX8_layRanks_98 : decode cX8_layRanks 98 = .ok (.aload_n 0, 1) := by decide +kernel
theorem dX8_layRanks_99 : decode cX8_layRanks 99 = .ok (.getfield 64, 3) := by decide +kernel
theorem dX8_layRanks_102 : decode cX8_layRanks 102 = .ok (.iload 4, 2) := by decide +kernel
theorem dX8_layRanks_104 : decode cX8_layRanks 104 = .ok (.iload_n 3, 1) := by decide +kernel
theorem dX8_layRanks_105 : decode cX8_layRanks 105 = .ok (.iastore, 1) := by decide +kernel
theorem dX8_layRanks_106 : decode cX8_layRanks 106 = .ok (.aload_n 0, 1) := by decide +kernel
theorem dX8_layRanks_107 : decode cX8_layRanks 107 = .ok (.dup, 1) := by decide +kernel
theorem dX8_layRanks_108 : decode cX8_layRanks 108 = .ok (.getfield 197, 3) := by decide +kernel
theorem dX8_layRanks_111 : decode cX8_layRanks 111 = .ok (.iconst 1, 1) := by decide +kernel
theorem dX8_layRanks_112 : decode cX8_layRanks 112 = .ok (.iadd, 1) := by decide +kernel
theorem dX8_layRanks_113 : decode cX8_layRanks 113 = .ok (.putfield 197, 3) := by decide +kernel
theorem dX8_layRanks_116 : decode cX8_layRanks 116 = .ok (.iinc 3 1, 3) := by decide +kernel
theorem dX8_layRanks_119 : decode cX8_layRanks 119 = .ok (.goto (-112), 3) := by decide +kernel
theorem dX8_layRanks_122 : decode cX8_layRanks 122 = .ok (.return_, 1) := by decide +kernel
theorem dX8_layHalf_0 : decode cX8_layHalf 0 = .ok (.aload_n 0, 1) := by decide +kernel
theorem dX8_layHalf_1 : decode cX8_layHalf 1 = .ok (.invokevirtual 206, 3) := by decide +kernel
theorem dX8_layHalf_4 : decode cX8_layHalf 4 = .ok (.aload_n 0, 1) := by decide +kernel
theorem dX8_layHalf_5 : decode cX8_layHalf 5 = .ok (.iload_n 1, 1) := by decide +kernel
theorem dX8_layHalf_6 : decode cX8_layHalf 6 = .ok (.iload_n 2, 1) := by decide +kernel
theorem dX8_layHalf_7 : decode cX8_layHalf 7 = .ok (.invokevirtual 209, 3) := by decide +kernel
theorem dX8_layHalf_10 : decode cX8_layHalf 10 = .ok (.aload_n 0, 1) := by decide +kernel
theorem dX8_layHalf_11 : decode cX8_layHalf 11 = .ok (.iconst 0, 1) := by decide +kernel
theorem dX8_layHalf_12 : decode cX8_layHalf 12 = .ok (.putfield 212, 3) := by decide +kernel
theorem dX8_layHalf_15 : decode cX8_layHalf 15 = .ok (.aload_n 0, 1) := by decide +kernel
theorem dX8_layHalf_16 : decode cX8_layHalf 16 = .ok (.iconst 0, 1) := by decide +kernel
theorem dX8_layHalf_17 : decode cX8_layHalf 17 = .ok (.putfield 215, 3) := by decide +kernel
theorem dX8_layHalf_20 : decode cX8_layHalf 20 = .ok (.iconst 0, 1) := by decide +kernel
theorem dX8_layHalf_21 : decode cX8_layHalf 21 = .ok (.istore_n 3, 1) := by decide +kernel
theorem dX8_layHalf_22 : decode cX8_layHalf 22 = .ok (.iload_n 3, 1) := by decide +kernel
theorem dX8_layHalf_23 : decode cX8_layHalf 23 = .ok (.aload_n 0, 1) := by decide +kernel
theorem dX8_layHalf_24 : decode cX8_layHalf 24 = .ok (.getfield 197, 3) := by decide +kernel
theorem dX8_layHalf_27 : decode cX8_layHalf 27 = .ok (.if_icmp .ge 121, 3) := by decide +kernel
theorem dX8_layHalf_30 : decode cX8_layHalf 30 = .ok (.aload_n 0, 1) := by decide +kernel
theorem dX8_layHalf_31 : decode cX8_layHalf 31 = .ok (.getfield 64, 3) := by decide +kernel
theorem dX8_layHalf_34 : decode cX8_layHalf 34 = .ok (.iload_n 3, 1) := by decide +kernel
theorem dX8_layHalf_35 : decode cX8_layHalf 35 = .ok (.iaload, 1) := by decide +kernel
theorem dX8_layHalf_36 : decode cX8_layHalf 36 = .ok (.istore 4, 2) := by decide +kernel
theorem dX8_layHalf_38 : decode cX8_layHalf 38 = .ok (.aload_n 0, 1) := by decide +kernel
theorem dX8_layHalf_39 : decode cX8_layHalf 39 = .ok (.getfield 212, 3) := by decide +kernel
theorem dX8_layHalf_42 : decode cX8_layHalf 42 = .ok (.aload_n 0, 1) := by decide +kernel
theorem dX8_layHalf_43 : decode cX8_layHalf 43 = .ok (.getfield 55, 3) := by decide +kernel
theorem dX8_layHalf_46 : decode cX8_layHalf 46 = .ok (.iload 4, 2) := by decide +kernel
theorem dX8_layHalf_48 : decode cX8_layHalf 48 = .ok (.iaload, 1) := by decide +kernel
theorem dX8_layHalf_49 : decode cX8_layHalf 49 = .ok (.iand, 1) := by decide +kernel
theorem dX8_layHalf_50 : decode cX8_layHalf 50 = .ok (.aload_n 0, 1) := by decide +kernel
theorem dX8_layHalf_51 : decode cX8_layHalf 51 = .ok (.iload 4, 2) := by decide +kernel
theorem dX8_layHalf_53 : decode cX8_layHalf 53 = .ok (.bipush 50, 2) := by decide +kernel
theorem dX8_layHalf_55 : decode cX8_layHalf 55 = .ok (.invokevirtual 101, 3) := by decide +kernel
theorem dX8_layHalf_58 : decode cX8_layHalf 58 = .ok (.iconst (-1), 1) := by decide +kernel
theorem dX8_layHalf_59 : decode cX8_layHalf 59 = .ok (.ixor, 1) := by decide +kernel
theorem dX8_layHalf_60 : decode cX8_layHalf 60 = .ok (.iand, 1) := by decide +kernel
theorem dX8_layHalf_61 : decode cX8_layHalf 61 = .ok (.istore 5, 2) := by decide +kernel
theorem dX8_layHalf_63 : decode cX8_layHalf 63 = .ok (.iload 5, 2) := by decide +kernel
theorem dX8_layHalf_65 : decode cX8_layHalf 65 = .ok (.ifCond .ne 19, 3) := by decide +kernel
theorem dX8_layHalf_68 : decode cX8_layHalf 68 = .ok (.aload_n 0, 1) := by decide +kernel
theorem dX8_layHalf_69 : decode cX8_layHalf 69 = .ok (.dup, 1) := by decide +kernel
theorem dX8_layHalf_70 : decode cX8_layHalf 70 = .ok (.getfield 212, 3) := by decide +kernel
theorem dX8_layHalf_73 : decode cX8_layHalf 73 = .ok (.iconst 1, 1) := by decide +kernel
theorem dX8_layHalf_74 : decode cX8_layHalf 74 = .ok (.iload 4, 2) := by decide +kernel
theorem dX8_layHalf_76 : decode cX8_layHalf 76 = .ok (.ishl, 1) := by decide +kernel
theorem dX8_layHalf_77 : decode cX8_layHalf 77 = .ok (.ior, 1) := by decide +kernel
theorem dX8_layHalf_78 : decode cX8_layHalf 78 = .ok (.putfield 212, 3) := by decide +kernel
theorem dX8_layHalf_81 : decode cX8_layHalf 81 = .ok (.goto 61, 3) := by decide +kernel
theorem dX8_layHalf_84 : decode cX8_layHalf 84 = .ok (.aload_n 0, 1) := by decide +kernel
theorem dX8_layHalf_85 : decode cX8_layHalf 85 = .ok (.dup, 1) := by decide +kernel
theorem dX8_layHalf_86 : decode cX8_layHalf 86 = .ok (.getfield 215, 3) := by decide +kernel
theorem dX8_layHalf_89 : decode cX8_layHalf 89 = .ok (.iconst 1, 1) := by decide +kernel
theorem dX8_layHalf_90 : decode cX8_layHalf 90 = .ok (.iload 4, 2) := by decide +kernel
theorem dX8_layHalf_92 : decode cX8_layHalf 92 = .ok (.ishl, 1) := by decide +kernel
theorem dX8_layHalf_93 : decode cX8_layHalf 93 = .ok (.ior, 1) := by decide +kernel
theorem dX8_layHalf_94 : decode cX8_layHalf 94 = .ok (.putfield 215, 3) := by decide +kernel
theorem dX8_layHalf_97 : decode cX8_layHalf 97 = .ok (.iload_n 3, 1) := by decide +kernel
theorem dX8_layHalf_98 : decode cX8_layHalf 98 = .ok (.iconst 1, 1) := by decide +kernel
theorem dX8_layHalf_99 : decode cX8_layHalf 99 = .ok (.isub, 1) := by decide +kernel
theorem dX8_layHalf_100 : decode cX8_layHalf 100 = .ok (.istore 6, 2) := by decide +kernel
theorem dX8_layHalf_102 : decode cX8_layHalf 102 = .ok (.iload 6, 2) := by decide +kernel
theorem dX8_layHalf_104 : decode cX8_layHalf 104 = .ok (.ifCond .lt 38, 3) := by decide +kernel
theorem dX8_layHalf_107 : decode cX8_layHalf 107 = .ok (.iload 5, 2) := by decide +kernel
theorem dX8_layHalf_109 : decode cX8_layHalf 109 = .ok (.aload_n 0, 1) := by decide +kernel
theorem dX8_layHalf_110 : decode cX8_layHalf 110 = .ok (.getfield 64, 3) := by decide +kernel
theorem dX8_layHalf_113 : decode cX8_layHalf 113 = .ok (.iload 6, 2) := by decide +kernel
theorem dX8_layHalf_115 : decode cX8_layHalf 115 = .ok (.iaload, 1) := by decide +kernel
theorem dX8_layHalf_116 : decode cX8_layHalf 116 = .ok (.invokestatic 151, 3) := by decide +kernel
theorem dX8_layHalf_119 : decode cX8_layHalf 119 = .ok (.ifCond .eq 17, 3) := by decide +kernel
theorem dX8_layHalf_122 : decode cX8_layHalf 122 = .ok (.aload_n 0, 1) := by decide +kernel
theorem dX8_layHalf_123 : decode cX8_layHalf 123 = .ok (.getfield 67, 3) := by decide +kernel
theorem dX8_layHalf_126 : decode cX8_layHalf 126 = .ok (.iload 4, 2) := by decide +kernel
theorem dX8_layHalf_128 : decode cX8_layHalf 128 = .ok (.aload_n 0, 1) := by decide +kernel
theorem dX8_layHalf_129 : decode cX8_layHalf 129 = .ok (.getfield 64, 3) := by decide +kernel
theorem dX8_layHalf_132 : decode cX8_layHalf 132 = .ok (.iload 6, 2) := by decide +kernel
theorem dX8_layHalf_134 : decode cX8_layHalf 134 = .ok (.iaload, 1) := by decide +kernel
theorem dX8_layHalf_135 : decode cX8_layHalf 135 = .ok (.iastore, 1) := by decide +kernel
theorem dX8_layHalf_136 : decode cX8_layHalf 136 = .ok (.iinc 6 (-1), 3) := by decide +kernel
theorem dX8_layHalf_139 : decode cX8_layHalf 139 = .ok (.goto (-37), 3) := by decide +kernel
theorem dX8_layHalf_142 : decode cX8_layHalf 142 = .ok (.iinc 3 1, 3) := by decide +kernel
theorem dX8_layHalf_145 : decode cX8_layHalf 145 = .ok (.goto (-123), 3) := by decide +kernel
theorem dX8_layHalf_148 : decode cX8_layHalf 148 = .ok (.return_, 1) := by decide +kernel
theorem dX8_halvesOf_0 : decode cX8_halvesOf 0 = .ok (.iconst 0, 1) := by decide +kernel
theorem dX8_halvesOf_1 : decode cX8_halvesOf 1 = .ok (.istore 4, 2) := by decide +kernel
theorem dX8_halvesOf_3 : decode cX8_halvesOf 3 = .ok (.iconst 0, 1) := by decide +kernel
theorem dX8_halvesOf_4 : decode cX8_halvesOf 4 = .ok (.istore 5, 2) := by decide +kernel
theorem dX8_halvesOf_6 : decode cX8_halvesOf 6 = .ok (.iload 5, 2) := by decide +kernel
theorem dX8_halvesOf_8 : decode cX8_halvesOf 8 = .ok (.aload_n 0, 1) := by decide +kernel
theorem dX8_halvesOf_9 : decode cX8_halvesOf 9 = .ok (.invokevirtual 98, 3) := by decide +kernel
theorem dX8_halvesOf_12 : decode cX8_halvesOf 12 = .ok (.if_icmp .ge 74, 3) := by decide +kernel
theorem dX8_halvesOf_15 : decode cX8_halvesOf 15 = .ok (.aload_n 0, 1) := by decide +kernel
theorem dX8_halvesOf_16 : decode cX8_halvesOf 16 = .ok (.iload 5, 2) := by decide +kernel
theorem dX8_halvesOf_18 : decode cX8_halvesOf 18 = .ok (.iload_n 2, 1) := by decide +kernel
theorem dX8_halvesOf_19 : decode cX8_halvesOf 19 = .ok (.invokevirtual 218, 3) := by decide +kernel
theorem dX8_halvesOf_22 : decode cX8_halvesOf 22 = .ok (.iload_n 3, 1) := by decide +kernel
theorem dX8_halvesOf_23 : decode cX8_halvesOf 23 = .ok (.ifCond .ne 21, 3) := by decide +kernel
theorem dX8_halvesOf_26 : decode cX8_halvesOf 26 = .ok (.aload_n 0, 1) := by decide +kernel
theorem dX8_halvesOf_27 : decode cX8_halvesOf 27 = .ok (.getfield 61, 3) := by decide +kernel
theorem dX8_halvesOf_30 : decode cX8_halvesOf 30 = .ok (.iload_n 1, 1) := by decide +kernel
theorem dX8_halvesOf_31 : decode cX8_halvesOf 31 = .ok (.iaload, 1) := by decide +kernel
theorem dX8_halvesOf_32 : decode cX8_halvesOf 32 = .ok (.iconst (-1), 1) := by decide +kernel
theorem dX8_halvesOf_33 : decode cX8_halvesOf 33 = .ok (.if_icmp .eq 7, 3) := by decide +kernel
theorem dX8_halvesOf_36 : decode cX8_halvesOf 36 = .ok (.iconst 1, 1) := by decide +kernel
theorem dX8_halvesOf_37 : decode cX8_halvesOf 37 = .ok (.goto 27, 3) := by decide +kernel
theorem dX8_halvesOf_40 : decode cX8_halvesOf 40 = .ok (.iconst 0, 1) := by decide +kernel
theorem dX8_halvesOf_41 : decode cX8_halvesOf 41 = .ok (.goto 23, 3) := by decide +kernel
theorem dX8_halvesOf_44 : decode cX8_halvesOf 44 = .ok (.iload_n 3, 1) := by decide +kernel
theorem dX8_halvesOf_45 : decode cX8_halvesOf 45 = .ok (.iconst 1, 1) := by decide +kernel
theorem dX8_halvesOf_46 : decode cX8_halvesOf 46 = .ok (.if_icmp .ne 10, 3) := by decide +kernel
theorem dX8_halvesOf_49 : decode cX8_halvesOf 49 = .ok (.aload_n 0, 1) := by decide +kernel
theorem dX8_halvesOf_50 : decode cX8_halvesOf 50 = .ok (.getfield 212, 3) := by decide +kernel
theorem dX8_halvesOf_53 : decode cX8_halvesOf 53 = .ok (.goto 7, 3) := by decide +kernel
theorem dX8_halvesOf_56 : decode cX8_halvesOf 56 = .ok (.aload_n 0, 1) := by decide +kernel
theorem dX8_halvesOf_57 : decode cX8_halvesOf 57 = .ok (.getfield 215, 3) := by decide +kernel
theorem dX8_halvesOf_60 : decode cX8_halvesOf 60 = .ok (.iload_n 1, 1) := by decide +kernel
theorem dX8_halvesOf_61 : decode cX8_halvesOf 61 = .ok (.invokestatic 151, 3) := by decide +kernel
theorem dX8_halvesOf_64 : decode cX8_halvesOf 64 = .ok (.istore 6, 2) := by decide +kernel
theorem dX8_halvesOf_66 : decode cX8_halvesOf 66 = .ok (.iload 6, 2) := by decide +kernel
theorem dX8_halvesOf_68 : decode cX8_halvesOf 68 = .ok (.ifCond .eq 12, 3) := by decide +kernel
theorem dX8_halvesOf_71 : decode cX8_halvesOf 71 = .ok (.iload 4, 2) := by decide +kernel
theorem dX8_halvesOf_73 : decode cX8_halvesOf 73 = .ok (.iconst 1, 1) := by decide +kernel
theorem dX8_halvesOf_74 : decode cX8_halvesOf 74 = .ok (.iload 5, 2) := by decide +kernel
theorem dX8_halvesOf_76 : decode cX8_halvesOf 76 = .ok (.ishl, 1) := by decide +kernel
theorem dX8_halvesOf_77 : decode cX8_halvesOf 77 = .ok (.ior, 1) := by decide +kernel
theorem dX8_halvesOf_78 : decode cX8_halvesOf 78 = .ok (.istore 4, 2) := by decide +kernel
theorem dX8_halvesOf_80 : decode cX8_halvesOf 80 = .ok (.iinc 5 1, 3) := by decide +kernel
theorem dX8_halvesOf_83 : decode cX8_halvesOf 83 = .ok (.goto (-77), 3) := by decide +kernel
theorem dX8_halvesOf_86 : decode cX8_halvesOf 86 = .ok (.iload 4, 2) := by decide +kernel
theorem dX8_halvesOf_88 : decode cX8_halvesOf 88 = .ok (.ireturn, 1) := by decide +kernel
theorem dX8_allHalves_0 : decode cX8_allHalves 0 = .ok (.iconst 1, 1) := by decide +kernel
theorem dX8_allHalves_1 : decode cX8_allHalves 1 = .ok (.aload_n 0, 1) := by decide +kernel
theorem dX8_allHalves_2 : decode cX8_allHalves 2 = .ok (.invokevirtual 98, 3) := by decide +kernel
theorem dX8_allHalves_5 : decode cX8_allHalves 5 = .ok (.ishl, 1) := by decide +kernel
theorem dX8_allHalves_6 : decode cX8_allHalves 6 = .ok (.iconst 1, 1) := by decide +kernel
theorem dX8_allHalves_7 : decode cX8_allHalves 7 = .ok (.isub, 1) := by decide +kernel
theorem dX8_allHalves_8 : decode cX8_allHalves 8 = .ok (.ireturn, 1) := by decide +kernel
theorem dX8_couplesOf_0 : decode cX8_couplesOf 0 = .ok (.iconst 0, 1) := by decide +kernel
theorem dX8_couplesOf_1 : decode cX8_couplesOf 1 = .ok (.istore_n 2, 1) := by decide +kernel
theorem dX8_couplesOf_2 : decode cX8_couplesOf 2 = .ok (.iconst 0, 1) := by decide +kernel
theorem dX8_couplesOf_3 : decode cX8_couplesOf 3 = .ok (.istore_n 3, 1) := by decide +kernel
theorem dX8_couplesOf_4 : decode cX8_couplesOf 4 = .ok (.iload_n 3, 1) := by decide +kernel
theorem dX8_couplesOf_5 : decode cX8_couplesOf 5 = .ok (.aload_n 0, 1) := by decide +kernel
theorem dX8_couplesOf_6 : decode cX8_couplesOf 6 = .ok (.invokevirtual 90, 3) := by decide +kernel
theorem dX8_couplesOf_9 : decode cX8_couplesOf 9 = .ok (.if_icmp .ge 35, 3) := by decide +kernel
theorem dX8_couplesOf_12 : decode cX8_couplesOf 12 = .ok (.iload_n 2, 1) := by decide +kernel
theorem dX8_couplesOf_13 : decode cX8_couplesOf 13 = .ok (.iload_n 1, 1) := by decide +kernel
theorem dX8_couplesOf_14 : decode cX8_couplesOf 14 = .ok (.ifCond .ne 13, 3) := by decide +kernel
theorem dX8_couplesOf_17 : decode cX8_couplesOf 17 = .ok (.aload_n 0, 1) := by decide +kernel
theorem dX8_couplesOf_18 : decode cX8_couplesOf 18 = .ok (.iload_n 3, 1) := by decide +kernel
theorem dX8_couplesOf_19 : decode cX8_couplesOf 19 = .ok (.bipush 50, 2) := by decide +kernel
theorem dX8_couplesOf_21 : decode cX8_couplesOf 21 = .ok (.invokevirtual 101, 3) := by decide +kernel
theorem dX8_couplesOf_24 : decode cX8_couplesOf 24 = .ok (.goto 9, 3) := by decide +kernel
theorem dX8_couplesOf_27 : decode cX8_couplesOf 27 = .ok (.aload_n 0, 1) := by decide +kernel
theorem dX8_couplesOf_28 : decode cX8_couplesOf 28 = .ok (.getfield 55, 3) := by decide +kernel
theorem dX8_couplesOf_31 : decode cX8_couplesOf 31 = .ok (.iload_n 3, 1) := by decide +kernel
theorem dX8_couplesOf_32 : decode cX8_couplesOf 32 = .ok (.iaload, 1) := by decide +kernel
theorem dX8_couplesOf_33 : decode cX8_couplesOf 33 = .ok (.invokestatic 221, 3) := by decide +kernel
theorem dX8_couplesOf_36 : decode cX8_couplesOf 36 = .ok (.iadd, 1) := by decide +kernel
theorem dX8_couplesOf_37 : decode cX8_couplesOf 37 = .ok (.istore_n 2, 1) := by decide +kernel
theorem dX8_couplesOf_38 : decode cX8_couplesOf 38 = .ok (.iinc 3 1, 3) := by decide +kernel
theorem dX8_couplesOf_41 : decode cX8_couplesOf 41 = .ok (.goto (-37), 3) := by decide +kernel
theorem dX8_couplesOf_44 : decode cX8_couplesOf 44 = .ok (.iload_n 2, 1) := by decide +kernel
theorem dX8_couplesOf_45 : decode cX8_couplesOf 45 = .ok (.iconst 2, 1) := by decide +kernel
theorem dX8_couplesOf_46 : decode cX8_couplesOf 46 = .ok (.idiv, 1) := by decide +kernel
theorem dX8_couplesOf_47 : decode cX8_couplesOf 47 = .ok (.ireturn, 1) := by decide +kernel
theorem dX8_neighbours_0 : decode cX8_neighbours 0 = .ok (.iconst 0, 1) := by decide +kernel
theorem dX8_neighbours_1 : decode cX8_neighbours 1 = .ok (.istore_n 1, 1) := by decide +kernel
theorem dX8_neighbours_2 : decode cX8_neighbours 2 = .ok (.iconst 0, 1) := by decide +kernel
theorem dX8_neighbours_3 : decode cX8_neighbours 3 = .ok (.istore_n 2, 1) := by decide +kernel
theorem dX8_neighbours_4 : decode cX8_neighbours 4 = .ok (.iload_n 2, 1) := by decide +kernel
theorem dX8_neighbours_5 : decode cX8_neighbours 5 = .ok (.bipush 10, 2) := by decide +kernel
theorem dX8_neighbours_7 : decode cX8_neighbours 7 = .ok (.if_icmp .ge 24, 3) := by decide +kernel
theorem dX8_neighbours_10 : decode cX8_neighbours 10 = .ok (.iload_n 1, 1) := by decide +kernel
theorem dX8_neighbours_11 : decode cX8_neighbours 11 = .ok (.aload_n 0, 1) := by decide +kernel
theorem dX8_neighbours_12 : decode cX8_neighbours 12 = .ok (.getfield 9, 3) := by decide +kernel
theorem dX8_neighbours_15 : decode cX8_neighbours 15 = .ok (.bipush 8, 2) := by decide +kernel
theorem dX8_neighbours_17 : decode cX8_neighbours 17 = .ok (.iload_n 2, 1) := by decide +kernel
theorem dX8_neighbours_18 : decode cX8_neighbours 18 = .ok (.iadd, 1) := by decide +kernel
theorem dX8_neighbours_19 : decode cX8_neighbours 19 = .ok (.iaload, 1) := by decide +kernel
theorem dX8_neighbours_20 : decode cX8_neighbours 20 = .ok (.invokestatic 221, 3) := by decide +kernel
theorem dX8_neighbours_23 : decode cX8_neighbours 23 = .ok (.iadd, 1) := by decide +kernel
theorem dX8_neighbours_24 : decode cX8_neighbours 24 = .ok (.istore_n 1, 1) := by decide +kernel
theorem dX8_neighbours_25 : decode cX8_neighbours 25 = .ok (.iinc 2 1, 3) := by decide +kernel
theorem dX8_neighbours_28 : decode cX8_neighbours 28 = .ok (.goto (-24), 3) := by decide +kernel
theorem dX8_neighbours_31 : decode cX8_neighbours 31 = .ok (.iload_n 1, 1) := by decide +kernel
theorem dX8_neighbours_32 : decode cX8_neighbours 32 = .ok (.iconst 2, 1) := by decide +kernel
theorem dX8_neighbours_33 : decode cX8_neighbours 33 = .ok (.idiv, 1) := by decide +kernel
theorem dX8_neighbours_34 : decode cX8_neighbours 34 = .ok (.ireturn, 1) := by decide +kernel
theorem dX8_count_0 : decode cX8_count 0 = .ok (.aload_n 0, 1) := by decide +kernel
theorem dX8_count_1 : decode cX8_count 1 = .ok (.iconst 0, 1) := by decide +kernel
theorem dX8_count_2 : decode cX8_count 2 = .ok (.putfield 87, 3) := by decide +kernel
theorem dX8_count_5 : decode cX8_count 5 = .ok (.aload_n 0, 1) := by decide +kernel
theorem dX8_count_6 : decode cX8_count 6 = .ok (.invokevirtual 206, 3) := by decide +kernel
theorem dX8_count_9 : decode cX8_count 9 = .ok (.iload_n 1, 1) := by decide +kernel
theorem dX8_count_10 : decode cX8_count 10 = .ok (.tableswitch 122 0 13 #[70, 77, 82, 87, 92, 98, 98, 98, 98, 98, 98, 106, 111, 116], 70) := by decide +kernel
theorem dX8_count_80 : decode cX8_count 80 = .ok (.aload_n 0, 1) := by decide +kernel
theorem dX8_count_81 : decode cX8_count 81 = .ok (.getfield 9, 3) := by decide +kernel
theorem dX8_count_84 : decode cX8_count 84 = .ok (.iconst 0, 1) := by decide +kernel
theorem dX8_count_85 : decode cX8_count 85 = .ok (.iaload, 1) := by decide +kernel
theorem dX8_count_86 : decode cX8_count 86 = .ok (.ireturn, 1) := by decide +kernel
theorem dX8_count_87 : decode cX8_count 87 = .ok (.aload_n 0, 1) := by decide +kernel
theorem dX8_count_88 : decode cX8_count 88 = .ok (.invokevirtual 98, 3) := by decide +kernel
theorem dX8_count_91 : decode cX8_count 91 = .ok (.ireturn, 1) := by decide +kernel
theorem dX8_count_92 : decode cX8_count 92 = .ok (.aload_n 0, 1) := by decide +kernel
theorem dX8_count_93 : decode cX8_count 93 = .ok (.invokevirtual 90, 3) := by decide +kernel
theorem dX8_count_96 : decode cX8_count 96 = .ok (.ireturn, 1) := by decide +kernel
theorem dX8_count_97 : decode cX8_count 97 = .ok (.aload_n 0, 1) := by decide +kernel
theorem dX8_count_98 : decode cX8_count 98 = .ok (.invokevirtual 224, 3) := by decide +kernel
theorem dX8_count_101 : decode cX8_count 101 = .ok (.ireturn, 1) := by decide +kernel
theorem dX8_count_102 : decode cX8_count 102 = .ok (.aload_n 0, 1) := by decide +kernel
theorem dX8_count_103 : decode cX8_count 103 = .ok (.iconst 0, 1) := by decide +kernel
theorem dX8_count_104 : decode cX8_count 104 = .ok (.invokevirtual 227, 3) := by decide +kernel
theorem dX8_count_107 : decode cX8_count 107 = .ok (.ireturn, 1) := by decide +kernel
theorem dX8_count_108 : decode cX8_count 108 = .ok (.aload_n 0, 1) := by decide +kernel
theorem dX8_count_109 : decode cX8_count 109 = .ok (.iload_n 1, 1) := by decide +kernel
theorem dX8_count_110 : decode cX8_count 110 = .ok (.iconst 5, 1) := by decide +kernel
theorem dX8_count_111 : decode cX8_count 111 = .ok (.isub, 1) := by decide +kernel
theorem dX8_count_112 : decode cX8_count 112 = .ok (.invokevirtual 158, 3) := by decide +kernel
theorem dX8_count_115 : decode cX8_count 115 = .ok (.ireturn, 1) := by decide +kernel
theorem dX8_count_116 : decode cX8_count 116 = .ok (.aload_n 0, 1) := by decide +kernel
theorem dX8_count_117 : decode cX8_count 117 = .ok (.getfield 230, 3) := by decide +kernel
theorem dX8_count_120 : decode cX8_count 120 = .ok (.ireturn, 1) := by decide +kernel
theorem dX8_count_121 : decode cX8_count 121 = .ok (.aload_n 0, 1) := by decide +kernel
theorem dX8_count_122 : decode cX8_count 122 = .ok (.getfield 233, 3) := by decide +kernel
theorem dX8_count_125 : decode cX8_count 125 = .ok (.ireturn, 1) := by decide +kernel
theorem dX8_count_126 : decode cX8_count 126 = .ok (.aload_n 0, 1) := by decide +kernel
theorem dX8_count_127 : decode cX8_count 127 = .ok (.iconst 1, 1) := by decide +kernel
theorem dX8_count_128 : decode cX8_count 128 = .ok (.invokevirtual 227, 3) := by decide +kernel
theorem dX8_count_131 : decode cX8_count 131 = .ok (.ireturn, 1) := by decide +kernel
theorem dX8_count_132 : decode cX8_count 132 = .ok (.aload_n 0, 1) := by decide +kernel
theorem dX8_count_133 : decode cX8_count 133 = .ok (.iconst 1, 1) := by decide +kernel
theorem dX8_count_134 : decode cX8_count 134 = .ok (.invokevirtual 236, 3) := by decide +kernel
theorem dX8_count_137 : decode cX8_count 137 = .ok (.ireturn, 1) := by decide +kernel
theorem dX8_mark_0 : decode cX8_mark 0 = .ok (.aload_n 0, 1) := by decide +kernel
theorem dX8_mark_1 : decode cX8_mark 1 = .ok (.iconst 0, 1) := by decide +kernel
theorem dX8_mark_2 : decode cX8_mark 2 = .ok (.putfield 87, 3) := by decide +kernel
theorem dX8_mark_5 : decode cX8_mark 5 = .ok (.aload_n 0, 1) := by decide +kernel
theorem dX8_mark_6 : decode cX8_mark 6 = .ok (.iload_n 1, 1) := by decide +kernel
theorem dX8_mark_7 : decode cX8_mark 7 = .ok (.invokevirtual 239, 3) := by decide +kernel
theorem dX8_mark_10 : decode cX8_mark 10 = .ok (.ifCond .eq 13, 3) := by decide +kernel
theorem dX8_mark_13 : decode cX8_mark 13 = .ok (.iload_n 2, 1) := by decide +kernel
theorem dX8_mark_14 : decode cX8_mark 14 = .ok (.iconst 0, 1) := by decide +kernel
theorem dX8_mark_15 : decode cX8_mark 15 = .ok (.bipush 6, 2) := by decide +kernel
theorem dX8_mark_17 : decode cX8_mark 17 = .ok (.invokestatic 94, 3) := by decide +kernel
theorem dX8_mark_20 : decode cX8_mark 20 = .ok (.ifCond .ne 9, 3) := by decide +kernel
theorem dX8_mark_23 : decode cX8_mark 23 = .ok (.aload_n 0, 1) := by decide +kernel
theorem dX8_mark_24 : decode cX8_mark 24 = .ok (.iconst 1, 1) := by decide +kernel
theorem dX8_mark_25 : decode cX8_mark 25 = .ok (.invokevirtual 236, 3) := by decide +kernel
theorem dX8_mark_28 : decode cX8_mark 28 = .ok (.ireturn, 1) := by decide +kernel
theorem dX8_mark_29 : decode cX8_mark 29 = .ok (.aload_n 0, 1) := by decide +kernel
theorem dX8_mark_30 : decode cX8_mark 30 = .ok (.invokevirtual 206, 3) := by decide +kernel
theorem dX8_mark_33 : decode cX8_mark 33 = .ok (.iload_n 2, 1) := by decide +kernel
theorem dX8_mark_34 : decode cX8_mark 34 = .ok (.tableswitch 83 0 5 #[38, 46, 54, 62, 69, 76], 38) := by decide +kernel
theorem dX8_mark_72 : decode cX8_mark 72 = .ok (.aload_n 0, 1) := by decide +kernel
theorem dX8_mark_73 : decode cX8_mark 73 = .ok (.iload_n 1, 1) := by decide +kernel
theorem dX8_mark_74 : decode cX8_mark 74 = .ok (.bipush 12, 2) := by decide +kernel
theorem dX8_mark_76 : decode cX8_mark 76 = .ok (.invokevirtual 101, 3) := by decide +kernel
theorem dX8_mark_79 : decode cX8_mark 79 = .ok (.ireturn, 1) := by decide +kernel
theorem dX8_mark_80 : decode cX8_mark 80 = .ok (.aload_n 0, 1) := by decide +kernel
theorem dX8_mark_81 : decode cX8_mark 81 = .ok (.iload_n 1, 1) := by decide +kernel
theorem dX8_mark_82 : decode cX8_mark 82 = .ok (.bipush 11, 2) := by decide +kernel
theorem dX8_mark_84 : decode cX8_mark 84 = .ok (.invokevirtual 101, 3) := by decide +kernel
theorem dX8_mark_87 : decode cX8_mark 87 = .ok (.ireturn, 1) := by decide +kernel
theorem dX8_mark_88 : decode cX8_mark 88 = .ok (.aload_n 0, 1) := by decide +kernel
theorem dX8_mark_89 : decode cX8_mark 89 = .ok (.iload_n 1, 1) := by decide +kernel
theorem dX8_mark_90 : decode cX8_mark 90 = .ok (.bipush 13, 2) := by decide +kernel
theorem dX8_mark_92 : decode cX8_mark 92 = .ok (.invokevirtual 101, 3) := by decide +kernel
theorem dX8_mark_95 : decode cX8_mark 95 = .ok (.ireturn, 1) := by decide +kernel
theorem dX8_mark_96 : decode cX8_mark 96 = .ok (.aload_n 0, 1) := by decide +kernel
theorem dX8_mark_97 : decode cX8_mark 97 = .ok (.iload_n 1, 1) := by decide +kernel
theorem dX8_mark_98 : decode cX8_mark 98 = .ok (.iconst 0, 1) := by decide +kernel
theorem dX8_mark_99 : decode cX8_mark 99 = .ok (.invokevirtual 101, 3) := by decide +kernel
theorem dX8_mark_102 : decode cX8_mark 102 = .ok (.ireturn, 1) := by decide +kernel
theorem dX8_mark_103 : decode cX8_mark 103 = .ok (.aload_n 0, 1) := by decide +kernel
theorem dX8_mark_104 : decode cX8_mark 104 = .ok (.getfield 25, 3) := by decide +kernel
theorem dX8_mark_107 : decode cX8_mark 107 = .ok (.iload_n 1, 1) := by decide +kernel
theorem dX8_mark_108 : decode cX8_mark 108 = .ok (.iaload, 1) := by decide +kernel
theorem dX8_mark_109 : decode cX8_mark 109 = .ok (.ireturn, 1) := by decide +kernel
theorem dX8_mark_110 : decode cX8_mark 110 = .ok (.aload_n 0, 1) := by decide +kernel
theorem dX8_mark_111 : decode cX8_mark 111 = .ok (.getfield 49, 3) := by decide +kernel
theorem dX8_mark_114 : decode cX8_mark 114 = .ok (.iload_n 1, 1) := by decide +kernel
theorem dX8_mark_115 : decode cX8_mark 115 = .ok (.iaload, 1) := by decide +kernel
theorem dX8_mark_116 : decode cX8_mark 116 = .ok (.ireturn, 1) := by decide +kernel
theorem dX8_mark_117 : decode cX8_mark 117 = .ok (.aload_n 0, 1) := by decide +kernel
theorem dX8_mark_118 : decode cX8_mark 118 = .ok (.getfield 52, 3) := by decide +kernel
theorem dX8_mark_121 : decode cX8_mark 121 = .ok (.iload_n 1, 1) := by decide +kernel
theorem dX8_mark_122 : decode cX8_mark 122 = .ok (.iaload, 1) := by decide +kernel
theorem dX8_mark_123 : decode cX8_mark 123 = .ok (.ireturn, 1) := by decide +kernel
theorem dX8_letter_0 : decode cX8_letter 0 = .ok (.aload_n 0, 1) := by decide +kernel
theorem dX8_letter_1 : decode cX8_letter 1 = .ok (.iconst 0, 1) := by decide +kernel
theorem dX8_letter_2 : decode cX8_letter 2 = .ok (.putfield 87, 3) := by decide +kernel
theorem dX8_letter_5 : decode cX8_letter 5 = .ok (.aload_n 0, 1) := by decide +kernel
theorem dX8_letter_6 : decode cX8_letter 6 = .ok (.iload_n 1, 1) := by decide +kernel
theorem dX8_letter_7 : decode cX8_letter 7 = .ok (.invokevirtual 239, 3) := by decide +kernel
theorem dX8_letter_10 : decode cX8_letter 10 = .ok (.ifCond .eq 7, 3) := by decide +kernel
theorem dX8_letter_13 : decode cX8_letter 13 = .ok (.iload_n 2, 1) := by decide +kernel
theorem dX8_letter_14 : decode cX8_letter 14 = .ok (.ifCond .ge 9, 3) := by decide +kernel
theorem dX8_letter_17 : decode cX8_letter 17 = .ok (.aload_n 0, 1) := by decide +kernel
theorem dX8_letter_18 : decode cX8_letter 18 = .ok (.iconst 1, 1) := by decide +kernel
theorem dX8_letter_19 : decode cX8_letter 19 = .ok (.invokevirtual 236, 3) := by decide +kernel
theorem dX8_letter_22 : decode cX8_letter 22 = .ok (.ireturn, 1) := by decide +kernel
theorem dX8_letter_23 : decode cX8_letter 23 = .ok (.aload_n 0, 1) := by decide +kernel
theorem dX8_letter_24 : decode cX8_letter 24 = .ok (.invokevirtual 206, 3) := by decide +kernel
theorem dX8_letter_27 : decode cX8_letter 27 = .ok (.iload_n 3, 1) := by decide +kernel
theorem dX8_letter_28 : decode cX8_letter 28 = .ok (.ifCond .eq 29, 3) := by decide +kernel
theorem dX8_letter_31 : decode cX8_letter 31 = .ok (.iload_n 2, 1) := by decide +kernel
theorem dX8_letter_32 : decode cX8_letter 32 = .ok (.aload_n 0, 1) := by decide +kernel
theorem dX8_letter_33 : decode cX8_letter 33 = .ok (.getfield 25, 3) := by decide +kernel
theorem dX8_letter_36 : decode cX8_letter 36 = .ok (.iload_n 1, 1) := by decide +kernel
theorem dX8_letter_37 : decode cX8_letter 37 = .ok (.iaload, 1) := by decide +kernel
theorem dX8_letter_38 : decode cX8_letter 38 = .ok (.if_icmp .ge 17, 3) := by decide +kernel
theorem dX8_letter_41 : decode cX8_letter 41 = .ok (.aload_n 0, 1) := by decide +kernel
theorem dX8_letter_42 : decode cX8_letter 42 = .ok (.getfield 22, 3) := by decide +kernel
theorem dX8_letter_45 : decode cX8_letter 45 = .ok (.bipush 20, 2) := by decide +kernel
theorem dX8_letter_47 : decode cX8_letter 47 = .ok (.iload_n 1, 1) := by decide +kernel
theorem dX8_letter_48 : decode cX8_letter 48 = .ok (.imul, 1) := by decide +kernel
theorem dX8_letter_49 : decode cX8_letter 49 = .ok (.iload_n 2, 1) := by decide +kernel
theorem dX8_letter_50 : decode cX8_letter 50 = .ok (.iadd, 1) := by decide +kernel
theorem dX8_letter_51 : decode cX8_letter 51 = .ok (.iaload, 1) := by decide +kernel
theorem dX8_letter_52 : decode cX8_letter 52 = .ok (.goto 4, 3) := by decide +kernel
theorem dX8_letter_55 : decode cX8_letter 55 = .ok (.iconst (-1), 1) := by decide +kernel
theorem dX8_letter_56 : decode cX8_letter 56 = .ok (.ireturn, 1) := by decide +kernel
theorem dX8_letter_57 : decode cX8_letter 57 = .ok (.iload_n 2, 1) := by decide +kernel
theorem dX8_letter_58 : decode cX8_letter 58 = .ok (.aload_n 0, 1) := by decide +kernel
theorem dX8_letter_59 : decode cX8_letter 59 = .ok (.iload_n 1, 1) := by decide +kernel
theorem dX8_letter_60 : decode cX8_letter 60 = .ok (.iconst 0, 1) := by decide +kernel
theorem dX8_letter_61 : decode cX8_letter 61 = .ok (.invokevirtual 101, 3) := by decide +kernel
theorem dX8_letter_64 : decode cX8_letter 64 = .ok (.if_icmp .ge 19, 3) := by decide +kernel
theorem dX8_letter_67 : decode cX8_letter 67 = .ok (.aload_n 0, 1) := by decide +kernel
theorem dX8_letter_68 : decode cX8_letter 68 = .ok (.iload_n 1, 1) := by decide +kernel
theorem dX8_letter_69 : decode cX8_letter 69 = .ok (.iconst 1, 1) := by decide +kernel
theorem dX8_letter_70 : decode cX8_letter 70 = .ok (.iload_n 2, 1) := by decide +kernel
theorem dX8_letter_71 : decode cX8_letter 71 = .ok (.iadd, 1) := by decide +kernel
theorem dX8_letter_72 : decode cX8_letter 72 = .ok (.invokevirtual 101, 3) := by decide +kernel
theorem dX8_letter_75 : decode cX8_letter 75 = .ok (.bipush 97, 2) := by decide +kernel
theorem dX8_letter_77 : decode cX8_letter 77 = .ok (.isub, 1) := by decide +kernel
theorem dX8_letter_78 : decode cX8_letter 78 = .ok (.iconst 1, 1) := by decide +kernel
theorem dX8_letter_79 : decode cX8_letter 79 = .ok (.iadd, 1) := by decide +kernel
theorem dX8_letter_80 : decode cX8_letter 80 = .ok (.goto 4, 3) := by decide +kernel
theorem dX8_letter_83 : decode cX8_letter 83 = .ok (.iconst (-1), 1) := by decide +kernel
theorem dX8_letter_84 : decode cX8_letter 84 = .ok (.ireturn, 1) := by decide +kernel
theorem dX8_used_0 : decode cX8_used 0 = .ok (.aload_n 0, 1) := by decide +kernel
theorem dX8_used_1 : decode cX8_used 1 = .ok (.iconst 0, 1) := by decide +kernel
theorem dX8_used_2 : decode cX8_used 2 = .ok (.putfield 87, 3) := by decide +kernel
theorem dX8_used_5 : decode cX8_used 5 = .ok (.aload_n 0, 1) := by decide +kernel
theorem dX8_used_6 : decode cX8_used 6 = .ok (.iload_n 1, 1) := by decide +kernel
theorem dX8_used_7 : decode cX8_used 7 = .ok (.invokevirtual 239, 3) := by decide +kernel
theorem dX8_used_10 : decode cX8_used 10 = .ok (.ifCond .eq 29, 3) := by decide +kernel
theorem dX8_used_13 : decode cX8_used 13 = .ok (.iload_n 2, 1) := by decide +kernel
theorem dX8_used_14 : decode cX8_used 14 = .ok (.iconst 0, 1) := by decide +kernel
theorem dX8_used_15 : decode cX8_used 15 = .ok (.aload_n 0, 1) := by decide +kernel
theorem dX8_used_16 : decode cX8_used 16 = .ok (.iload_n 1, 1) := by decide +kernel
theorem dX8_used_17 : decode cX8_used 17 = .ok (.bipush 13, 2) := by decide +kernel
theorem dX8_used_19 : decode cX8_used 19 = .ok (.invokevirtual 101, 3) := by decide +kernel
theorem dX8_used_22 : decode cX8_used 22 = .ok (.iconst 1, 1) := by decide +kernel
theorem dX8_used_23 : decode cX8_used 23 = .ok (.isub, 1) := by decide +kernel
theorem dX8_used_24 : decode cX8_used 24 = .ok (.invokestatic 94, 3) := by decide +kernel
theorem dX8_used_27 : decode cX8_used 27 = .ok (.ifCond .eq 12, 3) := by decide +kernel
theorem dX8_used_30 : decode cX8_used 30 = .ok (.iload_n 3, 1) := by decide +kernel
theorem dX8_used_31 : decode cX8_used 31 = .ok (.iconst 0, 1) := by decide +kernel
theorem dX8_used_32 : decode cX8_used 32 = .ok (.iconst 2, 1) := by decide +kernel
theorem dX8_used_33 : decode cX8_used 33 = .ok (.invokestatic 94, 3) := by decide +kernel
theorem dX8_used_36 : decode cX8_used 36 = .ok (.ifCond .ne 9, 3) := by decide +kernel
theorem dX8_used_39 : decode cX8_used 39 = .ok (.aload_n 0, 1) := by decide +kernel
theorem dX8_used_40 : decode cX8_used 40 = .ok (.iconst 1, 1) := by decide +kernel
theorem dX8_used_41 : decode cX8_used 41 = .ok (.invokevirtual 236, 3) := by decide +kernel
theorem dX8_used_44 : decode cX8_used 44 = .ok (.ireturn, 1) := by decide +kernel
theorem dX8_used_45 : decode cX8_used 45 = .ok (.aload_n 0, 1) := by decide +kernel
theorem dX8_used_46 : decode cX8_used 46 = .ok (.iload_n 1, 1) := by decide +kernel
theorem dX8_used_47 : decode cX8_used 47 = .ok (.bipush 14, 2) := by decide +kernel
theorem dX8_used_49 : decode cX8_used 49 = .ok (.iconst 3, 1) := by decide +kernel
theorem dX8_used_50 : decode cX8_used 50 = .ok (.iload_n 2, 1) := by decide +kernel
theorem dX8_used_51 : decode cX8_used 51 = .ok (.imul, 1) := by decide +kernel
theorem dX8_used_52 : decode cX8_used 52 = .ok (.iadd, 1) := by decide +kernel
theorem dX8_used_53 : decode cX8_used 53 = .ok (.iload_n 3, 1) := by decide +kernel
theorem dX8_used_54 : decode cX8_used 54 = .ok (.iadd, 1) := by decide +kernel
theorem dX8_used_55 : decode cX8_used 55 = .ok (.invokevirtual 101, 3) := by decide +kernel
theorem dX8_used_58 : decode cX8_used 58 = .ok (.ireturn, 1) := by decide +kernel
theorem dX8_areTwoMarks_0 : decode cX8_areTwoMarks 0 = .ok (.aload_n 0, 1) := by decide +kernel
theorem dX8_areTwoMarks_1 : decode cX8_areTwoMarks 1 = .ok (.iload_n 1, 1) := by decide +kernel
theorem dX8_areTwoMarks_2 : decode cX8_areTwoMarks 2 = .ok (.invokevirtual 239, 3) := by decide +kernel
theorem dX8_areTwoMarks_5 : decode cX8_areTwoMarks 5 = .ok (.ifCond .eq 20, 3) := by decide +kernel
theorem dX8_areTwoMarks_8 : decode cX8_areTwoMarks 8 = .ok (.aload_n 0, 1) := by decide +kernel
theorem dX8_areTwoMarks_9 : decode cX8_areTwoMarks 9 = .ok (.iload_n 2, 1) := by decide +kernel
theorem dX8_areTwoMarks_10 : decode cX8_areTwoMarks 10 = .ok (.invokevirtual 239, 3) := by decide +kernel
theorem dX8_areTwoMarks_13 : decode cX8_areTwoMarks 13 = .ok (.ifCond .eq 12, 3) := by decide +kernel
theorem dX8_areTwoMarks_16 : decode cX8_areTwoMarks 16 = .ok (.iload_n 1, 1) := by decide +kernel
theorem dX8_areTwoMarks_17 : decode cX8_areTwoMarks 17 = .ok (.iload_n 2, 1) := by decide +kernel
theorem dX8_areTwoMarks_18 : decode cX8_areTwoMarks 18 = .ok (.if_icmp .eq 7, 3) := by decide +kernel
theorem dX8_areTwoMarks_21 : decode cX8_areTwoMarks 21 = .ok (.iconst 1, 1) := by decide +kernel
theorem dX8_areTwoMarks_22 : decode cX8_areTwoMarks 22 = .ok (.goto 4, 3) := by decide +kernel
theorem dX8_areTwoMarks_25 : decode cX8_areTwoMarks 25 = .ok (.iconst 0, 1) := by decide +kernel
theorem dX8_areTwoMarks_26 : decode cX8_areTwoMarks 26 = .ok (.ireturn, 1) := by decide +kernel
theorem dX8_two_0 : decode cX8_two 0 = .ok (.aload_n 0, 1) := by decide +kernel
theorem dX8_two_1 : decode cX8_two 1 = .ok (.iconst 0, 1) := by decide +kernel
theorem dX8_two_2 : decode cX8_two 2 = .ok (.putfield 87, 3) := by decide +kernel
theorem dX8_two_5 : decode cX8_two 5 = .ok (.aload_n 0, 1) := by decide +kernel
theorem dX8_two_6 : decode cX8_two 6 = .ok (.iload_n 1, 1) := by decide +kernel
theorem dX8_two_7 : decode cX8_two 7 = .ok (.iload_n 2, 1) := by decide +kernel
theorem dX8_two_8 : decode cX8_two 8 = .ok (.invokevirtual 243, 3) := by decide +kernel
theorem dX8_two_11 : decode cX8_two 11 = .ok (.ifCond .eq 13, 3) := by decide +kernel
theorem dX8_two_14 : decode cX8_two 14 = .ok (.iload_n 3, 1) := by decide +kernel
theorem dX8_two_15 : decode cX8_two 15 = .ok (.iconst 0, 1) := by decide +kernel
theorem dX8_two_16 : decode cX8_two 16 = .ok (.bipush 6, 2) := by decide +kernel
theorem dX8_two_18 : decode cX8_two 18 = .ok (.invokestatic 94, 3) := by decide +kernel
theorem dX8_two_21 : decode cX8_two 21 = .ok (.ifCond .ne 9, 3) := by decide +kernel
theorem dX8_two_24 : decode cX8_two 24 = .ok (.aload_n 0, 1) := by decide +kernel
theorem dX8_two_25 : decode cX8_two 25 = .ok (.iconst 1, 1) := by decide +kernel
theorem dX8_two_26 : decode cX8_two 26 = .ok (.invokevirtual 236, 3) := by decide +kernel
theorem dX8_two_29 : decode cX8_two 29 = .ok (.ireturn, 1) := by decide +kernel
theorem dX8_two_30 : decode cX8_two 30 = .ok (.aload_n 0, 1) := by decide +kernel
theorem dX8_two_31 : decode cX8_two 31 = .ok (.invokevirtual 206, 3) := by decide +kernel
theorem dX8_two_34 : decode cX8_two 34 = .ok (.bipush 13, 2) := by decide +kernel
theorem dX8_two_36 : decode cX8_two 36 = .ok (.iload_n 1, 1) := by decide +kernel
theorem dX8_two_37 : decode cX8_two 37 = .ok (.imul, 1) := by decide +kernel
theorem dX8_two_38 : decode cX8_two 38 = .ok (.iload_n 2, 1) := by decide +kernel
theorem dX8_two_39 : decode cX8_two 39 = .ok (.iadd, 1) := by decide +kernel
theorem dX8_two_40 : decode cX8_two 40 = .ok (.istore 4, 2) := by decide +kernel
theorem dX8_two_42 : decode cX8_two 42 = .ok (.iload_n 3, 1) := by decide +kernel
theorem dX8_two_43 : decode cX8_two 43 = .ok (.tableswitch 103 0 5 #[37, 45, 53, 61, 69, 84], 37) := by decide +kernel
theorem dX8_two_80 : decode cX8_two 80 = .ok (.aload_n 0, 1) := by decide +kernel
theorem dX8_two_81 : decode cX8_two 81 = .ok (.getfield 37, 3) := by decide +kernel
theorem dX8_two_84 : decode cX8_two 84 = .ok (.iload 4, 2) := by decide +kernel
theorem dX8_two_86 : decode cX8_two 86 = .ok (.iaload, 1) := by decide +kernel
theorem dX8_two_87 : decode cX8_two 87 = .ok (.ireturn, 1) := by decide +kernel
theorem dX8_two_88 : decode cX8_two 88 = .ok (.aload_n 0, 1) := by decide +kernel
theorem dX8_two_89 : decode cX8_two 89 = .ok (.getfield 40, 3) := by decide +kernel
theorem dX8_two_92 : decode cX8_two 92 = .ok (.iload 4, 2) := by decide +kernel
theorem dX8_two_94 : decode cX8_two 94 = .ok (.iaload, 1) := by decide +kernel
theorem dX8_two_95 : decode cX8_two 95 = .ok (.ireturn, 1) := by decide +kernel
theorem dX8_two_96 : decode cX8_two 96 = .ok (.aload_n 0, 1) := by decide +kernel
theorem dX8_two_97 : decode cX8_two 97 = .ok (.getfield 43, 3) := by decide +kernel
theorem dX8_two_100 : decode cX8_two 100 = .ok (.iload 4, 2) := by decide +kernel
theorem dX8_two_102 : decode cX8_two 102 = .ok (.iaload, 1) := by decide +kernel
theorem dX8_two_103 : decode cX8_two 103 = .ok (.ireturn, 1) := by decide +kernel
theorem dX8_two_104 : decode cX8_two 104 = .ok (.aload_n 0, 1) := by decide +kernel
theorem dX8_two_105 : decode cX8_two 105 = .ok (.getfield 46, 3) := by decide +kernel
theorem dX8_two_108 : decode cX8_two 108 = .ok (.iload 4, 2) := by decide +kernel
theorem dX8_two_110 : decode cX8_two 110 = .ok (.iaload, 1) := by decide +kernel
theorem dX8_two_111 : decode cX8_two 111 = .ok (.ireturn, 1) := by decide +kernel
theorem dX8_two_112 : decode cX8_two 112 = .ok (.aload_n 0, 1) := by decide +kernel
theorem dX8_two_113 : decode cX8_two 113 = .ok (.iload_n 1, 1) := by decide +kernel
theorem dX8_two_114 : decode cX8_two 114 = .ok (.iload_n 2, 1) := by decide +kernel
theorem dX8_two_115 : decode cX8_two 115 = .ok (.invokevirtual 170, 3) := by decide +kernel
theorem dX8_two_118 : decode cX8_two 118 = .ok (.ifCond .eq 7, 3) := by decide +kernel
theorem dX8_two_121 : decode cX8_two 121 = .ok (.iconst 1, 1) := by decide +kernel
theorem dX8_two_122 : decode cX8_two 122 = .ok (.goto 4, 3) := by decide +kernel
theorem dX8_two_125 : decode cX8_two 125 = .ok (.iconst 0, 1) := by decide +kernel
theorem dX8_two_126 : decode cX8_two 126 = .ok (.ireturn, 1) := by decide +kernel
theorem dX8_two_127 : decode cX8_two 127 = .ok (.aload_n 0, 1) := by decide +kernel
theorem dX8_two_128 : decode cX8_two 128 = .ok (.getfield 55, 3) := by decide +kernel
theorem dX8_two_131 : decode cX8_two 131 = .ok (.iload_n 1, 1) := by decide +kernel
theorem dX8_two_132 : decode cX8_two 132 = .ok (.iaload, 1) := by decide +kernel
theorem dX8_two_133 : decode cX8_two 133 = .ok (.iload_n 2, 1) := by decide +kernel
theorem dX8_two_134 : decode cX8_two 134 = .ok (.invokestatic 151, 3) := by decide +kernel
theorem dX8_two_137 : decode cX8_two 137 = .ok (.ifCond .eq 7, 3) := by decide +kernel
theorem dX8_two_140 : decode cX8_two 140 = .ok (.iconst 1, 1) := by decide +kernel
theorem dX8_two_141 : decode cX8_two 141 = .ok (.goto 4, 3) := by decide +kernel
theorem dX8_two_144 : decode cX8_two 144 = .ok (.iconst 0, 1) := by decide +kernel
theorem dX8_two_145 : decode cX8_two 145 = .ok (.ireturn, 1) := by decide +kernel
theorem dX8_two_146 : decode cX8_two 146 = .ok (.aload_n 0, 1) := by decide +kernel
theorem dX8_two_147 : decode cX8_two 147 = .ok (.iload_n 1, 1) := by decide +kernel
theorem dX8_two_148 : decode cX8_two 148 = .ok (.bipush 50, 2) := by decide +kernel
theorem dX8_two_150 : decode cX8_two 150 = .ok (.invokevirtual 101, 3) := by decide +kernel
theorem dX8_two_153 : decode cX8_two 153 = .ok (.iload_n 2, 1) := by decide +kernel
theorem dX8_two_154 : decode cX8_two 154 = .ok (.invokestatic 151, 3) := by decide +kernel
theorem dX8_two_157 : decode cX8_two 157 = .ok (.ifCond .eq 7, 3) := by decide +kernel
theorem dX8_two_160 : decode cX8_two 160 = .ok (.iconst 1, 1) := by decide +kernel
theorem dX8_two_161 : decode cX8_two 161 = .ok (.goto 4, 3) := by decide +kernel
theorem dX8_two_164 : decode cX8_two 164 = .ok (.iconst 0, 1) := by decide +kernel
theorem dX8_two_165 : decode cX8_two 165 = .ok (.ireturn, 1) := by decide +kernel
theorem dX8_isClass_0 : decode cX8_isClass 0 = .ok (.iload_n 0, 1) := by decide +kernel
theorem dX8_isClass_1 : decode cX8_isClass 1 = .ok (.iconst 0, 1) := by decide +kernel
theorem dX8_isClass_2 : decode cX8_isClass 2 = .ok (.bipush 9, 2) := by decide +kernel
theorem dX8_isClass_4 : decode cX8_isClass 4 = .ok (.invokestatic 94, 3) := by decide +kernel
theorem dX8_isClass_7 : decode cX8_isClass 7 = .ok (.ireturn, 1) := by decide +kernel
theorem dX8_steps_0 : decode cX8_steps 0 = .ok (.aload_n 0, 1) := by decide +kernel
theorem dX8_steps_1 : decode cX8_steps 1 = .ok (.iconst 0, 1) := by decide +kernel
theorem dX8_steps_2 : decode cX8_steps 2 = .ok (.putfield 87, 3) := by decide +kernel
theorem dX8_steps_5 : decode cX8_steps 5 = .ok (.iload_n 1, 1) := by decide +kernel
theorem dX8_steps_6 : decode cX8_steps 6 = .ok (.invokestatic 246, 3) := by decide +kernel
theorem dX8_steps_9 : decode cX8_steps 9 = .ok (.ifCond .eq 10, 3) := by decide +kernel
theorem dX8_steps_12 : decode cX8_steps 12 = .ok (.iload_n 2, 1) := by decide +kernel
theorem dX8_steps_13 : decode cX8_steps 13 = .ok (.invokestatic 246, 3) := by decide +kernel
theorem dX8_steps_16 : decode cX8_steps 16 = .ok (.ifCond .ne 9, 3) := by decide +kernel
theorem dX8_steps_19 : decode cX8_steps 19 = .ok (.aload_n 0, 1) := by decide +kernel
theorem dX8_steps_20 : decode cX8_steps 20 = .ok (.iconst 1, 1) := by decide +kernel
theorem dX8_steps_21 : decode cX8_steps 21 = .ok (.invokevirtual 236, 3) := by decide +kernel
theorem dX8_steps_24 : decode cX8_steps 24 = .ok (.ireturn, 1) := by decide +kernel
theorem dX8_steps_25 : decode cX8_steps 25 = .ok (.aload_n 0, 1) := by decide +kernel
theorem dX8_steps_26 : decode cX8_steps 26 = .ok (.iconst 1, 1) := by decide +kernel
theorem dX8_steps_27 : decode cX8_steps 27 = .ok (.iload_n 1, 1) := by decide +kernel
theorem dX8_steps_28 : decode cX8_steps 28 = .ok (.ishl, 1) := by decide +kernel
theorem dX8_steps_29 : decode cX8_steps 29 = .ok (.invokevirtual 154, 3) := by decide +kernel
theorem dX8_steps_32 : decode cX8_steps 32 = .ok (.istore_n 3, 1) := by decide +kernel
theorem dX8_steps_33 : decode cX8_steps 33 = .ok (.iload_n 3, 1) := by decide +kernel
theorem dX8_steps_34 : decode cX8_steps 34 = .ok (.iload_n 2, 1) := by decide +kernel
theorem dX8_steps_35 : decode cX8_steps 35 = .ok (.invokestatic 151, 3) := by decide +kernel
theorem dX8_steps_38 : decode cX8_steps 38 = .ok (.ifCond .eq 12, 3) := by decide +kernel
theorem dX8_steps_41 : decode cX8_steps 41 = .ok (.aload_n 0, 1) := by decide +kernel
theorem dX8_steps_42 : decode cX8_steps 42 = .ok (.getfield 58, 3) := by decide +kernel
theorem dX8_steps_45 : decode cX8_steps 45 = .ok (.iload_n 2, 1) := by decide +kernel
theorem dX8_steps_46 : decode cX8_steps 46 = .ok (.iaload, 1) := by decide +kernel
theorem dX8_steps_47 : decode cX8_steps 47 = .ok (.goto 4, 3) := by decide +kernel
theorem dX8_steps_50 : decode cX8_steps 50 = .ok (.iconst (-1), 1) := by decide +kernel
theorem dX8_steps_51 : decode cX8_steps 51 = .ok (.ireturn, 1) := by decide +kernel
theorem dX8_here_0 : decode cX8_here 0 = .ok (.aload_n 0, 1) := by decide +kernel
theorem dX8_here_1 : decode cX8_here 1 = .ok (.aload_n 0, 1) := by decide +kernel
theorem dX8_here_2 : decode cX8_here 2 = .ok (.iload_n 1, 1) := by decide +kernel
theorem dX8_here_3 : decode cX8_here 3 = .ok (.invokevirtual 239, 3) := by decide +kernel
theorem dX8_here_6 : decode cX8_here 6 = .ok (.ifCond .eq 21, 3) := by decide +kernel
theorem dX8_here_9 : decode cX8_here 9 = .ok (.aload_n 0, 1) := by decide +kernel
theorem dX8_here_10 : decode cX8_here 10 = .ok (.iload_n 2, 1) := by decide +kernel
theorem dX8_here_11 : decode cX8_here 11 = .ok (.invokevirtual 249, 3) := by decide +kernel
theorem dX8_here_14 : decode cX8_here 14 = .ok (.ifCond .eq 13, 3) := by decide +kernel
theorem dX8_here_17 : decode cX8_here 17 = .ok (.iload 4, 2) := by decide +kernel
theorem dX8_here_19 : decode cX8_here 19 = .ok (.iconst 0, 1) := by decide +kernel
theorem dX8_here_20 : decode cX8_here 20 = .ok (.iconst 3, 1) := by decide +kernel
theorem dX8_here_21 : decode cX8_here 21 = .ok (.invokestatic 94, 3) := by decide +kernel
theorem dX8_here_24 : decode cX8_here 24 = .ok (.ifCond .ne 7, 3) := by decide +kernel
theorem dX8_here_27 : decode cX8_here 27 = .ok (.iconst 1, 1) := by decide +kernel
theorem dX8_here_28 : decode cX8_here 28 = .ok (.goto 15, 3) := by decide +kernel
theorem dX8_here_31 : decode cX8_here 31 = .ok (.iload_n 3, 1) := by decide +kernel
theorem dX8_here_32 : decode cX8_here 32 = .ok (.invokestatic 252, 3) := by decide +kernel
theorem dX8_here_35 : decode cX8_here 35 = .ok (.ifCond .ne 7, 3) := by decide +kernel
theorem dX8_here_38 : decode cX8_here 38 = .ok (.iconst 2, 1) := by decide +kernel
theorem dX8_here_39 : decode cX8_here 39 = .ok (.goto 4, 3) := by decide +kernel
theorem dX8_here_42 : decode cX8_here 42 = .ok (.iconst 0, 1) := by decide +kernel
theorem dX8_here_43 : decode cX8_here 43 = .ok (.putfield 87, 3) := by decide +kernel
theorem dX8_here_46 : decode cX8_here 46 = .ok (.aload_n 0, 1) := by decide +kernel
theorem dX8_here_47 : decode cX8_here 47 = .ok (.getfield 87, 3) := by decide +kernel
theorem dX8_here_50 : decode cX8_here 50 = .ok (.ifCond .le 5, 3) := by decide +kernel
theorem dX8_here_53 : decode cX8_here 53 = .ok (.iconst 0, 1) := by decide +kernel
theorem dX8_here_54 : decode cX8_here 54 = .ok (.ireturn, 1) := by decide +kernel
theorem dX8_here_55 : decode cX8_here 55 = .ok (.iload 4, 2) := by decide +kernel
theorem dX8_here_57 : decode cX8_here 57 = .ok (.ifCond .ne 11, 3) := by decide +kernel
theorem dX8_here_60 : decode cX8_here 60 = .ok (.aload_n 0, 1) := by decide +kernel
theorem dX8_here_61 : decode cX8_here 61 = .ok (.iload_n 1, 1) := by decide +kernel
theorem dX8_here_62 : decode cX8_here 62 = .ok (.iload_n 2, 1) := by decide +kernel
theorem dX8_here_63 : decode cX8_here 63 = .ok (.iload_n 3, 1) := by decide +kernel
theorem dX8_here_64 : decode cX8_here 64 = .ok (.invokevirtual 193, 3) := by decide +kernel
theorem dX8_here_67 : decode cX8_here 67 = .ok (.ireturn, 1) := by decide +kernel
theorem dX8_here_68 : decode cX8_here 68 = .ok (.aload_n 0, 1) := by decide +kernel
theorem dX8_here_69 : decode cX8_here 69 = .ok (.iload_n 2, 1) := by decide +kernel
theorem dX8_here_70 : decode cX8_here 70 = .ok (.iload_n 3, 1) := by decide +kernel
theorem dX8_here_71 : decode cX8_here 71 = .ok (.invokevirtual 218, 3) := by decide +kernel
theorem dX8_here_74 : decode cX8_here 74 = .ok (.iload 4, 2) := by decide +kernel
theorem dX8_here_76 : decode cX8_here 76 = .ok (.iconst 1, 1) := by decide +kernel
theorem dX8_here_77 : decode cX8_here 77 = .ok (.if_icmp .ne 12, 3) := by decide +kernel
theorem dX8_here_80 : decode cX8_here 80 = .ok (.aload_n 0, 1) := by decide +kernel
theorem dX8_here_81 : decode cX8_here 81 = .ok (.getfield 61, 3) := by decide +kernel
theorem dX8_here_84 : decode cX8_here 84 = .ok (.iload_n 1, 1) := by decide +kernel
theorem dX8_here_85 : decode cX8_here 85 = .ok (.iaload, 1) := by decide +kernel
theorem dX8_here_86 : decode cX8_here 86 = .ok (.goto 34, 3) := by decide +kernel
theorem dX8_here_89 : decode cX8_here 89 = .ok (.iload 4, 2) := by decide +kernel
theorem dX8_here_91 : decode cX8_here 91 = .ok (.iconst 2, 1) := by decide +kernel
theorem dX8_here_92 : decode cX8_here 92 = .ok (.if_icmp .ne 12, 3) := by decide +kernel
theorem dX8_here_95 : decode cX8_here 95 = .ok (.aload_n 0, 1) := by decide +kernel
theorem dX8_here_96 : decode cX8_here 96 = .ok (.getfield 67, 3) := by decide +kernel
theorem dX8_here_99 : decode cX8_here 99 = .ok (.iload_n 1, 1) := by decide +kernel
theorem dX8_here_100 : decode cX8_here 100 = .ok (.iaload, 1) := by decide +kernel
theorem dX8_here_101 : decode cX8_here 101 = .ok (.goto 19, 3) := by decide +kernel
theorem dX8_here_104 : decode cX8_here 104 = .ok (.aload_n 0, 1) := by decide +kernel
theorem dX8_here_105 : decode cX8_here 105 = .ok (.getfield 212, 3) := by decide +kernel
theorem dX8_here_108 : decode cX8_here 108 = .ok (.iload_n 1, 1) := by decide +kernel
theorem dX8_here_109 : decode cX8_here 109 = .ok (.invokestatic 151, 3) := by decide +kernel
theorem dX8_here_112 : decode cX8_here 112 = .ok (.ifCond .eq 7, 3) := by decide +kernel
theorem dX8_here_115 : decode cX8_here 115 = .ok (.iconst 1, 1) := by decide +kernel
theorem dX8_here_116 : decode cX8_here 116 = .ok (.goto 4, 3) := by decide +kernel
theorem dX8_here_119 : decode cX8_here 119 = .ok (.iconst 0, 1) := by decide +kernel
theorem dX8_here_120 : decode cX8_here 120 = .ok (.ireturn, 1) := by decide +kernel
theorem dX8_halves_0 : decode cX8_halves 0 = .ok (.aload_n 0, 1) := by decide +kernel
theorem dX8_halves_1 : decode cX8_halves 1 = .ok (.aload_n 0, 1) := by decide +kernel
theorem dX8_halves_2 : decode cX8_halves 2 = .ok (.iload_n 1, 1) := by decide +kernel
theorem dX8_halves_3 : decode cX8_halves 3 = .ok (.invokevirtual 239, 3) := by decide +kernel
theorem dX8_halves_6 : decode cX8_halves 6 = .ok (.ifCond .eq 12, 3) := by decide +kernel
theorem dX8_halves_9 : decode cX8_halves 9 = .ok (.iload_n 3, 1) := by decide +kernel
theorem dX8_halves_10 : decode cX8_halves 10 = .ok (.iconst 0, 1) := by decide +kernel
theorem dX8_halves_11 : decode cX8_halves 11 = .ok (.iconst 2, 1) := by decide +kernel
theorem dX8_halves_12 : decode cX8_halves 12 = .ok (.invokestatic 94, 3) := by decide +kernel
theorem dX8_halves_15 : decode cX8_halves 15 = .ok (.ifCond .ne 7, 3) := by decide +kernel
theorem dX8_halves_18 : decode cX8_halves 18 = .ok (.iconst 1, 1) := by decide +kernel
theorem dX8_halves_19 : decode cX8_halves 19 = .ok (.goto 15, 3) := by decide +kernel
theorem dX8_halves_22 : decode cX8_halves 22 = .ok (.iload_n 2, 1) := by decide +kernel
theorem dX8_halves_23 : decode cX8_halves 23 = .ok (.invokestatic 252, 3) := by decide +kernel
theorem dX8_halves_26 : decode cX8_halves 26 = .ok (.ifCond .ne 7, 3) := by decide +kernel
theorem dX8_halves_29 : decode cX8_halves 29 = .ok (.iconst 2, 1) := by decide +kernel
theorem dX8_halves_30 : decode cX8_halves 30 = .ok (.goto 4, 3) := by decide +kernel
theorem dX8_halves_33 : decode cX8_halves 33 = .ok (.iconst 0, 1) := by decide +kernel
theorem dX8_halves_34 : decode cX8_halves 34 = .ok (.putfield 87, 3) := by decide +kernel
theorem dX8_halves_37 : decode cX8_halves 37 = .ok (.aload_n 0, 1) := by decide +kernel
theorem dX8_halves_38 : decode cX8_halves 38 = .ok (.getfield 87, 3) := by decide +kernel
theorem dX8_halves_41 : decode cX8_halves 41 = .ok (.ifCond .le 7, 3) := by decide +kernel
theorem dX8_halves_44 : decode cX8_halves 44 = .ok (.iconst 0, 1) := by decide +kernel
theorem dX8_halves_45 : decode cX8_halves 45 = .ok (.goto 10, 3) := by decide +kernel
theorem dX8_halves_48 : decode cX8_halves 48 = .ok (.aload_n 0, 1) := by decide +kernel
theorem dX8_halves_49 : decode cX8_halves 49 = .ok (.iload_n 1, 1) := by decide +kernel
theorem dX8_halves_50 : decode cX8_halves 50 = .ok (.iload_n 2, 1) := by decide +kernel
theorem dX8_halves_51 : decode cX8_halves 51 = .ok (.iload_n 3, 1) := by decide +kernel
theorem dX8_halves_52 : decode cX8_halves 52 = .ok (.invokevirtual 255, 3) := by decide +kernel
theorem dX8_halves_55 : decode cX8_halves 55 = .ok (.ireturn, 1) := by decide +kernel
theorem dX8_holders_0 : decode cX8_holders 0 = .ok (.aload_n 0, 1) := by decide +kernel
theorem dX8_holders_1 : decode cX8_holders 1 = .ok (.aload_n 0, 1) := by decide +kernel
theorem dX8_holders_2 : decode cX8_holders 2 = .ok (.iload_n 1, 1) := by decide +kernel
theorem dX8_holders_3 : decode cX8_holders 3 = .ok (.invokevirtual 249, 3) := by decide +kernel
theorem dX8_holders_6 : decode cX8_holders 6 = .ok (.ifCond .ne 7, 3) := by decide +kernel
theorem dX8_holders_9 : decode cX8_holders 9 = .ok (.iconst 1, 1) := by decide +kernel
theorem dX8_holders_10 : decode cX8_holders 10 = .ok (.goto 15, 3) := by decide +kernel
theorem dX8_holders_13 : decode cX8_holders 13 = .ok (.iload_n 2, 1) := by decide +kernel
theorem dX8_holders_14 : decode cX8_holders 14 = .ok (.invokestatic 252, 3) := by decide +kernel
theorem dX8_holders_17 : decode cX8_holders 17 = .ok (.ifCond .ne 7, 3) := by decide +kernel
theorem dX8_holders_20 : decode cX8_holders 20 = .ok (.iconst 2, 1) := by decide +kernel
theorem dX8_holders_21 : decode cX8_holders 21 = .ok (.goto 4, 3) := by decide +kernel
theorem dX8_holders_24 : decode cX8_holders 24 = .ok (.iconst 0, 1) := by decide +kernel
theorem dX8_holders_25 : decode cX8_holders 25 = .ok (.putfield 87, 3) := by decide +kernel
theorem dX8_holders_28 : decode cX8_holders 28 = .ok (.aload_n 0, 1) := by decide +kernel
theorem dX8_holders_29 : decode cX8_holders 29 = .ok (.getfield 87, 3) := by decide +kernel
theorem dX8_holders_32 : decode cX8_holders 32 = .ok (.ifCond .le 5, 3) := by decide +kernel
theorem dX8_holders_35 : decode cX8_holders 35 = .ok (.iconst 0, 1) := by decide +kernel
theorem dX8_holders_36 : decode cX8_holders 36 = .ok (.ireturn, 1) := by decide +kernel
theorem dX8_holders_37 : decode cX8_holders 37 = .ok (.aload_n 0, 1) := by decide +kernel
theorem dX8_holders_38 : decode cX8_holders 38 = .ok (.iload_n 1, 1) := by decide +kernel
theorem dX8_holders_39 : decode cX8_holders 39 = .ok (.iload_n 2, 1) := by decide +kernel
theorem dX8_holders_40 : decode cX8_holders 40 = .ok (.invokevirtual 218, 3) := by decide +kernel
theorem dX8_holders_43 : decode cX8_holders 43 = .ok (.aload_n 0, 1) := by decide +kernel
theorem dX8_holders_44 : decode cX8_holders 44 = .ok (.getfield 212, 3) := by decide +kernel
theorem dX8_holders_47 : decode cX8_holders 47 = .ok (.ireturn, 1) := by decide +kernel
theorem dX8_holdersOf_0 : decode cX8_holdersOf 0 = .ok (.aload_n 0, 1) := by decide +kernel
theorem dX8_holdersOf_1 : decode cX8_holdersOf 1 = .ok (.iload_n 1, 1) := by decide +kernel
theorem dX8_holdersOf_2 : decode cX8_holdersOf 2 = .ok (.iload_n 2, 1) := by decide +kernel
theorem dX8_holdersOf_3 : decode cX8_holdersOf 3 = .ok (.invokevirtual 218, 3) := by decide +kernel
theorem dX8_holdersOf_6 : decode cX8_holdersOf 6 = .ok (.aload_n 0, 1) := by decide +kernel
theorem dX8_holdersOf_7 : decode cX8_holdersOf 7 = .ok (.getfield 212, 3) := by decide +kernel
theorem dX8_holdersOf_10 : decode cX8_holdersOf 10 = .ok (.ireturn, 1) := by decide +kernel
theorem dX8_shared_0 : decode cX8_shared 0 = .ok (.aload_n 0, 1) := by decide +kernel
theorem dX8_shared_1 : decode cX8_shared 1 = .ok (.iload_n 1, 1) := by decide +kernel
theorem dX8_shared_2 : decode cX8_shared 2 = .ok (.invokestatic 252, 3) := by decide +kernel
theorem dX8_shared_5 : decode cX8_shared 5 = .ok (.ifCond .eq 7, 3) := by decide +kernel
theorem dX8_shared_8 : decode cX8_shared 8 = .ok (.iconst 0, 1) := by decide +kernel
theorem dX8_shared_9 : decode cX8_shared 9 = .ok (.goto 4, 3) := by decide +kernel
theorem dX8_shared_12 : decode cX8_shared 12 = .ok (.iconst 1, 1) := by decide +kernel
theorem dX8_shared_13 : decode cX8_shared 13 = .ok (.putfield 87, 3) := by decide +kernel
theorem dX8_shared_16 : decode cX8_shared 16 = .ok (.aload_n 0, 1) := by decide +kernel
theorem dX8_shared_17 : decode cX8_shared 17 = .ok (.getfield 87, 3) := by decide +kernel
theorem dX8_shared_20 : decode cX8_shared 20 = .ok (.ifCond .le 5, 3) := by decide +kernel
theorem dX8_shared_23 : decode cX8_shared 23 = .ok (.iconst 0, 1) := by decide +kernel
theorem dX8_shared_24 : decode cX8_shared 24 = .ok (.ireturn, 1) := by decide +kernel
theorem dX8_shared_25 : decode cX8_shared 25 = .ok (.iconst 0, 1) := by decide +kernel
theorem dX8_shared_26 : decode cX8_shared 26 = .ok (.istore_n 2, 1) := by decide +kernel
theorem dX8_shared_27 : decode cX8_shared 27 = .ok (.iconst 0, 1) := by decide +kernel
theorem dX8_shared_28 : decode cX8_shared 28 = .ok (.istore_n 3, 1) := by decide +kernel
theorem dX8_shared_29 : decode cX8_shared 29 = .ok (.iload_n 3, 1) := by decide +kernel
theorem dX8_shared_30 : decode cX8_shared 30 = .ok (.aload_n 0, 1) := by decide +kernel
theorem dX8_shared_31 : decode cX8_shared 31 = .ok (.getfield 9, 3) := by decide +kernel
theorem dX8_shared_34 : decode cX8_shared 34 = .ok (.iconst 0, 1) := by decide +kernel
theorem dX8_shared_35 : decode cX8_shared 35 = .ok (.iaload, 1) := by decide +kernel
theorem dX8_shared_36 : decode cX8_shared 36 = .ok (.if_icmp .ge 88, 3) := by decide +kernel
theorem dX8_shared_39 : decode cX8_shared 39 = .ok (.aload_n 0, 1) := by decide +kernel
theorem dX8_shared_40 : decode cX8_shared 40 = .ok (.iconst 2, 1) := by decide +kernel
theorem dX8_shared_41 : decode cX8_shared 41 = .ok (.iload_n 3, 1) := by decide +kernel
theorem dX8_shared_42 : decode cX8_shared 42 = .ok (.imul, 1) := by decide +kernel
theorem dX8_shared_43 : decode cX8_shared 43 = .ok (.iload_n 1, 1) := by decide +kernel
theorem dX8_shared_44 : decode cX8_shared 44 = .ok (.invokevirtual 258, 3) := by decide +kernel
theorem dX8_shared_47 : decode cX8_shared 47 = .ok (.istore 4, 2) := by decide +kernel
theorem dX8_shared_49 : decode cX8_shared 49 = .ok (.aload_n 0, 1) := by decide +kernel
theorem dX8_shared_50 : decode cX8_shared 50 = .ok (.iconst 2, 1) := by decide +kernel
theorem dX8_shared_51 : decode cX8_shared 51 = .ok (.iload_n 3, 1) := by decide +kernel
theorem dX8_shared_52 : decode cX8_shared 52 = .ok (.imul, 1) := by decide +kernel
theorem dX8_shared_53 : decode cX8_shared 53 = .ok (.iconst 1, 1) := by decide +kernel
theorem dX8_shared_54 : decode cX8_shared 54 = .ok (.iadd, 1) := by decide +kernel
theorem dX8_shared_55 : decode cX8_shared 55 = .ok (.iload_n 1, 1) := by decide +kernel
theorem dX8_shared_56 : decode cX8_shared 56 = .ok (.invokevirtual 258, 3) := by decide +kernel
theorem dX8_shared_59 : decode cX8_shared 59 = .ok (.istore 5, 2) := by decide +kernel
theorem dX8_shared_61 : decode cX8_shared 61 = .ok (.iconst 0, 1) := by decide +kernel
theorem dX8_shared_62 : decode cX8_shared 62 = .ok (.istore 6, 2) := by decide +kernel
theorem dX8_shared_64 : decode cX8_shared 64 = .ok (.iload 6, 2) := by decide +kernel
theorem dX8_shared_66 : decode cX8_shared 66 = .ok (.aload_n 0, 1) := by decide +kernel
theorem dX8_shared_67 : decode cX8_shared 67 = .ok (.invokevirtual 90, 3) := by decide +kernel
theorem dX8_shared_70 : decode cX8_shared 70 = .ok (.if_icmp .ge 48, 3) := by decide +kernel
theorem dX8_shared_73 : decode cX8_shared 73 = .ok (.iload 4, 2) := by decide +kernel
theorem dX8_shared_75 : decode cX8_shared 75 = .ok (.iload 5, 2) := by decide +kernel
theorem dX8_shared_77 : decode cX8_shared 77 = .ok (.iconst (-1), 1) := by decide +kernel
theorem dX8_shared_78 : decode cX8_shared 78 = .ok (.ixor, 1) := by decide +kernel
theorem dX8_shared_79 : decode cX8_shared 79 = .ok (.iand, 1) := by decide +kernel
theorem dX8_shared_80 : decode cX8_shared 80 = .ok (.iload 6, 2) := by decide +kernel
theorem dX8_shared_82 : decode cX8_shared 82 = .ok (.invokestatic 151, 3) := by decide +kernel
theorem dX8_shared_85 : decode cX8_shared 85 = .ok (.ifCond .eq 27, 3) := by decide +kernel
theorem dX8_shared_88 : decode cX8_shared 88 = .ok (.aload_n 0, 1) := by decide +kernel
theorem dX8_shared_89 : decode cX8_shared 89 = .ok (.getfield 55, 3) := by decide +kernel
theorem dX8_shared_92 : decode cX8_shared 92 = .ok (.iload 6, 2) := by decide +kernel
theorem dX8_shared_94 : decode cX8_shared 94 = .ok (.iaload, 1) := by decide +kernel
theorem dX8_shared_95 : decode cX8_shared 95 = .ok (.iload 5, 2) := by decide +kernel
theorem dX8_shared_97 : decode cX8_shared 97 = .ok (.iand, 1) := by decide +kernel
theorem dX8_shared_98 : decode cX8_shared 98 = .ok (.iload 4, 2) := by decide +kernel
theorem dX8_shared_100 : decode cX8_shared 100 = .ok (.iconst (-1), 1) := by decide +kernel
theorem dX8_shared_101 : decode cX8_shared 101 = .ok (.ixor, 1) := by decide +kernel
theorem dX8_shared_102 : decode cX8_shared 102 = .ok (.iand, 1) := by decide +kernel
theorem dX8_shared_103 : decode cX8_shared 103 = .ok (.ifCond .eq 9, 3) := by decide +kernel
theorem dX8_shared_106 : decode cX8_shared 106 = .ok (.iload_n 2, 1) := by decide +kernel
theorem dX8_shared_107 : decode cX8_shared 107 = .ok (.iconst 1, 1) := by decide +kernel
theorem dX8_shared_108 : decode cX8_shared 108 = .ok (.iload_n 3, 1) := by decide +kernel
theorem dX8_shared_109 : decode cX8_shared 109 = .ok (.ishl, 1) := by decide +kernel
theorem dX8_shared_110 : decode cX8_shared 110 = .ok (.ior, 1) := by decide +kernel
theorem dX8_shared_111 : decode cX8_shared 111 = .ok (.istore_n 2, 1) := by decide +kernel
theorem dX8_shared_112 : decode cX8_shared 112 = .ok (.iinc 6 1, 3) := by decide +kernel
theorem dX8_shared_115 : decode cX8_shared 115 = .ok (.goto (-51), 3) := by decide +kernel
theorem dX8_shared_118 : decode cX8_shared 118 = .ok (.iinc 3 1, 3) := by decide +kernel
theorem dX8_shared_121 : decode cX8_shared 121 = .ok (.goto (-92), 3) := by decide +kernel
theorem dX8_shared_124 : decode cX8_shared 124 = .ok (.iload_n 2, 1) := by decide +kernel
theorem dX8_shared_125 : decode cX8_shared 125 = .ok (.ireturn, 1) := by decide +kernel
theorem dX8_refusedOf_0 : decode cX8_refusedOf 0 = .ok (.iconst 0, 1) := by decide +kernel
theorem dX8_refusedOf_1 : decode cX8_refusedOf 1 = .ok (.istore_n 2, 1) := by decide +kernel
theorem dX8_refusedOf_2 : decode cX8_refusedOf 2 = .ok (.iconst 0, 1) := by decide +kernel
theorem dX8_refusedOf_3 : decode cX8_refusedOf 3 = .ok (.istore_n 3, 1) := by decide +kernel
theorem dX8_refusedOf_4 : decode cX8_refusedOf 4 = .ok (.iload_n 3, 1) := by decide +kernel
theorem dX8_refusedOf_5 : decode cX8_refusedOf 5 = .ok (.aload_n 0, 1) := by decide +kernel
theorem dX8_refusedOf_6 : decode cX8_refusedOf 6 = .ok (.invokevirtual 90, 3) := by decide +kernel
theorem dX8_refusedOf_9 : decode cX8_refusedOf 9 = .ok (.if_icmp .ge 35, 3) := by decide +kernel
theorem dX8_refusedOf_12 : decode cX8_refusedOf 12 = .ok (.aload_n 0, 1) := by decide +kernel
theorem dX8_refusedOf_13 : decode cX8_refusedOf 13 = .ok (.iload_n 3, 1) := by decide +kernel
theorem dX8_refusedOf_14 : decode cX8_refusedOf 14 = .ok (.iload_n 1, 1) := by decide +kernel
theorem dX8_refusedOf_15 : decode cX8_refusedOf 15 = .ok (.iconst 0, 1) := by decide +kernel
theorem dX8_refusedOf_16 : decode cX8_refusedOf 16 = .ok (.invokevirtual 255, 3) := by decide +kernel
theorem dX8_refusedOf_19 : decode cX8_refusedOf 19 = .ok (.ifCond .eq 19, 3) := by decide +kernel
theorem dX8_refusedOf_22 : decode cX8_refusedOf 22 = .ok (.aload_n 0, 1) := by decide +kernel
theorem dX8_refusedOf_23 : decode cX8_refusedOf 23 = .ok (.iload_n 3, 1) := by decide +kernel
theorem dX8_refusedOf_24 : decode cX8_refusedOf 24 = .ok (.iload_n 1, 1) := by decide +kernel
theorem dX8_refusedOf_25 : decode cX8_refusedOf 25 = .ok (.iconst 1, 1) := by decide +kernel
theorem dX8_refusedOf_26 : decode cX8_refusedOf 26 = .ok (.invokevirtual 255, 3) := by decide +kernel
theorem dX8_refusedOf_29 : decode cX8_refusedOf 29 = .ok (.ifCond .ne 9, 3) := by decide +kernel
theorem dX8_refusedOf_32 : decode cX8_refusedOf 32 = .ok (.iload_n 2, 1) := by decide +kernel
theorem dX8_refusedOf_33 : decode cX8_refusedOf 33 = .ok (.iconst 1, 1) := by decide +kernel
theorem dX8_refusedOf_34 : decode cX8_refusedOf 34 = .ok (.iload_n 3, 1) := by decide +kernel
theorem dX8_refusedOf_35 : decode cX8_refusedOf 35 = .ok (.ishl, 1) := by decide +kernel
theorem dX8_refusedOf_36 : decode cX8_refusedOf 36 = .ok (.ior, 1) := by decide +kernel
theorem dX8_refusedOf_37 : decode cX8_refusedOf 37 = .ok (.istore_n 2, 1) := by decide +kernel
theorem dX8_refusedOf_38 : decode cX8_refusedOf 38 = .ok (.iinc 3 1, 3) := by decide +kernel
theorem dX8_refusedOf_41 : decode cX8_refusedOf 41 = .ok (.goto (-37), 3) := by decide +kernel
theorem dX8_refusedOf_44 : decode cX8_refusedOf 44 = .ok (.iload_n 2, 1) := by decide +kernel
theorem dX8_refusedOf_45 : decode cX8_refusedOf 45 = .ok (.ireturn, 1) := by decide +kernel
theorem dX8_refused_0 : decode cX8_refused 0 = .ok (.aload_n 0, 1) := by decide +kernel
theorem dX8_refused_1 : decode cX8_refused 1 = .ok (.iload_n 2, 1) := by decide +kernel
theorem dX8_refused_2 : decode cX8_refused 2 = .ok (.iconst 0, 1) := by decide +kernel
theorem dX8_refused_3 : decode cX8_refused 3 = .ok (.iconst 1, 1) := by decide +kernel
theorem dX8_refused_4 : decode cX8_refused 4 = .ok (.invokestatic 94, 3) := by decide +kernel
theorem dX8_refused_7 : decode cX8_refused 7 = .ok (.ifCond .ne 7, 3) := by decide +kernel
theorem dX8_refused_10 : decode cX8_refused 10 = .ok (.iconst 1, 1) := by decide +kernel
theorem dX8_refused_11 : decode cX8_refused 11 = .ok (.goto 15, 3) := by decide +kernel
theorem dX8_refused_14 : decode cX8_refused 14 = .ok (.iload_n 1, 1) := by decide +kernel
theorem dX8_refused_15 : decode cX8_refused 15 = .ok (.invokestatic 252, 3) := by decide +kernel
theorem dX8_refused_18 : decode cX8_refused 18 = .ok (.ifCond .ne 7, 3) := by decide +kernel
theorem dX8_refused_21 : decode cX8_refused 21 = .ok (.iconst 2, 1) := by decide +kernel
theorem dX8_refused_22 : decode cX8_refused 22 = .ok (.goto 4, 3) := by decide +kernel
theorem dX8_refused_25 : decode cX8_refused 25 = .ok (.iconst 0, 1) := by decide +kernel
theorem dX8_refused_26 : decode cX8_refused 26 = .ok (.putfield 87, 3) := by decide +kernel
theorem dX8_refused_29 : decode cX8_refused 29 = .ok (.aload_n 0, 1) := by decide +kernel
theorem dX8_refused_30 : decode cX8_refused 30 = .ok (.getfield 87, 3) := by decide +kernel
theorem dX8_refused_33 : decode cX8_refused 33 = .ok (.ifCond .le 5, 3) := by decide +kernel
theorem dX8_refused_36 : decode cX8_refused 36 = .ok (.iconst 0, 1) := by decide +kernel
theorem dX8_refused_37 : decode cX8_refused 37 = .ok (.ireturn, 1) := by decide +kernel
theorem dX8_refused_38 : decode cX8_refused 38 = .ok (.aload_n 0, 1) := by decide +kernel
theorem dX8_refused_39 : decode cX8_refused 39 = .ok (.iload_n 1, 1) := by decide +kernel
theorem dX8_refused_40 : decode cX8_refused 40 = .ok (.invokevirtual 261, 3) := by decide +kernel
theorem dX8_refused_43 : decode cX8_refused 43 = .ok (.istore_n 3, 1) := by decide +kernel
theorem dX8_refused_44 : decode cX8_refused 44 = .ok (.iload_n 2, 1) := by decide +kernel
theorem dX8_refused_45 : decode cX8_refused 45 = .ok (.ifCond .ne 5, 3) := by decide +kernel
theorem dX8_refused_48 : decode cX8_refused 48 = .ok (.iload_n 3, 1) := by decide +kernel
theorem dX8_refused_49 : decode cX8_refused 49 = .ok (.ireturn, 1) := by decide +kernel
theorem dX8_refused_50 : decode cX8_refused 50 = .ok (.iconst (-1), 1) := by decide +kernel
theorem dX8_refused_51 : decode cX8_refused 51 = .ok (.istore 4, 2) := by decide +kernel
theorem dX8_refused_53 : decode cX8_refused 53 = .ok (.iconst 0, 1) := by decide +kernel
theorem dX8_refused_54 : decode cX8_refused 54 = .ok (.istore 5, 2) := by decide +kernel
theorem dX8_refused_56 : decode cX8_refused 56 = .ok (.iload 5, 2) := by decide +kernel
theorem dX8_refused_58 : decode cX8_refused 58 = .ok (.aload_n 0, 1) := by decide +kernel
theorem dX8_refused_59 : decode cX8_refused 59 = .ok (.invokevirtual 90, 3) := by decide +kernel
theorem dX8_refused_62 : decode cX8_refused 62 = .ok (.if_icmp .ge 50, 3) := by decide +kernel
theorem dX8_refused_65 : decode cX8_refused 65 = .ok (.iload_n 3, 1) := by decide +kernel
theorem dX8_refused_66 : decode cX8_refused 66 = .ok (.iload 5, 2) := by decide +kernel
theorem dX8_refused_68 : decode cX8_refused 68 = .ok (.invokestatic 151, 3) := by decide +kernel
theorem dX8_refused_71 : decode cX8_refused 71 = .ok (.ifCond .eq 35, 3) := by decide +kernel
theorem dX8_refused_74 : decode cX8_refused 74 = .ok (.iload 4, 2) := by decide +kernel
theorem dX8_refused_76 : decode cX8_refused 76 = .ok (.iconst (-1), 1) := by decide +kernel
theorem dX8_refused_77 : decode cX8_refused 77 = .ok (.if_icmp .eq 25, 3) := by decide +kernel
theorem dX8_refused_80 : decode cX8_refused 80 = .ok (.aload_n 0, 1) := by decide +kernel
theorem dX8_refused_81 : decode cX8_refused 81 = .ok (.iload 5, 2) := by decide +kernel
theorem dX8_refused_83 : decode cX8_refused 83 = .ok (.bipush 12, 2) := by decide +kernel
theorem dX8_refused_85 : decode cX8_refused 85 = .ok (.invokevirtual 101, 3) := by decide +kernel
theorem dX8_refused_88 : decode cX8_refused 88 = .ok (.aload_n 0, 1) := by decide +kernel
theorem dX8_refused_89 : decode cX8_refused 89 = .ok (.iload 4, 2) := by decide +kernel
theorem dX8_refused_91 : decode cX8_refused 91 = .ok (.bipush 12, 2) := by decide +kernel
theorem dX8_refused_93 : decode cX8_refused 93 = .ok (.invokevirtual 101, 3) := by decide +kernel
theorem dX8_refused_96 : decode cX8_refused 96 = .ok (.if_icmp .lt 6, 3) := by decide +kernel
theorem dX8_refused_99 : decode cX8_refused 99 = .ok (.goto 7, 3) := by decide +kernel
theorem dX8_refused_102 : decode cX8_refused 102 = .ok (.iload 5, 2) := by decide +kernel
theorem dX8_refused_104 : decode cX8_refused 104 = .ok (.istore 4, 2) := by decide +kernel
theorem dX8_refused_106 : decode cX8_refused 106 = .ok (.iinc 5 1, 3) := by decide +kernel
theorem dX8_refused_109 : decode cX8_refused 109 = .ok (.goto (-53), 3) := by decide +kernel
theorem dX8_refused_112 : decode cX8_refused 112 = .ok (.iload 4, 2) := by decide +kernel
theorem dX8_refused_114 : decode cX8_refused 114 = .ok (.ireturn, 1) := by decide +kernel
theorem dX8_addTurn_0 : decode cX8_addTurn 0 = .ok (.iload_n 1, 1) := by decide +kernel
theorem dX8_addTurn_1 : decode cX8_addTurn 1 = .ok (.invokestatic 252, 3) := by decide +kernel
theorem dX8_addTurn_4 : decode cX8_addTurn 4 = .ok (.ifCond .ne 4, 3) := by decide +kernel
theorem dX8_addTurn_7 : decode cX8_addTurn 7 = .ok (.return_, 1) := by decide +kernel
theorem dX8_addTurn_8 : decode cX8_addTurn 8 = .ok (.aload_n 0, 1) := by decide +kernel
theorem dX8_addTurn_9 : decode cX8_addTurn 9 = .ok (.getfield 70, 3) := by decide +kernel
theorem dX8_addTurn_12 : decode cX8_addTurn 12 = .ok (.aload_n 0, 1) := by decide +kernel
theorem dX8_addTurn_13 : decode cX8_addTurn 13 = .ok (.getfield 264, 3) := by decide +kernel
theorem dX8_addTurn_16 : decode cX8_addTurn 16 = .ok (.iload_n 1, 1) := by decide +kernel
theorem dX8_addTurn_17 : decode cX8_addTurn 17 = .ok (.iastore, 1) := by decide +kernel
theorem dX8_addTurn_18 : decode cX8_addTurn 18 = .ok (.aload_n 0, 1) := by decide +kernel
theorem dX8_addTurn_19 : decode cX8_addTurn 19 = .ok (.dup, 1) := by decide +kernel
theorem dX8_addTurn_20 : decode cX8_addTurn 20 = .ok (.getfield 264, 3) := by decide +kernel
theorem dX8_addTurn_23 : decode cX8_addTurn 23 = .ok (.iconst 1, 1) := by decide +kernel
theorem dX8_addTurn_24 : decode cX8_addTurn 24 = .ok (.iadd, 1) := by decide +kernel
theorem dX8_addTurn_25 : decode cX8_addTurn 25 = .ok (.putfield 264, 3) := by decide +kernel
theorem dX8_addTurn_28 : decode cX8_addTurn 28 = .ok (.return_, 1) := by decide +kernel
theorem dX8_layTurns_0 : decode cX8_layTurns 0 = .ok (.aload_n 0, 1) := by decide +kernel
theorem dX8_layTurns_1 : decode cX8_layTurns 1 = .ok (.iconst 0, 1) := by decide +kernel
theorem dX8_layTurns_2 : decode cX8_layTurns 2 = .ok (.putfield 264, 3) := by decide +kernel
theorem dX8_layTurns_5 : decode cX8_layTurns 5 = .ok (.iconst 0, 1) := by decide +kernel
theorem dX8_layTurns_6 : decode cX8_layTurns 6 = .ok (.istore_n 1, 1) := by decide +kernel
theorem dX8_layTurns_7 : decode cX8_layTurns 7 = .ok (.iload_n 1, 1) := by decide +kernel
theorem dX8_layTurns_8 : decode cX8_layTurns 8 = .ok (.aload_n 0, 1) := by decide +kernel
theorem dX8_layTurns_9 : decode cX8_layTurns 9 = .ok (.invokevirtual 90, 3) := by decide +kernel
theorem dX8_layTurns_12 : decode cX8_layTurns 12 = .ok (.if_icmp .ge 81, 3) := by decide +kernel
theorem dX8_layTurns_15 : decode cX8_layTurns 15 = .ok (.aload_n 0, 1) := by decide +kernel
theorem dX8_layTurns_16 : decode cX8_layTurns 16 = .ok (.aload_n 0, 1) := by decide +kernel
theorem dX8_layTurns_17 : decode cX8_layTurns 17 = .ok (.iload_n 1, 1) := by decide +kernel
theorem dX8_layTurns_18 : decode cX8_layTurns 18 = .ok (.bipush 12, 2) := by decide +kernel
theorem dX8_layTurns_20 : decode cX8_layTurns 20 = .ok (.invokevirtual 101, 3) := by decide +kernel
theorem dX8_layTurns_23 : decode cX8_layTurns 23 = .ok (.invokevirtual 267, 3) := by decide +kernel
theorem dX8_layTurns_26 : decode cX8_layTurns 26 = .ok (.iconst 0, 1) := by decide +kernel
theorem dX8_layTurns_27 : decode cX8_layTurns 27 = .ok (.istore_n 2, 1) := by decide +kernel
theorem dX8_layTurns_28 : decode cX8_layTurns 28 = .ok (.iload_n 2, 1) := by decide +kernel
theorem dX8_layTurns_29 : decode cX8_layTurns 29 = .ok (.aload_n 0, 1) := by decide +kernel
theorem dX8_layTurns_30 : decode cX8_layTurns 30 = .ok (.iload_n 1, 1) := by decide +kernel
theorem dX8_layTurns_31 : decode cX8_layTurns 31 = .ok (.bipush 13, 2) := by decide +kernel
theorem dX8_layTurns_33 : decode cX8_layTurns 33 = .ok (.invokevirtual 101, 3) := by decide +kernel
theorem dX8_layTurns_36 : decode cX8_layTurns 36 = .ok (.if_icmp .ge 51, 3) := by decide +kernel
theorem dX8_layTurns_39 : decode cX8_layTurns 39 = .ok (.aload_n 0, 1) := by decide +kernel
theorem dX8_layTurns_40 : decode cX8_layTurns 40 = .ok (.aload_n 0, 1) := by decide +kernel
theorem dX8_layTurns_41 : decode cX8_layTurns 41 = .ok (.iload_n 1, 1) := by decide +kernel
theorem dX8_layTurns_42 : decode cX8_layTurns 42 = .ok (.bipush 14, 2) := by decide +kernel
theorem dX8_layTurns_44 : decode cX8_layTurns 44 = .ok (.iconst 3, 1) := by decide +kernel
theorem dX8_layTurns_45 : decode cX8_layTurns 45 = .ok (.iload_n 2, 1) := by decide +kernel
theorem dX8_layTurns_46 : decode cX8_layTurns 46 = .ok (.imul, 1) := by decide +kernel
theorem dX8_layTurns_47 : decode cX8_layTurns 47 = .ok (.iadd, 1) := by decide +kernel
theorem dX8_layTurns_48 : decode cX8_layTurns 48 = .ok (.iconst 1, 1) := by decide +kernel
theorem dX8_layTurns_49 : decode cX8_layTurns 49 = .ok (.iadd, 1) := by decide +kernel
theorem dX8_layTurns_50 : decode cX8_layTurns 50 = .ok (.invokevirtual 101, 3) := by decide +kernel
theorem dX8_layTurns_53 : decode cX8_layTurns 53 = .ok (.invokevirtual 267, 3) := by decide +kernel
theorem dX8_layTurns_56 : decode cX8_layTurns 56 = .ok (.aload_n 0, 1) := by decide +kernel
theorem dX8_layTurns_57 : decode cX8_layTurns 57 = .ok (.aload_n 0, 1) := by decide +kernel
theorem dX8_layTurns_58 : decode cX8_layTurns 58 = .ok (.iload_n 1, 1) := by decide +kernel
theorem dX8_layTurns_59 : decode cX8_layTurns 59 = .ok (.bipush 14, 2) := by decide +kernel
theorem dX8_layTurns_61 : decode cX8_layTurns 61 = .ok (.iconst 3, 1) := by decide +kernel
theorem dX8_layTurns_62 : decode cX8_layTurns 62 = .ok (.iload_n 2, 1) := by decide +kernel
theorem dX8_layTurns_63 : decode cX8_layTurns 63 = .ok (.imul, 1) := by decide +kernel
theorem dX8_layTurns_64 : decode cX8_layTurns 64 = .ok (.iadd, 1) := by decide +kernel
theorem dX8_layTurns_65 : decode cX8_layTurns 65 = .ok (.iconst 2, 1) := by decide +kernel
theorem dX8_layTurns_66 : decode cX8_layTurns 66 = .ok (.iadd, 1) := by decide +kernel
theorem dX8_layTurns_67 : decode cX8_layTurns 67 = .ok (.invokevirtual 101, 3) := by decide +kernel
theorem dX8_layTurns_70 : decode cX8_layTurns 70 = .ok (.aload_n 0, 1) := by decide +kernel
theorem dX8_layTurns_71 : decode cX8_layTurns 71 = .ok (.iconst 4, 1) := by decide +kernel
theorem dX8_layTurns_72 : decode cX8_layTurns 72 = .ok (.invokevirtual 158, 3) := by decide +kernel
theorem dX8_layTurns_75 : decode cX8_layTurns 75 = .ok (.iadd, 1) := by decide +kernel
theorem dX8_layTurns_76 : decode cX8_layTurns 76 = .ok (.iconst 1, 1) := by decide +kernel
theorem dX8_layTurns_77 : decode cX8_layTurns 77 = .ok (.iadd, 1) := by decide +kernel
theorem dX8_layTurns_78 : decode cX8_layTurns 78 = .ok (.invokevirtual 267, 3) := by decide +kernel
theorem dX8_layTurns_81 : decode cX8_layTurns 81 = .ok (.iinc 2 1, 3) := by decide +kernel
theorem dX8_layTurns_84 : decode cX8_layTurns 84 = .ok (.goto (-56), 3) := by decide +kernel
theorem dX8_layTurns_87 : decode cX8_layTurns 87 = .ok (.iinc 1 1, 3) := by decide +kernel
theorem dX8_layTurns_90 : decode cX8_layTurns 90 = .ok (.goto (-83), 3) := by decide +kernel
theorem dX8_layTurns_93 : decode cX8_layTurns 93 = .ok (.return_, 1) := by decide +kernel
theorem dX8_firstDay_0 : decode cX8_firstDay 0 = .ok (.aload_n 0, 1) := by decide +kernel
theorem dX8_firstDay_1 : decode cX8_firstDay 1 = .ok (.iconst 0, 1) := by decide +kernel
theorem dX8_firstDay_2 : decode cX8_firstDay 2 = .ok (.putfield 87, 3) := by decide +kernel
theorem dX8_firstDay_5 : decode cX8_firstDay 5 = .ok (.aload_n 0, 1) := by decide +kernel
theorem dX8_firstDay_6 : decode cX8_firstDay 6 = .ok (.iload_n 1, 1) := by decide +kernel
theorem dX8_firstDay_7 : decode cX8_firstDay 7 = .ok (.invokevirtual 239, 3) := by decide +kernel
theorem dX8_firstDay_10 : decode cX8_firstDay 10 = .ok (.ifCond .eq 11, 3) := by decide +kernel
theorem dX8_firstDay_13 : decode cX8_firstDay 13 = .ok (.aload_n 0, 1) := by decide +kernel
theorem dX8_firstDay_14 : decode cX8_firstDay 14 = .ok (.iload_n 2, 1) := by decide +kernel
theorem dX8_firstDay_15 : decode cX8_firstDay 15 = .ok (.invokevirtual 249, 3) := by decide +kernel
theorem dX8_firstDay_18 : decode cX8_firstDay 18 = .ok (.ifCond .ne 9, 3) := by decide +kernel
theorem dX8_firstDay_21 : decode cX8_firstDay 21 = .ok (.aload_n 0, 1) := by decide +kernel
theorem dX8_firstDay_22 : decode cX8_firstDay 22 = .ok (.iconst 1, 1) := by decide +kernel
theorem dX8_firstDay_23 : decode cX8_firstDay 23 = .ok (.invokevirtual 236, 3) := by decide +kernel
theorem dX8_firstDay_26 : decode cX8_firstDay 26 = .ok (.ireturn, 1) := by decide +kernel
theorem dX8_firstDay_27 : decode cX8_firstDay 27 = .ok (.aload_n 0, 1) := by decide +kernel
theorem dX8_firstDay_28 : decode cX8_firstDay 28 = .ok (.invokevirtual 270, 3) := by decide +kernel
theorem dX8_firstDay_31 : decode cX8_firstDay 31 = .ok (.iconst (-1), 1) := by decide +kernel
theorem dX8_firstDay_32 : decode cX8_firstDay 32 = .ok (.istore_n 3, 1) := by decide +kernel
theorem dX8_firstDay_33 : decode cX8_firstDay 33 = .ok (.iconst 0, 1) := by decide +kernel
theorem dX8_firstDay_34 : decode cX8_firstDay 34 = .ok (.istore 4, 2) := by decide +kernel
theorem dX8_firstDay_36 : decode cX8_firstDay 36 = .ok (.iload 4, 2) := by decide +kernel
theorem dX8_firstDay_38 : decode cX8_firstDay 38 = .ok (.aload_n 0, 1) := by decide +kernel
theorem dX8_firstDay_39 : decode cX8_firstDay 39 = .ok (.getfield 264, 3) := by decide +kernel
theorem dX8_firstDay_42 : decode cX8_firstDay 42 = .ok (.if_icmp .ge 55, 3) := by decide +kernel
theorem dX8_firstDay_45 : decode cX8_firstDay 45 = .ok (.iload_n 3, 1) := by decide +kernel
theorem dX8_firstDay_46 : decode cX8_firstDay 46 = .ok (.iconst (-1), 1) := by decide +kernel
theorem dX8_firstDay_47 : decode cX8_firstDay 47 = .ok (.if_icmp .eq 17, 3) := by decide +kernel
theorem dX8_firstDay_50 : decode cX8_firstDay 50 = .ok (.aload_n 0, 1) := by decide +kernel
theorem dX8_firstDay_51 : decode cX8_firstDay 51 = .ok (.getfield 70, 3) := by decide +kernel
theorem dX8_firstDay_54 : decode cX8_firstDay 54 = .ok (.iload 4, 2) := by decide +kernel
theorem dX8_firstDay_56 : decode cX8_firstDay 56 = .ok (.iaload, 1) := by decide +kernel
theorem dX8_firstDay_57 : decode cX8_firstDay 57 = .ok (.iload_n 3, 1) := by decide +kernel
theorem dX8_firstDay_58 : decode cX8_firstDay 58 = .ok (.if_icmp .lt 6, 3) := by decide +kernel
theorem dX8_firstDay_61 : decode cX8_firstDay 61 = .ok (.goto 30, 3) := by decide +kernel
theorem dX8_firstDay_64 : decode cX8_firstDay 64 = .ok (.aload_n 0, 1) := by decide +kernel
theorem dX8_firstDay_65 : decode cX8_firstDay 65 = .ok (.iload_n 2, 1) := by decide +kernel
theorem dX8_firstDay_66 : decode cX8_firstDay 66 = .ok (.aload_n 0, 1) := by decide +kernel
theorem dX8_firstDay_67 : decode cX8_firstDay 67 = .ok (.getfield 70, 3) := by decide +kernel
theorem dX8_firstDay_70 : decode cX8_firstDay 70 = .ok (.iload 4, 2) := by decide +kernel
theorem dX8_firstDay_72 : decode cX8_firstDay 72 = .ok (.iaload, 1) := by decide +kernel
theorem dX8_firstDay_73 : decode cX8_firstDay 73 = .ok (.invokevirtual 258, 3) := by decide +kernel
theorem dX8_firstDay_76 : decode cX8_firstDay 76 = .ok (.iload_n 1, 1) := by decide +kernel
theorem dX8_firstDay_77 : decode cX8_firstDay 77 = .ok (.invokestatic 151, 3) := by decide +kernel
theorem dX8_firstDay_80 : decode cX8_firstDay 80 = .ok (.ifCond .eq 11, 3) := by decide +kernel
theorem dX8_firstDay_83 : decode cX8_firstDay 83 = .ok (.aload_n 0, 1) := by decide +kernel
theorem dX8_firstDay_84 : decode cX8_firstDay 84 = .ok (.getfield 70, 3) := by decide +kernel
theorem dX8_firstDay_87 : decode cX8_firstDay 87 = .ok (.iload 4, 2) := by decide +kernel
theorem dX8_firstDay_89 : decode cX8_firstDay 89 = .ok (.iaload, 1) := by decide +kernel
theorem dX8_firstDay_90 : decode cX8_firstDay 90 = .ok (.istore_n 3, 1) := by decide +kernel
theorem dX8_firstDay_91 : decode cX8_firstDay 91 = .ok (.iinc 4 1, 3) := by decide +kernel
theorem dX8_firstDay_94 : decode cX8_firstDay 94 = .ok (.goto (-58), 3) := by decide +kernel
theorem dX8_firstDay_97 : decode cX8_firstDay 97 = .ok (.iload_n 3, 1) := by decide +kernel
theorem dX8_firstDay_98 : decode cX8_firstDay 98 = .ok (.ireturn, 1) := by decide +kernel
theorem dX8_group_0 : decode cX8_group 0 = .ok (.aload_n 0, 1) := by decide +kernel
theorem dX8_group_1 : decode cX8_group 1 = .ok (.iconst 0, 1) := by decide +kernel
theorem dX8_group_2 : decode cX8_group 2 = .ok (.putfield 87, 3) := by decide +kernel
theorem dX8_group_5 : decode cX8_group 5 = .ok (.aload_n 0, 1) := by decide +kernel
theorem dX8_group_6 : decode cX8_group 6 = .ok (.iload_n 1, 1) := by decide +kernel
theorem dX8_group_7 : decode cX8_group 7 = .ok (.invokevirtual 239, 3) := by decide +kernel
theorem dX8_group_10 : decode cX8_group 10 = .ok (.ifCond .ne 9, 3) := by decide +kernel
theorem dX8_group_13 : decode cX8_group 13 = .ok (.aload_n 0, 1) := by decide +kernel
theorem dX8_group_14 : decode cX8_group 14 = .ok (.iconst 1, 1) := by decide +kernel
theorem dX8_group_15 : decode cX8_group 15 = .ok (.invokevirtual 236, 3) := by decide +kernel
theorem dX8_group_18 : decode cX8_group 18 = .ok (.ireturn, 1) := by decide +kernel
theorem dX8_group_19 : decode cX8_group 19 = .ok (.aload_n 0, 1) := by decide +kernel
theorem dX8_group_20 : decode cX8_group 20 = .ok (.invokevirtual 206, 3) := by decide +kernel
theorem dX8_group_23 : decode cX8_group 23 = .ok (.iconst 1, 1) := by decide +kernel
theorem dX8_group_24 : decode cX8_group 24 = .ok (.iload_n 1, 1) := by decide +kernel
theorem dX8_group_25 : decode cX8_group 25 = .ok (.ishl, 1) := by decide +kernel
theorem dX8_group_26 : decode cX8_group 26 = .ok (.istore_n 2, 1) := by decide +kernel
theorem dX8_group_27 : decode cX8_group 27 = .ok (.iconst 0, 1) := by decide +kernel
theorem dX8_group_28 : decode cX8_group 28 = .ok (.istore_n 3, 1) := by decide +kernel
theorem dX8_group_29 : decode cX8_group 29 = .ok (.iload_n 3, 1) := by decide +kernel
theorem dX8_group_30 : decode cX8_group 30 = .ok (.iload_n 2, 1) := by decide +kernel
theorem dX8_group_31 : decode cX8_group 31 = .ok (.if_icmp .eq 45, 3) := by decide +kernel
theorem dX8_group_34 : decode cX8_group 34 = .ok (.iload_n 2, 1) := by decide +kernel
theorem dX8_group_35 : decode cX8_group 35 = .ok (.istore_n 3, 1) := by decide +kernel
theorem dX8_group_36 : decode cX8_group 36 = .ok (.iconst 0, 1) := by decide +kernel
theorem dX8_group_37 : decode cX8_group 37 = .ok (.istore 4, 2) := by decide +kernel
theorem dX8_group_39 : decode cX8_group 39 = .ok (.iload 4, 2) := by decide +kernel
theorem dX8_group_41 : decode cX8_group 41 = .ok (.aload_n 0, 1) := by decide +kernel
theorem dX8_group_42 : decode cX8_group 42 = .ok (.invokevirtual 90, 3) := by decide +kernel
theorem dX8_group_45 : decode cX8_group 45 = .ok (.if_icmp .ge 28, 3) := by decide +kernel
theorem dX8_group_48 : decode cX8_group 48 = .ok (.iload_n 3, 1) := by decide +kernel
theorem dX8_group_49 : decode cX8_group 49 = .ok (.iload 4, 2) := by decide +kernel
theorem dX8_group_51 : decode cX8_group 51 = .ok (.invokestatic 151, 3) := by decide +kernel
theorem dX8_group_54 : decode cX8_group 54 = .ok (.ifCond .eq 13, 3) := by decide +kernel
theorem dX8_group_57 : decode cX8_group 57 = .ok (.iload_n 2, 1) := by decide +kernel
theorem dX8_group_58 : decode cX8_group 58 = .ok (.aload_n 0, 1) := by decide +kernel
theorem dX8_group_59 : decode cX8_group 59 = .ok (.getfield 55, 3) := by decide +kernel
theorem dX8_group_62 : decode cX8_group 62 = .ok (.iload 4, 2) := by decide +kernel
theorem dX8_group_64 : decode cX8_group 64 = .ok (.iaload, 1) := by decide +kernel
theorem dX8_group_65 : decode cX8_group 65 = .ok (.ior, 1) := by decide +kernel
theorem dX8_group_66 : decode cX8_group 66 = .ok (.istore_n 2, 1) := by decide +kernel
theorem dX8_group_67 : decode cX8_group 67 = .ok (.iinc 4 1, 3) := by decide +kernel
theorem dX8_group_70 : decode cX8_group 70 = .ok (.goto (-31), 3) := by decide +kernel
theorem dX8_group_73 : decode cX8_group 73 = .ok (.goto (-44), 3) := by decide +kernel
theorem dX8_group_76 : decode cX8_group 76 = .ok (.iload_n 2, 1) := by decide +kernel
theorem dX8_group_77 : decode cX8_group 77 = .ok (.ireturn, 1) := by decide +kernel
theorem dX8_ranked_0 : decode cX8_ranked 0 = .ok (.aload_n 0, 1) := by decide +kernel
theorem dX8_ranked_1 : decode cX8_ranked 1 = .ok (.aload_n 0, 1) := by decide +kernel
theorem dX8_ranked_2 : decode cX8_ranked 2 = .ok (.iload_n 1, 1) := by decide +kernel
theorem dX8_ranked_3 : decode cX8_ranked 3 = .ok (.invokevirtual 249, 3) := by decide +kernel
theorem dX8_ranked_6 : decode cX8_ranked 6 = .ok (.ifCond .ne 7, 3) := by decide +kernel
theorem dX8_ranked_9 : decode cX8_ranked 9 = .ok (.iconst 1, 1) := by decide +kernel
theorem dX8_ranked_10 : decode cX8_ranked 10 = .ok (.goto 15, 3) := by decide +kernel
theorem dX8_ranked_13 : decode cX8_ranked 13 = .ok (.iload_n 2, 1) := by decide +kernel
theorem dX8_ranked_14 : decode cX8_ranked 14 = .ok (.invokestatic 252, 3) := by decide +kernel
theorem dX8_ranked_17 : decode cX8_ranked 17 = .ok (.ifCond .ne 7, 3) := by decide +kernel
theorem dX8_ranked_20 : decode cX8_ranked 20 = .ok (.iconst 2, 1) := by decide +kernel
theorem dX8_ranked_21 : decode cX8_ranked 21 = .ok (.goto 4, 3) := by decide +kernel
theorem dX8_ranked_24 : decode cX8_ranked 24 = .ok (.iconst 0, 1) := by decide +kernel
theorem dX8_ranked_25 : decode cX8_ranked 25 = .ok (.putfield 87, 3) := by decide +kernel
theorem dX8_ranked_28 : decode cX8_ranked 28 = .ok (.aload_n 0, 1) := by decide +kernel
theorem dX8_ranked_29 : decode cX8_ranked 29 = .ok (.getfield 87, 3) := by decide +kernel
theorem dX8_ranked_32 : decode cX8_ranked 32 = .ok (.ifCond .le 5, 3) := by decide +kernel
theorem dX8_ranked_35 : decode cX8_ranked 35 = .ok (.iconst 0, 1) := by decide +kernel
theorem dX8_ranked_36 : decode cX8_ranked 36 = .ok (.ireturn, 1) := by decide +kernel
theorem dX8_ranked_37 : decode cX8_ranked 37 = .ok (.aload_n 0, 1) := by decide +kernel
theorem dX8_ranked_38 : decode cX8_ranked 38 = .ok (.iload_n 1, 1) := by decide +kernel
theorem dX8_ranked_39 : decode cX8_ranked 39 = .ok (.iload_n 2, 1) := by decide +kernel
theorem dX8_ranked_40 : decode cX8_ranked 40 = .ok (.invokevirtual 218, 3) := by decide +kernel
theorem dX8_ranked_43 : decode cX8_ranked 43 = .ok (.iload_n 3, 1) := by decide +kernel
theorem dX8_ranked_44 : decode cX8_ranked 44 = .ok (.iconst 0, 1) := by decide +kernel
theorem dX8_ranked_45 : decode cX8_ranked 45 = .ok (.aload_n 0, 1) := by decide +kernel
theorem dX8_ranked_46 : decode cX8_ranked 46 = .ok (.getfield 197, 3) := by decide +kernel
theorem dX8_ranked_49 : decode cX8_ranked 49 = .ok (.iconst 1, 1) := by decide +kernel
theorem dX8_ranked_50 : decode cX8_ranked 50 = .ok (.isub, 1) := by decide +kernel
theorem dX8_ranked_51 : decode cX8_ranked 51 = .ok (.invokestatic 94, 3) := by decide +kernel
theorem dX8_ranked_54 : decode cX8_ranked 54 = .ok (.ifCond .eq 12, 3) := by decide +kernel
theorem dX8_ranked_57 : decode cX8_ranked 57 = .ok (.aload_n 0, 1) := by decide +kernel
theorem dX8_ranked_58 : decode cX8_ranked 58 = .ok (.getfield 64, 3) := by decide +kernel
theorem dX8_ranked_61 : decode cX8_ranked 61 = .ok (.iload_n 3, 1) := by decide +kernel
theorem dX8_ranked_62 : decode cX8_ranked 62 = .ok (.iaload, 1) := by decide +kernel
theorem dX8_ranked_63 : decode cX8_ranked 63 = .ok (.goto 8, 3) := by decide +kernel
theorem dX8_ranked_66 : decode cX8_ranked 66 = .ok (.aload_n 0, 1) := by decide +kernel
theorem dX8_ranked_67 : decode cX8_ranked 67 = .ok (.iconst 1, 1) := by decide +kernel
theorem dX8_ranked_68 : decode cX8_ranked 68 = .ok (.invokevirtual 236, 3) := by decide +kernel
theorem dX8_ranked_71 : decode cX8_ranked 71 = .ok (.ireturn, 1) := by decide +kernel
theorem dX8_takesName_0 : decode cX8_takesName 0 = .ok (.aload_n 0, 1) := by decide +kernel
theorem dX8_takesName_1 : decode cX8_takesName 1 = .ok (.iconst 0, 1) := by decide +kernel
theorem dX8_takesName_2 : decode cX8_takesName 2 = .ok (.putfield 233, 3) := by decide +kernel
theorem dX8_takesName_5 : decode cX8_takesName 5 = .ok (.aload_n 0, 1) := by decide +kernel
theorem dX8_takesName_6 : decode cX8_takesName 6 = .ok (.iload_n 1, 1) := by decide +kernel
theorem dX8_takesName_7 : decode cX8_takesName 7 = .ok (.putfield 273, 3) := by decide +kernel
theorem dX8_takesName_10 : decode cX8_takesName 10 = .ok (.iload_n 1, 1) := by decide +kernel
theorem dX8_takesName_11 : decode cX8_takesName 11 = .ok (.iconst 1, 1) := by decide +kernel
theorem dX8_takesName_12 : decode cX8_takesName 12 = .ok (.bipush 10, 2) := by decide +kernel
theorem dX8_takesName_14 : decode cX8_takesName 14 = .ok (.invokestatic 94, 3) := by decide +kernel
theorem dX8_takesName_17 : decode cX8_takesName 17 = .ok (.ifCond .ne 5, 3) := by decide +kernel
theorem dX8_takesName_20 : decode cX8_takesName 20 = .ok (.iconst 0, 1) := by decide +kernel
theorem dX8_takesName_21 : decode cX8_takesName 21 = .ok (.ireturn, 1) := by decide +kernel
theorem dX8_takesName_22 : decode cX8_takesName 22 = .ok (.iconst 0, 1) := by decide +kernel
theorem dX8_takesName_23 : decode cX8_takesName 23 = .ok (.istore_n 2, 1) := by decide +kernel
theorem dX8_takesName_24 : decode cX8_takesName 24 = .ok (.iload_n 2, 1) := by decide +kernel
theorem dX8_takesName_25 : decode cX8_takesName 25 = .ok (.iload_n 1, 1) := by decide +kernel
theorem dX8_takesName_26 : decode cX8_takesName 26 = .ok (.if_icmp .ge 39, 3) := by decide +kernel
theorem dX8_takesName_29 : decode cX8_takesName 29 = .ok (.aload_n 0, 1) := by decide +kernel
theorem dX8_takesName_30 : decode cX8_takesName 30 = .ok (.getfield 76, 3) := by decide +kernel
theorem dX8_takesName_33 : decode cX8_takesName 33 = .ok (.iload_n 2, 1) := by decide +kernel
theorem dX8_takesName_34 : decode cX8_takesName 34 = .ok (.iaload, 1) := by decide +kernel
theorem dX8_takesName_35 : decode cX8_takesName 35 = .ok (.bipush 97, 2) := by decide +kernel
theorem dX8_takesName_37 : decode cX8_takesName 37 = .ok (.bipush 122, 2) := by decide +kernel
theorem dX8_takesName_39 : decode cX8_takesName 39 = .ok (.invokestatic 94, 3) := by decide +kernel
theorem dX8_takesName_42 : decode cX8_takesName 42 = .ok (.ifCond .ne 5, 3) := by decide +kernel
theorem dX8_takesName_45 : decode cX8_takesName 45 = .ok (.iconst 0, 1) := by decide +kernel
theorem dX8_takesName_46 : decode cX8_takesName 46 = .ok (.ireturn, 1) := by decide +kernel
theorem dX8_takesName_47 : decode cX8_takesName 47 = .ok (.aload_n 0, 1) := by decide +kernel
theorem dX8_takesName_48 : decode cX8_takesName 48 = .ok (.getfield 73, 3) := by decide +kernel
theorem dX8_takesName_51 : decode cX8_takesName 51 = .ok (.iload_n 2, 1) := by decide +kernel
theorem dX8_takesName_52 : decode cX8_takesName 52 = .ok (.aload_n 0, 1) := by decide +kernel
theorem dX8_takesName_53 : decode cX8_takesName 53 = .ok (.getfield 76, 3) := by decide +kernel
theorem dX8_takesName_56 : decode cX8_takesName 56 = .ok (.iload_n 2, 1) := by decide +kernel
theorem dX8_takesName_57 : decode cX8_takesName 57 = .ok (.iaload, 1) := by decide +kernel
theorem dX8_takesName_58 : decode cX8_takesName 58 = .ok (.iastore, 1) := by decide +kernel
theorem dX8_takesName_59 : decode cX8_takesName 59 = .ok (.iinc 2 1, 3) := by decide +kernel
theorem dX8_takesName_62 : decode cX8_takesName 62 = .ok (.goto (-38), 3) := by decide +kernel
theorem dX8_takesName_65 : decode cX8_takesName 65 = .ok (.iconst 1, 1) := by decide +kernel
theorem dX8_takesName_66 : decode cX8_takesName 66 = .ok (.ireturn, 1) := by decide +kernel
theorem dX8_adds_0 : decode cX8_adds 0 = .ok (.aload_n 0, 1) := by decide +kernel
theorem dX8_adds_1 : decode cX8_adds 1 = .ok (.invokevirtual 90, 3) := by decide +kernel
theorem dX8_adds_4 : decode cX8_adds 4 = .ok (.istore_n 3, 1) := by decide +kernel
theorem dX8_adds_5 : decode cX8_adds 5 = .ok (.iconst 0, 1) := by decide +kernel
theorem dX8_adds_6 : decode cX8_adds 6 = .ok (.istore 4, 2) := by decide +kernel
theorem dX8_adds_8 : decode cX8_adds 8 = .ok (.iload 4, 2) := by decide +kernel
theorem dX8_adds_10 : decode cX8_adds 10 = .ok (.bipush 51, 2) := by decide +kernel
theorem dX8_adds_12 : decode cX8_adds 12 = .ok (.if_icmp .ge 17, 3) := by decide +kernel
theorem dX8_adds_15 : decode cX8_adds 15 = .ok (.aload_n 0, 1) := by decide +kernel
theorem dX8_adds_16 : decode cX8_adds 16 = .ok (.iload_n 3, 1) := by decide +kernel
theorem dX8_adds_17 : decode cX8_adds 17 = .ok (.iload 4, 2) := by decide +kernel
theorem dX8_adds_19 : decode cX8_adds 19 = .ok (.iconst 0, 1) := by decide +kernel
theorem dX8_adds_20 : decode cX8_adds 20 = .ok (.invokevirtual 276, 3) := by decide +kernel
theorem dX8_adds_23 : decode cX8_adds 23 = .ok (.iinc 4 1, 3) := by decide +kernel
theorem dX8_adds_26 : decode cX8_adds 26 = .ok (.goto (-18), 3) := by decide +kernel
theorem dX8_adds_29 : decode cX8_adds 29 = .ok (.aload_n 0, 1) := by decide +kernel
theorem dX8_adds_30 : decode cX8_adds 30 = .ok (.iload_n 3, 1) := by decide +kernel
theorem dX8_adds_31 : decode cX8_adds 31 = .ok (.iconst 0, 1) := by decide +kernel
theorem dX8_adds_32 : decode cX8_adds 32 = .ok (.aload_n 0, 1) := by decide +kernel
theorem dX8_adds_33 : decode cX8_adds 33 = .ok (.getfield 273, 3) := by decide +kernel
theorem dX8_adds_36 : decode cX8_adds 36 = .ok (.invokevirtual 276, 3) := by decide +kernel
theorem dX8_adds_39 : decode cX8_adds 39 = .ok (.iconst 0, 1) := by decide +kernel
theorem dX8_adds_40 : decode cX8_adds 40 = .ok (.istore 4, 2) := by decide +kernel
theorem dX8_adds_42 : decode cX8_adds 42 = .ok (.iload 4, 2) := by decide +kernel
theorem dX8_adds_44 : decode cX8_adds 44 = .ok (.aload_n 0, 1) := by decide +kernel
theorem dX8_adds_45 : decode cX8_adds 45 = .ok (.getfield 273, 3) := by decide +kernel
theorem dX8_adds_48 : decode cX8_adds 48 = .ok (.if_icmp .ge 25, 3) := by decide +kernel
theorem dX8_adds_51 : decode cX8_adds 51 = .ok (.aload_n 0, 1) := by decide +kernel
theorem dX8_adds_52 : decode cX8_adds 52 = .ok (.iload_n 3, 1) := by decide +kernel
theorem dX8_adds_53 : decode cX8_adds 53 = .ok (.iconst 1, 1) := by decide +kernel
theorem dX8_adds_54 : decode cX8_adds 54 = .ok (.iload 4, 2) := by decide +kernel
theorem dX8_adds_56 : decode cX8_adds 56 = .ok (.iadd, 1) := by decide +kernel
theorem dX8_adds_57 : decode cX8_adds 57 = .ok (.aload_n 0, 1) := by decide +kernel
theorem dX8_adds_58 : decode cX8_adds 58 = .ok (.getfield 73, 3) := by decide +kernel
theorem dX8_adds_61 : decode cX8_adds 61 = .ok (.iload 4, 2) := by decide +kernel
theorem dX8_adds_63 : decode cX8_adds 63 = .ok (.iaload, 1) := by decide +kernel
theorem dX8_adds_64 : decode cX8_adds 64 = .ok (.invokevirtual 276, 3) := by decide +kernel
theorem dX8_adds_67 : decode cX8_adds 67 = .ok (.iinc 4 1, 3) := by decide +kernel
theorem dX8_adds_70 : decode cX8_adds 70 = .ok (.goto (-28), 3) := by decide +kernel
theorem dX8_adds_73 : decode cX8_adds 73 = .ok (.aload_n 0, 1) := by decide +kernel
theorem dX8_adds_74 : decode cX8_adds 74 = .ok (.iload_n 3, 1) := by decide +kernel
theorem dX8_adds_75 : decode cX8_adds 75 = .ok (.bipush 11, 2) := by decide +kernel
theorem dX8_adds_77 : decode cX8_adds 77 = .ok (.iload_n 1, 1) := by decide +kernel
theorem dX8_adds_78 : decode cX8_adds 78 = .ok (.invokevirtual 276, 3) := by decide +kernel
theorem dX8_adds_81 : decode cX8_adds 81 = .ok (.aload_n 0, 1) := by decide +kernel
theorem dX8_adds_82 : decode cX8_adds 82 = .ok (.iload_n 3, 1) := by decide +kernel
theorem dX8_adds_83 : decode cX8_adds 83 = .ok (.bipush 12, 2) := by decide +kernel
theorem dX8_adds_85 : decode cX8_adds 85 = .ok (.iload_n 2, 1) := by decide +kernel
theorem dX8_adds_86 : decode cX8_adds 86 = .ok (.invokevirtual 276, 3) := by decide +kernel
theorem dX8_adds_89 : decode cX8_adds 89 = .ok (.aload_n 0, 1) := by decide +kernel
theorem dX8_adds_90 : decode cX8_adds 90 = .ok (.getfield 9, 3) := by decide +kernel
theorem dX8_adds_93 : decode cX8_adds 93 = .ok (.iconst 1, 1) := by decide +kernel
theorem dX8_adds_94 : decode cX8_adds 94 = .ok (.dup2, 1) := by decide +kernel
theorem dX8_adds_95 : decode cX8_adds 95 = .ok (.iaload, 1) := by decide +kernel
theorem dX8_adds_96 : decode cX8_adds 96 = .ok (.iconst 1, 1) := by decide +kernel
theorem dX8_adds_97 : decode cX8_adds 97 = .ok (.iadd, 1) := by decide +kernel
theorem dX8_adds_98 : decode cX8_adds 98 = .ok (.iastore, 1) := by decide +kernel
theorem dX8_adds_99 : decode cX8_adds 99 = .ok (.aload_n 0, 1) := by decide +kernel
theorem dX8_adds_100 : decode cX8_adds 100 = .ok (.iconst 0, 1) := by decide +kernel
theorem dX8_adds_101 : decode cX8_adds 101 = .ok (.putfield 173, 3) := by decide +kernel
theorem dX8_adds_104 : decode cX8_adds 104 = .ok (.iload_n 3, 1) := by decide +kernel
theorem dX8_adds_105 : decode cX8_adds 105 = .ok (.ireturn, 1) := by decide +kernel
theorem dX8_goesAway_0 : decode cX8_goesAway 0 = .ok (.aload_n 0, 1) := by decide +kernel
theorem dX8_goesAway_1 : decode cX8_goesAway 1 = .ok (.getfield 9, 3) := by decide +kernel
theorem dX8_goesAway_4 : decode cX8_goesAway 4 = .ok (.iconst 1, 1) := by decide +kernel
theorem dX8_goesAway_5 : decode cX8_goesAway 5 = .ok (.dup2, 1) := by decide +kernel
theorem dX8_goesAway_6 : decode cX8_goesAway 6 = .ok (.iaload, 1) := by decide +kernel
theorem dX8_goesAway_7 : decode cX8_goesAway 7 = .ok (.iconst 1, 1) := by decide +kernel
theorem dX8_goesAway_8 : decode cX8_goesAway 8 = .ok (.isub, 1) := by decide +kernel
theorem dX8_goesAway_9 : decode cX8_goesAway 9 = .ok (.iastore, 1) := by decide +kernel
theorem dX8_goesAway_10 : decode cX8_goesAway 10 = .ok (.aload_n 0, 1) := by decide +kernel
theorem dX8_goesAway_11 : decode cX8_goesAway 11 = .ok (.iconst 0, 1) := by decide +kernel
theorem dX8_goesAway_12 : decode cX8_goesAway 12 = .ok (.putfield 173, 3) := by decide +kernel
theorem dX8_goesAway_15 : decode cX8_goesAway 15 = .ok (.return_, 1) := by decide +kernel
theorem dX8_leastReason_0 : decode cX8_leastReason 0 = .ok (.iconst (-1), 1) := by decide +kernel
theorem dX8_leastReason_1 : decode cX8_leastReason 1 = .ok (.istore_n 3, 1) := by decide +kernel
theorem dX8_leastReason_2 : decode cX8_leastReason 2 = .ok (.iconst 0, 1) := by decide +kernel
theorem dX8_leastReason_3 : decode cX8_leastReason 3 = .ok (.istore 4, 2) := by decide +kernel
theorem dX8_leastReason_5 : decode cX8_leastReason 5 = .ok (.iload 4, 2) := by decide +kernel
theorem dX8_leastReason_7 : decode cX8_leastReason 7 = .ok (.aload_n 0, 1) := by decide +kernel
theorem dX8_leastReason_8 : decode cX8_leastReason 8 = .ok (.invokevirtual 98, 3) := by decide +kernel
theorem dX8_leastReason_11 : decode cX8_leastReason 11 = .ok (.if_icmp .ge 48, 3) := by decide +kernel
theorem dX8_leastReason_14 : decode cX8_leastReason 14 = .ok (.aload_n 0, 1) := by decide +kernel
theorem dX8_leastReason_15 : decode cX8_leastReason 15 = .ok (.iload 4, 2) := by decide +kernel
theorem dX8_leastReason_17 : decode cX8_leastReason 17 = .ok (.iload_n 2, 1) := by decide +kernel
theorem dX8_leastReason_18 : decode cX8_leastReason 18 = .ok (.invokevirtual 218, 3) := by decide +kernel
theorem dX8_leastReason_21 : decode cX8_leastReason 21 = .ok (.aload_n 0, 1) := by decide +kernel
theorem dX8_leastReason_22 : decode cX8_leastReason 22 = .ok (.getfield 67, 3) := by decide +kernel
theorem dX8_leastReason_25 : decode cX8_leastReason 25 = .ok (.iload_n 1, 1) := by decide +kernel
theorem dX8_leastReason_26 : decode cX8_leastReason 26 = .ok (.iaload, 1) := by decide +kernel
theorem dX8_leastReason_27 : decode cX8_leastReason 27 = .ok (.iconst (-1), 1) := by decide +kernel
theorem dX8_leastReason_28 : decode cX8_leastReason 28 = .ok (.if_icmp .eq 25, 3) := by decide +kernel
theorem dX8_leastReason_31 : decode cX8_leastReason 31 = .ok (.iload_n 3, 1) := by decide +kernel
theorem dX8_leastReason_32 : decode cX8_leastReason 32 = .ok (.iconst (-1), 1) := by decide +kernel
theorem dX8_leastReason_33 : decode cX8_leastReason 33 = .ok (.if_icmp .eq 13, 3) := by decide +kernel
theorem dX8_leastReason_36 : decode cX8_leastReason 36 = .ok (.aload_n 0, 1) := by decide +kernel
theorem dX8_leastReason_37 : decode cX8_leastReason 37 = .ok (.getfield 67, 3) := by decide +kernel
theorem dX8_leastReason_40 : decode cX8_leastReason 40 = .ok (.iload_n 1, 1) := by decide +kernel
theorem dX8_leastReason_41 : decode cX8_leastReason 41 = .ok (.iaload, 1) := by decide +kernel
theorem dX8_leastReason_42 : decode cX8_leastReason 42 = .ok (.iload_n 3, 1) := by decide +kernel
theorem dX8_leastReason_43 : decode cX8_leastReason 43 = .ok (.if_icmp .ge 10, 3) := by decide +kernel
theorem dX8_leastReason_46 : decode cX8_leastReason 46 = .ok (.aload_n 0, 1) := by decide +kernel
theorem dX8_leastReason_47 : decode cX8_leastReason 47 = .ok (.getfield 67, 3) := by decide +kernel
theorem dX8_leastReason_50 : decode cX8_leastReason 50 = .ok (.iload_n 1, 1) := by decide +kernel
theorem dX8_leastReason_51 : decode cX8_leastReason 51 = .ok (.iaload, 1) := by decide +kernel
theorem dX8_leastReason_52 : decode cX8_leastReason 52 = .ok (.istore_n 3, 1) := by decide +kernel
theorem dX8_leastReason_53 : decode cX8_leastReason 53 = .ok (.iinc 4 1, 3) := by decide +kernel
theorem dX8_leastReason_56 : decode cX8_leastReason 56 = .ok (.goto (-51), 3) := by decide +kernel
theorem dX8_leastReason_59 : decode cX8_leastReason 59 = .ok (.iload_n 3, 1) := by decide +kernel
theorem dX8_leastReason_60 : decode cX8_leastReason 60 = .ok (.ireturn, 1) := by decide +kernel
theorem dX8_holdsAllOn_0 : decode cX8_holdsAllOn 0 = .ok (.aload_n 0, 1) := by decide +kernel
theorem dX8_holdsAllOn_1 : decode cX8_holdsAllOn 1 = .ok (.iload_n 1, 1) := by decide +kernel
theorem dX8_holdsAllOn_2 : decode cX8_holdsAllOn 2 = .ok (.bipush 12, 2) := by decide +kernel
theorem dX8_holdsAllOn_4 : decode cX8_holdsAllOn 4 = .ok (.iload_n 2, 1) := by decide +kernel
theorem dX8_holdsAllOn_5 : decode cX8_holdsAllOn 5 = .ok (.invokevirtual 276, 3) := by decide +kernel
theorem dX8_holdsAllOn_8 : decode cX8_holdsAllOn 8 = .ok (.aload_n 0, 1) := by decide +kernel
theorem dX8_holdsAllOn_9 : decode cX8_holdsAllOn 9 = .ok (.iload_n 1, 1) := by decide +kernel
theorem dX8_holdsAllOn_10 : decode cX8_holdsAllOn 10 = .ok (.iload_n 2, 1) := by decide +kernel
theorem dX8_holdsAllOn_11 : decode cX8_holdsAllOn 11 = .ok (.iconst 1, 1) := by decide +kernel
theorem dX8_holdsAllOn_12 : decode cX8_holdsAllOn 12 = .ok (.invokevirtual 255, 3) := by decide +kernel
theorem dX8_holdsAllOn_15 : decode cX8_holdsAllOn 15 = .ok (.aload_n 0, 1) := by decide +kernel
theorem dX8_holdsAllOn_16 : decode cX8_holdsAllOn 16 = .ok (.invokevirtual 280, 3) := by decide +kernel
theorem dX8_holdsAllOn_19 : decode cX8_holdsAllOn 19 = .ok (.if_icmp .ne 7, 3) := by decide +kernel
theorem dX8_holdsAllOn_22 : decode cX8_holdsAllOn 22 = .ok (.iconst 1, 1) := by decide +kernel
theorem dX8_holdsAllOn_23 : decode cX8_holdsAllOn 23 = .ok (.goto 4, 3) := by decide +kernel
theorem dX8_holdsAllOn_26 : decode cX8_holdsAllOn 26 = .ok (.iconst 0, 1) := by decide +kernel
theorem dX8_holdsAllOn_27 : decode cX8_holdsAllOn 27 = .ok (.ireturn, 1) := by decide +kernel
theorem dX8_firstFree_0 : decode cX8_firstFree 0 = .ok (.aload_n 0, 1) := by decide +kernel
theorem dX8_firstFree_1 : decode cX8_firstFree 1 = .ok (.invokevirtual 270, 3) := by decide +kernel
theorem dX8_firstFree_4 : decode cX8_firstFree 4 = .ok (.aload_n 0, 1) := by decide +kernel
theorem dX8_firstFree_5 : decode cX8_firstFree 5 = .ok (.iload_n 1, 1) := by decide +kernel
theorem dX8_firstFree_6 : decode cX8_firstFree 6 = .ok (.iload_n 2, 1) := by decide +kernel
theorem dX8_firstFree_7 : decode cX8_firstFree 7 = .ok (.invokevirtual 283, 3) := by decide +kernel
theorem dX8_firstFree_10 : decode cX8_firstFree 10 = .ok (.ifCond .eq 7, 3) := by decide +kernel
theorem dX8_firstFree_13 : decode cX8_firstFree 13 = .ok (.iload_n 2, 1) := by decide +kernel
theorem dX8_firstFree_14 : decode cX8_firstFree 14 = .ok (.goto 4, 3) := by decide +kernel
theorem dX8_firstFree_17 : decode cX8_firstFree 17 = .ok (.iconst (-1), 1) := by decide +kernel
theorem dX8_firstFree_18 : decode cX8_firstFree 18 = .ok (.istore_n 3, 1) := by decide +kernel
theorem dX8_firstFree_19 : decode cX8_firstFree 19 = .ok (.iconst 0, 1) := by decide +kernel
theorem dX8_firstFree_20 : decode cX8_firstFree 20 = .ok (.istore 4, 2) := by decide +kernel
theorem dX8_firstFree_22 : decode cX8_firstFree 22 = .ok (.iload 4, 2) := by decide +kernel
theorem dX8_firstFree_24 : decode cX8_firstFree 24 = .ok (.aload_n 0, 1) := by decide +kernel
theorem dX8_firstFree_25 : decode cX8_firstFree 25 = .ok (.getfield 264, 3) := by decide +kernel
theorem dX8_firstFree_28 : decode cX8_firstFree 28 = .ok (.if_icmp .ge 67, 3) := by decide +kernel
theorem dX8_firstFree_31 : decode cX8_firstFree 31 = .ok (.iload_n 3, 1) := by decide +kernel
theorem dX8_firstFree_32 : decode cX8_firstFree 32 = .ok (.iload_n 2, 1) := by decide +kernel
theorem dX8_firstFree_33 : decode cX8_firstFree 33 = .ok (.if_icmp .eq 62, 3) := by decide +kernel
theorem dX8_firstFree_36 : decode cX8_firstFree 36 = .ok (.aload_n 0, 1) := by decide +kernel
theorem dX8_firstFree_37 : decode cX8_firstFree 37 = .ok (.getfield 70, 3) := by decide +kernel
theorem dX8_firstFree_40 : decode cX8_firstFree 40 = .ok (.iload 4, 2) := by decide +kernel
theorem dX8_firstFree_42 : decode cX8_firstFree 42 = .ok (.iaload, 1) := by decide +kernel
theorem dX8_firstFree_43 : decode cX8_firstFree 43 = .ok (.iload_n 2, 1) := by decide +kernel
theorem dX8_firstFree_44 : decode cX8_firstFree 44 = .ok (.if_icmp .le 45, 3) := by decide +kernel
theorem dX8_firstFree_47 : decode cX8_firstFree 47 = .ok (.iload_n 3, 1) := by decide +kernel
theorem dX8_firstFree_48 : decode cX8_firstFree 48 = .ok (.iconst (-1), 1) := by decide +kernel
theorem dX8_firstFree_49 : decode cX8_firstFree 49 = .ok (.if_icmp .eq 17, 3) := by decide +kernel
theorem dX8_firstFree_52 : decode cX8_firstFree 52 = .ok (.aload_n 0, 1) := by decide +kernel
theorem dX8_firstFree_53 : decode cX8_firstFree 53 = .ok (.getfield 70, 3) := by decide +kernel
theorem dX8_firstFree_56 : decode cX8_firstFree 56 = .ok (.iload 4, 2) := by decide +kernel
theorem dX8_firstFree_58 : decode cX8_firstFree 58 = .ok (.iaload, 1) := by decide +kernel
theorem dX8_firstFree_59 : decode cX8_firstFree 59 = .ok (.iload_n 3, 1) := by decide +kernel
theorem dX8_firstFree_60 : decode cX8_firstFree 60 = .ok (.if_icmp .lt 6, 3) := by decide +kernel
theorem dX8_firstFree_63 : decode cX8_firstFree 63 = .ok (.goto 26, 3) := by decide +kernel
theorem dX8_firstFree_66 : decode cX8_firstFree 66 = .ok (.aload_n 0, 1) := by decide +kernel
theorem dX8_firstFree_67 : decode cX8_firstFree 67 = .ok (.iload_n 1, 1) := by decide +kernel
theorem dX8_firstFree_68 : decode cX8_firstFree 68 = .ok (.aload_n 0, 1) := by decide +kernel
theorem dX8_firstFree_69 : decode cX8_firstFree 69 = .ok (.getfield 70, 3) := by decide +kernel
theorem dX8_firstFree_72 : decode cX8_firstFree 72 = .ok (.iload 4, 2) := by decide +kernel
theorem dX8_firstFree_74 : decode cX8_firstFree 74 = .ok (.iaload, 1) := by decide +kernel
theorem dX8_firstFree_75 : decode cX8_firstFree 75 = .ok (.invokevirtual 283, 3) := by decide +kernel
theorem dX8_firstFree_78 : decode cX8_firstFree 78 = .ok (.ifCond .eq 11, 3) := by decide +kernel
theorem dX8_firstFree_81 : decode cX8_firstFree 81 = .ok (.aload_n 0, 1) := by decide +kernel
theorem dX8_firstFree_82 : decode cX8_firstFree 82 = .ok (.getfield 70, 3) := by decide +kernel
theorem dX8_firstFree_85 : decode cX8_firstFree 85 = .ok (.iload 4, 2) := by decide +kernel
theorem dX8_firstFree_87 : decode cX8_firstFree 87 = .ok (.iaload, 1) := by decide +kernel
theorem dX8_firstFree_88 : decode cX8_firstFree 88 = .ok (.istore_n 3, 1) := by decide +kernel
theorem dX8_firstFree_89 : decode cX8_firstFree 89 = .ok (.iinc 4 1, 3) := by decide +kernel
theorem dX8_firstFree_92 : decode cX8_firstFree 92 = .ok (.goto (-70), 3) := by decide +kernel
theorem dX8_firstFree_95 : decode cX8_firstFree 95 = .ok (.iload_n 3, 1) := by decide +kernel
theorem dX8_firstFree_96 : decode cX8_firstFree 96 = .ok (.ireturn, 1) := by decide +kernel
theorem dX8_would_0 : decode cX8_would 0 = .ok (.aload_n 0, 1) := by decide +kernel
theorem dX8_would_1 : decode cX8_would 1 = .ok (.iload 4, 2) := by decide +kernel
theorem dX8_would_3 : decode cX8_would 3 = .ok (.iconst 0, 1) := by decide +kernel
theorem dX8_would_4 : decode cX8_would 4 = .ok (.iconst 3, 1) := by decide +kernel
theorem dX8_would_5 : decode cX8_would 5 = .ok (.invokestatic 94, 3) := by decide +kernel
theorem dX8_would_8 : decode cX8_would 8 = .ok (.ifCond .ne 7, 3) := by decide +kernel
theorem dX8_would_11 : decode cX8_would 11 = .ok (.iconst 1, 1) := by decide +kernel
theorem dX8_would_12 : decode cX8_would 12 = .ok (.goto 38, 3) := by decide +kernel
theorem dX8_would_15 : decode cX8_would 15 = .ok (.iload_n 2, 1) := by decide +kernel
theorem dX8_would_16 : decode cX8_would 16 = .ok (.iconst 0, 1) := by decide +kernel
theorem dX8_would_17 : decode cX8_would 17 = .ok (.sipush 1023, 3) := by decide +kernel
theorem dX8_would_20 : decode cX8_would 20 = .ok (.invokestatic 94, 3) := by decide +kernel
theorem dX8_would_23 : decode cX8_would 23 = .ok (.ifCond .eq 22, 3) := by decide +kernel
theorem dX8_would_26 : decode cX8_would 26 = .ok (.iload_n 3, 1) := by decide +kernel
theorem dX8_would_27 : decode cX8_would 27 = .ok (.invokestatic 252, 3) := by decide +kernel
theorem dX8_would_30 : decode cX8_would 30 = .ok (.ifCond .eq 15, 3) := by decide +kernel
theorem dX8_would_33 : decode cX8_would 33 = .ok (.iload_n 1, 1) := by decide +kernel
theorem dX8_would_34 : decode cX8_would 34 = .ok (.iconst 0, 1) := by decide +kernel
theorem dX8_would_35 : decode cX8_would 35 = .ok (.aload_n 0, 1) := by decide +kernel
theorem dX8_would_36 : decode cX8_would 36 = .ok (.getfield 233, 3) := by decide +kernel
theorem dX8_would_39 : decode cX8_would 39 = .ok (.invokestatic 94, 3) := by decide +kernel
theorem dX8_would_42 : decode cX8_would 42 = .ok (.ifCond .ne 7, 3) := by decide +kernel
theorem dX8_would_45 : decode cX8_would 45 = .ok (.iconst 2, 1) := by decide +kernel
theorem dX8_would_46 : decode cX8_would 46 = .ok (.goto 4, 3) := by decide +kernel
theorem dX8_would_49 : decode cX8_would 49 = .ok (.iconst 0, 1) := by decide +kernel
theorem dX8_would_50 : decode cX8_would 50 = .ok (.putfield 87, 3) := by decide +kernel
theorem dX8_would_53 : decode cX8_would 53 = .ok (.aload_n 0, 1) := by decide +kernel
theorem dX8_would_54 : decode cX8_would 54 = .ok (.getfield 87, 3) := by decide +kernel
theorem dX8_would_57 : decode cX8_would 57 = .ok (.ifCond .le 5, 3) := by decide +kernel
theorem dX8_would_60 : decode cX8_would 60 = .ok (.iconst 0, 1) := by decide +kernel
theorem dX8_would_61 : decode cX8_would 61 = .ok (.ireturn, 1) := by decide +kernel
theorem dX8_would_62 : decode cX8_would 62 = .ok (.aload_n 0, 1) := by decide +kernel
theorem dX8_would_63 : decode cX8_would 63 = .ok (.iload_n 1, 1) := by decide +kernel
theorem dX8_would_64 : decode cX8_would 64 = .ok (.invokevirtual 286, 3) := by decide +kernel
theorem dX8_would_67 : decode cX8_would 67 = .ok (.ifCond .ne 7, 3) := by decide +kernel
theorem dX8_would_70 : decode cX8_would 70 = .ok (.ldc_w 289, 3) := by decide +kernel
theorem dX8_would_73 : decode cX8_would 73 = .ok (.ireturn, 1) := by decide +kernel
theorem dX8_would_74 : decode cX8_would 74 = .ok (.aload_n 0, 1) := by decide +kernel
theorem dX8_would_75 : decode cX8_would 75 = .ok (.iload_n 2, 1) := by decide +kernel
theorem dX8_would_76 : decode cX8_would 76 = .ok (.iload_n 3, 1) := by decide +kernel
theorem dX8_would_77 : decode cX8_would 77 = .ok (.invokevirtual 290, 3) := by decide +kernel
theorem dX8_would_80 : decode cX8_would 80 = .ok (.istore 5, 2) := by decide +kernel
theorem dX8_would_82 : decode cX8_would 82 = .ok (.iconst 0, 1) := by decide +kernel
theorem dX8_would_83 : decode cX8_would 83 = .ok (.istore 6, 2) := by decide +kernel
theorem dX8_would_85 : decode cX8_would 85 = .ok (.iload 4, 2) := by decide +kernel
theorem dX8_would_87 : decode cX8_would 87 = .ok (.tableswitch 66 0 2 #[25, 38, 50], 25) := by decide +kernel
theorem dX8_would_112 : decode cX8_would 112 = .ok (.aload_n 0, 1) := by decide +kernel
theorem dX8_would_113 : decode cX8_would 113 = .ok (.iload 5, 2) := by decide +kernel
theorem dX8_would_115 : decode cX8_would 115 = .ok (.iload_n 3, 1) := by decide +kernel
theorem dX8_would_116 : decode cX8_would 116 = .ok (.iconst 1, 1) := by decide +kernel
theorem dX8_would_117 : decode cX8_would 117 = .ok (.invokevirtual 255, 3) := by decide +kernel
theorem dX8_would_120 : decode cX8_would 120 = .ok (.istore 6, 2) := by decide +kernel
theorem dX8_would_122 : decode cX8_would 122 = .ok (.goto 40, 3) := by decide +kernel
theorem dX8_would_125 : decode cX8_would 125 = .ok (.aload_n 0, 1) := by decide +kernel
theorem dX8_would_126 : decode cX8_would 126 = .ok (.iload 5, 2) := by decide +kernel
theorem dX8_would_128 : decode cX8_would 128 = .ok (.iload_n 3, 1) := by decide +kernel
theorem dX8_would_129 : decode cX8_would 129 = .ok (.invokevirtual 293, 3) := by decide +kernel
theorem dX8_would_132 : decode cX8_would 132 = .ok (.istore 6, 2) := by decide +kernel
theorem dX8_would_134 : decode cX8_would 134 = .ok (.goto 28, 3) := by decide +kernel
theorem dX8_would_137 : decode cX8_would 137 = .ok (.aload_n 0, 1) := by decide +kernel
theorem dX8_would_138 : decode cX8_would 138 = .ok (.invokevirtual 206, 3) := by decide +kernel
theorem dX8_would_141 : decode cX8_would 141 = .ok (.aload_n 0, 1) := by decide +kernel
theorem dX8_would_142 : decode cX8_would 142 = .ok (.getfield 49, 3) := by decide +kernel
theorem dX8_would_145 : decode cX8_would 145 = .ok (.iload 5, 2) := by decide +kernel
theorem dX8_would_147 : decode cX8_would 147 = .ok (.iaload, 1) := by decide +kernel
theorem dX8_would_148 : decode cX8_would 148 = .ok (.istore 6, 2) := by decide +kernel
theorem dX8_would_150 : decode cX8_would 150 = .ok (.goto 12, 3) := by decide +kernel
theorem dX8_would_153 : decode cX8_would 153 = .ok (.aload_n 0, 1) := by decide +kernel
theorem dX8_would_154 : decode cX8_would 154 = .ok (.iload 5, 2) := by decide +kernel
theorem dX8_would_156 : decode cX8_would 156 = .ok (.iload_n 3, 1) := by decide +kernel
theorem dX8_would_157 : decode cX8_would 157 = .ok (.invokevirtual 296, 3) := by decide +kernel
theorem dX8_would_160 : decode cX8_would 160 = .ok (.istore 6, 2) := by decide +kernel
theorem dX8_would_162 : decode cX8_would 162 = .ok (.aload_n 0, 1) := by decide +kernel
theorem dX8_would_163 : decode cX8_would 163 = .ok (.invokevirtual 299, 3) := by decide +kernel
theorem dX8_would_166 : decode cX8_would 166 = .ok (.iload 6, 2) := by decide +kernel
theorem dX8_would_168 : decode cX8_would 168 = .ok (.ireturn, 1) := by decide +kernel
theorem dX8_free_0 : decode cX8_free 0 = .ok (.aload_n 0, 1) := by decide +kernel
theorem dX8_free_1 : decode cX8_free 1 = .ok (.iload_n 2, 1) := by decide +kernel
theorem dX8_free_2 : decode cX8_free 2 = .ok (.invokestatic 252, 3) := by decide +kernel
theorem dX8_free_5 : decode cX8_free 5 = .ok (.ifCond .eq 15, 3) := by decide +kernel
theorem dX8_free_8 : decode cX8_free 8 = .ok (.iload_n 1, 1) := by decide +kernel
theorem dX8_free_9 : decode cX8_free 9 = .ok (.iconst 0, 1) := by decide +kernel
theorem dX8_free_10 : decode cX8_free 10 = .ok (.aload_n 0, 1) := by decide +kernel
theorem dX8_free_11 : decode cX8_free 11 = .ok (.getfield 233, 3) := by decide +kernel
theorem dX8_free_14 : decode cX8_free 14 = .ok (.invokestatic 94, 3) := by decide +kernel
theorem dX8_free_17 : decode cX8_free 17 = .ok (.ifCond .ne 7, 3) := by decide +kernel
theorem dX8_free_20 : decode cX8_free 20 = .ok (.iconst 1, 1) := by decide +kernel
theorem dX8_free_21 : decode cX8_free 21 = .ok (.goto 4, 3) := by decide +kernel
theorem dX8_free_24 : decode cX8_free 24 = .ok (.iconst 0, 1) := by decide +kernel
theorem dX8_free_25 : decode cX8_free 25 = .ok (.putfield 87, 3) := by decide +kernel
theorem dX8_free_28 : decode cX8_free 28 = .ok (.aload_n 0, 1) := by decide +kernel
theorem dX8_free_29 : decode cX8_free 29 = .ok (.getfield 87, 3) := by decide +kernel
theorem dX8_free_32 : decode cX8_free 32 = .ok (.ifCond .le 5, 3) := by decide +kernel
theorem dX8_free_35 : decode cX8_free 35 = .ok (.iconst 0, 1) := by decide +kernel
theorem dX8_free_36 : decode cX8_free 36 = .ok (.ireturn, 1) := by decide +kernel
theorem dX8_free_37 : decode cX8_free 37 = .ok (.aload_n 0, 1) := by decide +kernel
theorem dX8_free_38 : decode cX8_free 38 = .ok (.iload_n 1, 1) := by decide +kernel
theorem dX8_free_39 : decode cX8_free 39 = .ok (.invokevirtual 286, 3) := by decide +kernel
theorem dX8_free_42 : decode cX8_free 42 = .ok (.ifCond .ne 7, 3) := by decide +kernel
theorem dX8_free_45 : decode cX8_free 45 = .ok (.ldc_w 289, 3) := by decide +kernel
theorem dX8_free_48 : decode cX8_free 48 = .ok (.ireturn, 1) := by decide +kernel
theorem dX8_free_49 : decode cX8_free 49 = .ok (.iconst 0, 1) := by decide +kernel
theorem dX8_free_50 : decode cX8_free 50 = .ok (.istore_n 3, 1) := by decide +kernel
theorem dX8_free_51 : decode cX8_free 51 = .ok (.iconst 0, 1) := by decide +kernel
theorem dX8_free_52 : decode cX8_free 52 = .ok (.istore 4, 2) := by decide +kernel
theorem dX8_free_54 : decode cX8_free 54 = .ok (.iload 4, 2) := by decide +kernel
theorem dX8_free_56 : decode cX8_free 56 = .ok (.bipush 10, 2) := by decide +kernel
theorem dX8_free_58 : decode cX8_free 58 = .ok (.if_icmp .ge 46, 3) := by decide +kernel
theorem dX8_free_61 : decode cX8_free 61 = .ok (.aload_n 0, 1) := by decide +kernel
theorem dX8_free_62 : decode cX8_free 62 = .ok (.iconst 1, 1) := by decide +kernel
theorem dX8_free_63 : decode cX8_free 63 = .ok (.iload 4, 2) := by decide +kernel
theorem dX8_free_65 : decode cX8_free 65 = .ok (.ishl, 1) := by decide +kernel
theorem dX8_free_66 : decode cX8_free 66 = .ok (.iload_n 2, 1) := by decide +kernel
theorem dX8_free_67 : decode cX8_free 67 = .ok (.invokevirtual 290, 3) := by decide +kernel
theorem dX8_free_70 : decode cX8_free 70 = .ok (.istore 5, 2) := by decide +kernel
theorem dX8_free_72 : decode cX8_free 72 = .ok (.aload_n 0, 1) := by decide +kernel
theorem dX8_free_73 : decode cX8_free 73 = .ok (.iload 5, 2) := by decide +kernel
theorem dX8_free_75 : decode cX8_free 75 = .ok (.iload_n 2, 1) := by decide +kernel
theorem dX8_free_76 : decode cX8_free 76 = .ok (.iconst 1, 1) := by decide +kernel
theorem dX8_free_77 : decode cX8_free 77 = .ok (.invokevirtual 255, 3) := by decide +kernel
theorem dX8_free_80 : decode cX8_free 80 = .ok (.aload_n 0, 1) := by decide +kernel
theorem dX8_free_81 : decode cX8_free 81 = .ok (.invokevirtual 280, 3) := by decide +kernel
theorem dX8_free_84 : decode cX8_free 84 = .ok (.if_icmp .ne 10, 3) := by decide +kernel
theorem dX8_free_87 : decode cX8_free 87 = .ok (.iload_n 3, 1) := by decide +kernel
theorem dX8_free_88 : decode cX8_free 88 = .ok (.iconst 1, 1) := by decide +kernel
theorem dX8_free_89 : decode cX8_free 89 = .ok (.iload 4, 2) := by decide +kernel
theorem dX8_free_91 : decode cX8_free 91 = .ok (.ishl, 1) := by decide +kernel
theorem dX8_free_92 : decode cX8_free 92 = .ok (.ior, 1) := by decide +kernel
theorem dX8_free_93 : decode cX8_free 93 = .ok (.istore_n 3, 1) := by decide +kernel
theorem dX8_free_94 : decode cX8_free 94 = .ok (.aload_n 0, 1) := by decide +kernel
theorem dX8_free_95 : decode cX8_free 95 = .ok (.invokevirtual 299, 3) := by decide +kernel
theorem dX8_free_98 : decode cX8_free 98 = .ok (.iinc 4 1, 3) := by decide +kernel
theorem dX8_free_101 : decode cX8_free 101 = .ok (.goto (-47), 3) := by decide +kernel
theorem dX8_free_104 : decode cX8_free 104 = .ok (.iload_n 3, 1) := by decide +kernel
theorem dX8_free_105 : decode cX8_free 105 = .ok (.ireturn, 1) := by decide +kernel
theorem dX8_holdsWhereRight_0 : decode cX8_holdsWhereRight 0 = .ok (.aload_n 0, 1) := by decide +kernel
theorem dX8_holdsWhereRight_1 : decode cX8_holdsWhereRight 1 = .ok (.iload_n 1, 1) := by decide +kernel
theorem dX8_holdsWhereRight_2 : decode cX8_holdsWhereRight 2 = .ok (.iload_n 2, 1) := by decide +kernel
theorem dX8_holdsWhereRight_3 : decode cX8_holdsWhereRight 3 = .ok (.iconst 0, 1) := by decide +kernel
theorem dX8_holdsWhereRight_4 : decode cX8_holdsWhereRight 4 = .ok (.invokevirtual 255, 3) := by decide +kernel
theorem dX8_holdsWhereRight_7 : decode cX8_holdsWhereRight 7 = .ok (.aload_n 0, 1) := by decide +kernel
theorem dX8_holdsWhereRight_8 : decode cX8_holdsWhereRight 8 = .ok (.iload_n 1, 1) := by decide +kernel
theorem dX8_holdsWhereRight_9 : decode cX8_holdsWhereRight 9 = .ok (.iload_n 2, 1) := by decide +kernel
theorem dX8_holdsWhereRight_10 : decode cX8_holdsWhereRight 10 = .ok (.iconst 1, 1) := by decide +kernel
theorem dX8_holdsWhereRight_11 : decode cX8_holdsWhereRight 11 = .ok (.invokevirtual 255, 3) := by decide +kernel
theorem dX8_holdsWhereRight_14 : decode cX8_holdsWhereRight 14 = .ok (.if_icmp .ne 7, 3) := by decide +kernel
theorem dX8_holdsWhereRight_17 : decode cX8_holdsWhereRight 17 = .ok (.iconst 1, 1) := by decide +kernel
theorem dX8_holdsWhereRight_18 : decode cX8_holdsWhereRight 18 = .ok (.goto 4, 3) := by decide +kernel
theorem dX8_holdsWhereRight_21 : decode cX8_holdsWhereRight 21 = .ok (.iconst 0, 1) := by decide +kernel
theorem dX8_holdsWhereRight_22 : decode cX8_holdsWhereRight 22 = .ok (.ireturn, 1) := by decide +kernel
theorem dX8_letterFor_0 : decode cX8_letterFor 0 = .ok (.aload_n 0, 1) := by decide +kernel
theorem dX8_letterFor_1 : decode cX8_letterFor 1 = .ok (.aload_n 0, 1) := by decide +kernel
theorem dX8_letterFor_2 : decode cX8_letterFor 2 = .ok (.iload_n 1, 1) := by decide +kernel
theorem dX8_letterFor_3 : decode cX8_letterFor 3 = .ok (.invokevirtual 239, 3) := by decide +kernel
theorem dX8_letterFor_6 : decode cX8_letterFor 6 = .ok (.ifCond .ne 7, 3) := by decide +kernel
theorem dX8_letterFor_9 : decode cX8_letterFor 9 = .ok (.iconst 1, 1) := by decide +kernel
theorem dX8_letterFor_10 : decode cX8_letterFor 10 = .ok (.goto 15, 3) := by decide +kernel
theorem dX8_letterFor_13 : decode cX8_letterFor 13 = .ok (.iload_n 2, 1) := by decide +kernel
theorem dX8_letterFor_14 : decode cX8_letterFor 14 = .ok (.invokestatic 252, 3) := by decide +kernel
theorem dX8_letterFor_17 : decode cX8_letterFor 17 = .ok (.ifCond .ne 7, 3) := by decide +kernel
theorem dX8_letterFor_20 : decode cX8_letterFor 20 = .ok (.iconst 2, 1) := by decide +kernel
theorem dX8_letterFor_21 : decode cX8_letterFor 21 = .ok (.goto 4, 3) := by decide +kernel
theorem dX8_letterFor_24 : decode cX8_letterFor 24 = .ok (.iconst 0, 1) := by decide +kernel
theorem dX8_letterFor_25 : decode cX8_letterFor 25 = .ok (.putfield 87, 3) := by decide +kernel
theorem dX8_letterFor_28 : decode cX8_letterFor 28 = .ok (.aload_n 0, 1) := by decide +kernel
theorem dX8_letterFor_29 : decode cX8_letterFor 29 = .ok (.getfield 87, 3) := by decide +kernel
theorem dX8_letterFor_32 : decode cX8_letterFor 32 = .ok (.ifCond .le 5, 3) := by decide +kernel
theorem dX8_letterFor_35 : decode cX8_letterFor 35 = .ok (.iconst 0, 1) := by decide +kernel
theorem dX8_letterFor_36 : decode cX8_letterFor 36 = .ok (.ireturn, 1) := by decide +kernel
theorem dX8_letterFor_37 : decode cX8_letterFor 37 = .ok (.iconst (-1), 1) := by decide +kernel
theorem dX8_letterFor_38 : decode cX8_letterFor 38 = .ok (.istore_n 3, 1) := by decide +kernel
theorem dX8_letterFor_39 : decode cX8_letterFor 39 = .ok (.aload_n 0, 1) := by decide +kernel
theorem dX8_letterFor_40 : decode cX8_letterFor 40 = .ok (.iload_n 1, 1) := by decide +kernel
theorem dX8_letterFor_41 : decode cX8_letterFor 41 = .ok (.iload_n 2, 1) := by decide +kernel
theorem dX8_letterFor_42 : decode cX8_letterFor 42 = .ok (.invokevirtual 302, 3) := by decide +kernel
theorem dX8_letterFor_45 : decode cX8_letterFor 45 = .ok (.istore 4, 2) := by decide +kernel
theorem dX8_letterFor_47 : decode cX8_letterFor 47 = .ok (.iconst 0, 1) := by decide +kernel
theorem dX8_letterFor_48 : decode cX8_letterFor 48 = .ok (.istore 5, 2) := by decide +kernel
theorem dX8_letterFor_50 : decode cX8_letterFor 50 = .ok (.iload 5, 2) := by decide +kernel
theorem dX8_letterFor_52 : decode cX8_letterFor 52 = .ok (.aload_n 0, 1) := by decide +kernel
theorem dX8_letterFor_53 : decode cX8_letterFor 53 = .ok (.iload_n 1, 1) := by decide +kernel
theorem dX8_letterFor_54 : decode cX8_letterFor 54 = .ok (.iconst 0, 1) := by decide +kernel
theorem dX8_letterFor_55 : decode cX8_letterFor 55 = .ok (.invokevirtual 101, 3) := by decide +kernel
theorem dX8_letterFor_58 : decode cX8_letterFor 58 = .ok (.if_icmp .ge 117, 3) := by decide +kernel
theorem dX8_letterFor_61 : decode cX8_letterFor 61 = .ok (.iload 4, 2) := by decide +kernel
theorem dX8_letterFor_63 : decode cX8_letterFor 63 = .ok (.ifCond .ne 112, 3) := by decide +kernel
theorem dX8_letterFor_66 : decode cX8_letterFor 66 = .ok (.iload_n 3, 1) := by decide +kernel
theorem dX8_letterFor_67 : decode cX8_letterFor 67 = .ok (.iconst (-1), 1) := by decide +kernel
theorem dX8_letterFor_68 : decode cX8_letterFor 68 = .ok (.if_icmp .ne 107, 3) := by decide +kernel
theorem dX8_letterFor_71 : decode cX8_letterFor 71 = .ok (.aload_n 0, 1) := by decide +kernel
theorem dX8_letterFor_72 : decode cX8_letterFor 72 = .ok (.iload_n 1, 1) := by decide +kernel
theorem dX8_letterFor_73 : decode cX8_letterFor 73 = .ok (.iconst 1, 1) := by decide +kernel
theorem dX8_letterFor_74 : decode cX8_letterFor 74 = .ok (.iload 5, 2) := by decide +kernel
theorem dX8_letterFor_76 : decode cX8_letterFor 76 = .ok (.iadd, 1) := by decide +kernel
theorem dX8_letterFor_77 : decode cX8_letterFor 77 = .ok (.invokevirtual 101, 3) := by decide +kernel
theorem dX8_letterFor_80 : decode cX8_letterFor 80 = .ok (.istore 6, 2) := by decide +kernel
theorem dX8_letterFor_82 : decode cX8_letterFor 82 = .ok (.iconst 0, 1) := by decide +kernel
theorem dX8_letterFor_83 : decode cX8_letterFor 83 = .ok (.istore 7, 2) := by decide +kernel
theorem dX8_letterFor_85 : decode cX8_letterFor 85 = .ok (.iload 7, 2) := by decide +kernel
theorem dX8_letterFor_87 : decode cX8_letterFor 87 = .ok (.bipush 26, 2) := by decide +kernel
theorem dX8_letterFor_89 : decode cX8_letterFor 89 = .ok (.if_icmp .ge 64, 3) := by decide +kernel
theorem dX8_letterFor_92 : decode cX8_letterFor 92 = .ok (.iload_n 3, 1) := by decide +kernel
theorem dX8_letterFor_93 : decode cX8_letterFor 93 = .ok (.iconst (-1), 1) := by decide +kernel
theorem dX8_letterFor_94 : decode cX8_letterFor 94 = .ok (.if_icmp .ne 59, 3) := by decide +kernel
theorem dX8_letterFor_97 : decode cX8_letterFor 97 = .ok (.bipush 97, 2) := by decide +kernel
theorem dX8_letterFor_99 : decode cX8_letterFor 99 = .ok (.iload 7, 2) := by decide +kernel
theorem dX8_letterFor_101 : decode cX8_letterFor 101 = .ok (.iadd, 1) := by decide +kernel
theorem dX8_letterFor_102 : decode cX8_letterFor 102 = .ok (.iload 6, 2) := by decide +kernel
theorem dX8_letterFor_104 : decode cX8_letterFor 104 = .ok (.if_icmp .ne 6, 3) := by decide +kernel
theorem dX8_letterFor_107 : decode cX8_letterFor 107 = .ok (.goto 40, 3) := by decide +kernel
theorem dX8_letterFor_110 : decode cX8_letterFor 110 = .ok (.aload_n 0, 1) := by decide +kernel
theorem dX8_letterFor_111 : decode cX8_letterFor 111 = .ok (.iload_n 1, 1) := by decide +kernel
theorem dX8_letterFor_112 : decode cX8_letterFor 112 = .ok (.iconst 1, 1) := by decide +kernel
theorem dX8_letterFor_113 : decode cX8_letterFor 113 = .ok (.iload 5, 2) := by decide +kernel
theorem dX8_letterFor_115 : decode cX8_letterFor 115 = .ok (.iadd, 1) := by decide +kernel
theorem dX8_letterFor_116 : decode cX8_letterFor 116 = .ok (.bipush 97, 2) := by decide +kernel
theorem dX8_letterFor_118 : decode cX8_letterFor 118 = .ok (.iload 7, 2) := by decide +kernel
theorem dX8_letterFor_120 : decode cX8_letterFor 120 = .ok (.iadd, 1) := by decide +kernel
theorem dX8_letterFor_121 : decode cX8_letterFor 121 = .ok (.invokevirtual 276, 3) := by decide +kernel
theorem dX8_letterFor_124 : decode cX8_letterFor 124 = .ok (.aload_n 0, 1) := by decide +kernel
theorem dX8_letterFor_125 : decode cX8_letterFor 125 = .ok (.iconst 0, 1) := by decide +kernel
theorem dX8_letterFor_126 : decode cX8_letterFor 126 = .ok (.putfield 173, 3) := by decide +kernel
theorem dX8_letterFor_129 : decode cX8_letterFor 129 = .ok (.aload_n 0, 1) := by decide +kernel
theorem dX8_letterFor_130 : decode cX8_letterFor 130 = .ok (.iload_n 1, 1) := by decide +kernel
theorem dX8_letterFor_131 : decode cX8_letterFor 131 = .ok (.iload_n 2, 1) := by decide +kernel
theorem dX8_letterFor_132 : decode cX8_letterFor 132 = .ok (.invokevirtual 302, 3) := by decide +kernel
theorem dX8_letterFor_135 : decode cX8_letterFor 135 = .ok (.ifCond .eq 12, 3) := by decide +kernel
theorem dX8_letterFor_138 : decode cX8_letterFor 138 = .ok (.bipush 26, 2) := by decide +kernel
theorem dX8_letterFor_140 : decode cX8_letterFor 140 = .ok (.iload 5, 2) := by decide +kernel
theorem dX8_letterFor_142 : decode cX8_letterFor 142 = .ok (.imul, 1) := by decide +kernel
theorem dX8_letterFor_143 : decode cX8_letterFor 143 = .ok (.iload 7, 2) := by decide +kernel
theorem dX8_letterFor_145 : decode cX8_letterFor 145 = .ok (.iadd, 1) := by decide +kernel
theorem dX8_letterFor_146 : decode cX8_letterFor 146 = .ok (.istore_n 3, 1) := by decide +kernel
theorem dX8_letterFor_147 : decode cX8_letterFor 147 = .ok (.iinc 7 1, 3) := by decide +kernel
theorem dX8_letterFor_150 : decode cX8_letterFor 150 = .ok (.goto (-65), 3) := by decide +kernel
theorem dX8_letterFor_153 : decode cX8_letterFor 153 = .ok (.aload_n 0, 1) := by decide +kernel
theorem dX8_letterFor_154 : decode cX8_letterFor 154 = .ok (.iload_n 1, 1) := by decide +kernel
theorem dX8_letterFor_155 : decode cX8_letterFor 155 = .ok (.iconst 1, 1) := by decide +kernel
theorem dX8_letterFor_156 : decode cX8_letterFor 156 = .ok (.iload 5, 2) := by decide +kernel
theorem dX8_letterFor_158 : decode cX8_letterFor 158 = .ok (.iadd, 1) := by decide +kernel
theorem dX8_letterFor_159 : decode cX8_letterFor 159 = .ok (.iload 6, 2) := by decide +kernel
theorem dX8_letterFor_161 : decode cX8_letterFor 161 = .ok (.invokevirtual 276, 3) := by decide +kernel
theorem dX8_letterFor_164 : decode cX8_letterFor 164 = .ok (.aload_n 0, 1) := by decide +kernel
theorem dX8_letterFor_165 : decode cX8_letterFor 165 = .ok (.iconst 0, 1) := by decide +kernel
theorem dX8_letterFor_166 : decode cX8_letterFor 166 = .ok (.putfield 173, 3) := by decide +kernel
theorem dX8_letterFor_169 : decode cX8_letterFor 169 = .ok (.iinc 5 1, 3) := by decide +kernel
theorem dX8_letterFor_172 : decode cX8_letterFor 172 = .ok (.goto (-122), 3) := by decide +kernel
theorem dX8_letterFor_175 : decode cX8_letterFor 175 = .ok (.iload_n 3, 1) := by decide +kernel
theorem dX8_letterFor_176 : decode cX8_letterFor 176 = .ok (.ireturn, 1) := by decide +kernel
theorem dX8_keep_0 : decode cX8_keep 0 = .ok (.aload_n 0, 1) := by decide +kernel
theorem dX8_keep_1 : decode cX8_keep 1 = .ok (.getfield 230, 3) := by decide +kernel
theorem dX8_keep_4 : decode cX8_keep 4 = .ok (.bipush 12, 2) := by decide +kernel
theorem dX8_keep_6 : decode cX8_keep 6 = .ok (.if_icmp .ne 46, 3) := by decide +kernel
theorem dX8_keep_9 : decode cX8_keep 9 = .ok (.sipush 681, 3) := by decide +kernel
theorem dX8_keep_12 : decode cX8_keep 12 = .ok (.istore_n 1, 1) := by decide +kernel
theorem dX8_keep_13 : decode cX8_keep 13 = .ok (.iload_n 1, 1) := by decide +kernel
theorem dX8_keep_14 : decode cX8_keep 14 = .ok (.sipush 8172, 3) := by decide +kernel
theorem dX8_keep_17 : decode cX8_keep 17 = .ok (.if_icmp .ge 25, 3) := by decide +kernel
theorem dX8_keep_20 : decode cX8_keep 20 = .ok (.aload_n 0, 1) := by decide +kernel
theorem dX8_keep_21 : decode cX8_keep 21 = .ok (.getfield 19, 3) := by decide +kernel
theorem dX8_keep_24 : decode cX8_keep 24 = .ok (.iload_n 1, 1) := by decide +kernel
theorem dX8_keep_25 : decode cX8_keep 25 = .ok (.sipush 681, 3) := by decide +kernel
theorem dX8_keep_28 : decode cX8_keep 28 = .ok (.isub, 1) := by decide +kernel
theorem dX8_keep_29 : decode cX8_keep 29 = .ok (.aload_n 0, 1) := by decide +kernel
theorem dX8_keep_30 : decode cX8_keep 30 = .ok (.getfield 19, 3) := by decide +kernel
theorem dX8_keep_33 : decode cX8_keep 33 = .ok (.iload_n 1, 1) := by decide +kernel
theorem dX8_keep_34 : decode cX8_keep 34 = .ok (.iaload, 1) := by decide +kernel
theorem dX8_keep_35 : decode cX8_keep 35 = .ok (.iastore, 1) := by decide +kernel
theorem dX8_keep_36 : decode cX8_keep 36 = .ok (.iinc 1 1, 3) := by decide +kernel
theorem dX8_keep_39 : decode cX8_keep 39 = .ok (.goto (-26), 3) := by decide +kernel
theorem dX8_keep_42 : decode cX8_keep 42 = .ok (.aload_n 0, 1) := by decide +kernel
theorem dX8_keep_43 : decode cX8_keep 43 = .ok (.dup, 1) := by decide +kernel
theorem dX8_keep_44 : decode cX8_keep 44 = .ok (.getfield 230, 3) := by decide +kernel
theorem dX8_keep_47 : decode cX8_keep 47 = .ok (.iconst 1, 1) := by decide +kernel
theorem dX8_keep_48 : decode cX8_keep 48 = .ok (.isub, 1) := by decide +kernel
theorem dX8_keep_49 : decode cX8_keep 49 = .ok (.putfield 230, 3) := by decide +kernel
theorem dX8_keep_52 : decode cX8_keep 52 = .ok (.iconst 0, 1) := by decide +kernel
theorem dX8_keep_53 : decode cX8_keep 53 = .ok (.istore_n 1, 1) := by decide +kernel
theorem dX8_keep_54 : decode cX8_keep 54 = .ok (.iload_n 1, 1) := by decide +kernel
theorem dX8_keep_55 : decode cX8_keep 55 = .ok (.sipush 681, 3) := by decide +kernel
theorem dX8_keep_58 : decode cX8_keep 58 = .ok (.if_icmp .ge 30, 3) := by decide +kernel
theorem dX8_keep_61 : decode cX8_keep 61 = .ok (.aload_n 0, 1) := by decide +kernel
theorem dX8_keep_62 : decode cX8_keep 62 = .ok (.getfield 19, 3) := by decide +kernel
theorem dX8_keep_65 : decode cX8_keep 65 = .ok (.sipush 681, 3) := by decide +kernel
theorem dX8_keep_68 : decode cX8_keep 68 = .ok (.aload_n 0, 1) := by decide +kernel
theorem dX8_keep_69 : decode cX8_keep 69 = .ok (.getfield 230, 3) := by decide +kernel
theorem dX8_keep_72 : decode cX8_keep 72 = .ok (.imul, 1) := by decide +kernel
theorem dX8_keep_73 : decode cX8_keep 73 = .ok (.iload_n 1, 1) := by decide +kernel
theorem dX8_keep_74 : decode cX8_keep 74 = .ok (.iadd, 1) := by decide +kernel
theorem dX8_keep_75 : decode cX8_keep 75 = .ok (.aload_n 0, 1) := by decide +kernel
theorem dX8_keep_76 : decode cX8_keep 76 = .ok (.getfield 9, 3) := by decide +kernel
theorem dX8_keep_79 : decode cX8_keep 79 = .ok (.iload_n 1, 1) := by decide +kernel
theorem dX8_keep_80 : decode cX8_keep 80 = .ok (.iaload, 1) := by decide +kernel
theorem dX8_keep_81 : decode cX8_keep 81 = .ok (.iastore, 1) := by decide +kernel
theorem dX8_keep_82 : decode cX8_keep 82 = .ok (.iinc 1 1, 3) := by decide +kernel
theorem dX8_keep_85 : decode cX8_keep 85 = .ok (.goto (-31), 3) := by decide +kernel
theorem dX8_keep_88 : decode cX8_keep 88 = .ok (.aload_n 0, 1) := by decide +kernel
theorem dX8_keep_89 : decode cX8_keep 89 = .ok (.dup, 1) := by decide +kernel
theorem dX8_keep_90 : decode cX8_keep 90 = .ok (.getfield 230, 3) := by decide +kernel
theorem dX8_keep_93 : decode cX8_keep 93 = .ok (.iconst 1, 1) := by decide +kernel
theorem dX8_keep_94 : decode cX8_keep 94 = .ok (.iadd, 1) := by decide +kernel
theorem dX8_keep_95 : decode cX8_keep 95 = .ok (.putfield 230, 3) := by decide +kernel
theorem dX8_keep_98 : decode cX8_keep 98 = .ok (.aload_n 0, 1) := by decide +kernel
theorem dX8_keep_99 : decode cX8_keep 99 = .ok (.iconst 0, 1) := by decide +kernel
theorem dX8_keep_100 : decode cX8_keep 100 = .ok (.putfield 173, 3) := by decide +kernel
theorem dX8_keep_103 : decode cX8_keep 103 = .ok (.return_, 1) := by decide +kernel
theorem dX8_undo_0 : decode cX8_undo 0 = .ok (.aload_n 0, 1) := by decide +kernel
theorem dX8_undo_1 : decode cX8_undo 1 = .ok (.iconst 0, 1) := by decide +kernel
theorem dX8_undo_2 : decode cX8_undo 2 = .ok (.putfield 87, 3) := by decide +kernel
theorem dX8_undo_5 : decode cX8_undo 5 = .ok (.aload_n 0, 1) := by decide +kernel
theorem dX8_undo_6 : decode cX8_undo 6 = .ok (.getfield 230, 3) := by decide +kernel
theorem dX8_undo_9 : decode cX8_undo 9 = .ok (.ifCond .ne 5, 3) := by decide +kernel
theorem dX8_undo_12 : decode cX8_undo 12 = .ok (.iconst (-1), 1) := by decide +kernel
theorem dX8_undo_13 : decode cX8_undo 13 = .ok (.ireturn, 1) := by decide +kernel
theorem dX8_undo_14 : decode cX8_undo 14 = .ok (.aload_n 0, 1) := by decide +kernel
theorem dX8_undo_15 : decode cX8_undo 15 = .ok (.dup, 1) := by decide +kernel
theorem dX8_undo_16 : decode cX8_undo 16 = .ok (.getfield 230, 3) := by decide +kernel
theorem dX8_undo_19 : decode cX8_undo 19 = .ok (.iconst 1, 1) := by decide +kernel
theorem dX8_undo_20 : decode cX8_undo 20 = .ok (.isub, 1) := by decide +kernel
theorem dX8_undo_21 : decode cX8_undo 21 = .ok (.putfield 230, 3) := by decide +kernel
theorem dX8_undo_24 : decode cX8_undo 24 = .ok (.iconst 0, 1) := by decide +kernel
theorem dX8_undo_25 : decode cX8_undo 25 = .ok (.istore_n 1, 1) := by decide +kernel
theorem dX8_undo_26 : decode cX8_undo 26 = .ok (.iload_n 1, 1) := by decide +kernel
theorem dX8_undo_27 : decode cX8_undo 27 = .ok (.sipush 681, 3) := by decide +kernel
theorem dX8_undo_30 : decode cX8_undo 30 = .ok (.if_icmp .ge 30, 3) := by decide +kernel
theorem dX8_undo_33 : decode cX8_undo 33 = .ok (.aload_n 0, 1) := by decide +kernel
theorem dX8_undo_34 : decode cX8_undo 34 = .ok (.getfield 9, 3) := by decide +kernel
theorem dX8_undo_37 : decode cX8_undo 37 = .ok (.iload_n 1, 1) := by decide +kernel
theorem dX8_undo_38 : decode cX8_undo 38 = .ok (.aload_n 0, 1) := by decide +kernel
theorem dX8_undo_39 : decode cX8_undo 39 = .ok (.getfield 19, 3) := by decide +kernel
theorem dX8_undo_42 : decode cX8_undo 42 = .ok (.sipush 681, 3) := by decide +kernel
theorem dX8_undo_45 : decode cX8_undo 45 = .ok (.aload_n 0, 1) := by decide +kernel
theorem dX8_undo_46 : decode cX8_undo 46 = .ok (.getfield 230, 3) := by decide +kernel
theorem dX8_undo_49 : decode cX8_undo 49 = .ok (.imul, 1) := by decide +kernel
theorem dX8_undo_50 : decode cX8_undo 50 = .ok (.iload_n 1, 1) := by decide +kernel
theorem dX8_undo_51 : decode cX8_undo 51 = .ok (.iadd, 1) := by decide +kernel
theorem dX8_undo_52 : decode cX8_undo 52 = .ok (.iaload, 1) := by decide +kernel
theorem dX8_undo_53 : decode cX8_undo 53 = .ok (.iastore, 1) := by decide +kernel
theorem dX8_undo_54 : decode cX8_undo 54 = .ok (.iinc 1 1, 3) := by decide +kernel
theorem dX8_undo_57 : decode cX8_undo 57 = .ok (.goto (-31), 3) := by decide +kernel
theorem dX8_undo_60 : decode cX8_undo 60 = .ok (.aload_n 0, 1) := by decide +kernel
theorem dX8_undo_61 : decode cX8_undo 61 = .ok (.iconst 0, 1) := by decide +kernel
theorem dX8_undo_62 : decode cX8_undo 62 = .ok (.putfield 173, 3) := by decide +kernel
theorem dX8_undo_65 : decode cX8_undo 65 = .ok (.aload_n 0, 1) := by decide +kernel
theorem dX8_undo_66 : decode cX8_undo 66 = .ok (.getfield 230, 3) := by decide +kernel
theorem dX8_undo_69 : decode cX8_undo 69 = .ok (.ireturn, 1) := by decide +kernel
theorem dX8_file_0 : decode cX8_file 0 = .ok (.aload_n 0, 1) := by decide +kernel
theorem dX8_file_1 : decode cX8_file 1 = .ok (.iload_n 2, 1) := by decide +kernel
theorem dX8_file_2 : decode cX8_file 2 = .ok (.iconst 0, 1) := by decide +kernel
theorem dX8_file_3 : decode cX8_file 3 = .ok (.sipush 1023, 3) := by decide +kernel
theorem dX8_file_6 : decode cX8_file 6 = .ok (.invokestatic 94, 3) := by decide +kernel
theorem dX8_file_9 : decode cX8_file 9 = .ok (.ifCond .eq 22, 3) := by decide +kernel
theorem dX8_file_12 : decode cX8_file 12 = .ok (.iload_n 3, 1) := by decide +kernel
theorem dX8_file_13 : decode cX8_file 13 = .ok (.invokestatic 252, 3) := by decide +kernel
theorem dX8_file_16 : decode cX8_file 16 = .ok (.ifCond .eq 15, 3) := by decide +kernel
theorem dX8_file_19 : decode cX8_file 19 = .ok (.iload_n 1, 1) := by decide +kernel
theorem dX8_file_20 : decode cX8_file 20 = .ok (.iconst 0, 1) := by decide +kernel
theorem dX8_file_21 : decode cX8_file 21 = .ok (.aload_n 0, 1) := by decide +kernel
theorem dX8_file_22 : decode cX8_file 22 = .ok (.getfield 233, 3) := by decide +kernel
theorem dX8_file_25 : decode cX8_file 25 = .ok (.invokestatic 94, 3) := by decide +kernel
theorem dX8_file_28 : decode cX8_file 28 = .ok (.ifCond .ne 7, 3) := by decide +kernel
theorem dX8_file_31 : decode cX8_file 31 = .ok (.iconst 1, 1) := by decide +kernel
theorem dX8_file_32 : decode cX8_file 32 = .ok (.goto 4, 3) := by decide +kernel
theorem dX8_file_35 : decode cX8_file 35 = .ok (.iconst 0, 1) := by decide +kernel
theorem dX8_file_36 : decode cX8_file 36 = .ok (.putfield 87, 3) := by decide +kernel
theorem dX8_file_39 : decode cX8_file 39 = .ok (.aload_n 0, 1) := by decide +kernel
theorem dX8_file_40 : decode cX8_file 40 = .ok (.getfield 87, 3) := by decide +kernel
theorem dX8_file_43 : decode cX8_file 43 = .ok (.ifCond .le 5, 3) := by decide +kernel
theorem dX8_file_46 : decode cX8_file 46 = .ok (.iconst 0, 1) := by decide +kernel
theorem dX8_file_47 : decode cX8_file 47 = .ok (.ireturn, 1) := by decide +kernel
theorem dX8_file_48 : decode cX8_file 48 = .ok (.aload_n 0, 1) := by decide +kernel
theorem dX8_file_49 : decode cX8_file 49 = .ok (.iload_n 1, 1) := by decide +kernel
theorem dX8_file_50 : decode cX8_file 50 = .ok (.invokevirtual 286, 3) := by decide +kernel
theorem dX8_file_53 : decode cX8_file 53 = .ok (.ifCond .ne 7, 3) := by decide +kernel
theorem dX8_file_56 : decode cX8_file 56 = .ok (.ldc_w 289, 3) := by decide +kernel
theorem dX8_file_59 : decode cX8_file 59 = .ok (.ireturn, 1) := by decide +kernel
theorem dX8_file_60 : decode cX8_file 60 = .ok (.aload_n 0, 1) := by decide +kernel
theorem dX8_file_61 : decode cX8_file 61 = .ok (.invokevirtual 90, 3) := by decide +kernel
theorem dX8_file_64 : decode cX8_file 64 = .ok (.bipush 12, 2) := by decide +kernel
theorem dX8_file_66 : decode cX8_file 66 = .ok (.if_icmp .ne 5, 3) := by decide +kernel
theorem dX8_file_69 : decode cX8_file 69 = .ok (.iconst (-1), 1) := by decide +kernel
theorem dX8_file_70 : decode cX8_file 70 = .ok (.ireturn, 1) := by decide +kernel
theorem dX8_file_71 : decode cX8_file 71 = .ok (.aload_n 0, 1) := by decide +kernel
theorem dX8_file_72 : decode cX8_file 72 = .ok (.invokevirtual 305, 3) := by decide +kernel
theorem dX8_file_75 : decode cX8_file 75 = .ok (.aload_n 0, 1) := by decide +kernel
theorem dX8_file_76 : decode cX8_file 76 = .ok (.iload_n 2, 1) := by decide +kernel
theorem dX8_file_77 : decode cX8_file 77 = .ok (.iload_n 3, 1) := by decide +kernel
theorem dX8_file_78 : decode cX8_file 78 = .ok (.invokevirtual 290, 3) := by decide +kernel
theorem dX8_file_81 : decode cX8_file 81 = .ok (.ireturn, 1) := by decide +kernel
theorem dX8_use_0 : decode cX8_use 0 = .ok (.aload_n 0, 1) := by decide +kernel
theorem dX8_use_1 : decode cX8_use 1 = .ok (.aload_n 0, 1) := by decide +kernel
theorem dX8_use_2 : decode cX8_use 2 = .ok (.iload_n 1, 1) := by decide +kernel
theorem dX8_use_3 : decode cX8_use 3 = .ok (.invokevirtual 239, 3) := by decide +kernel
theorem dX8_use_6 : decode cX8_use 6 = .ok (.ifCond .eq 11, 3) := by decide +kernel
theorem dX8_use_9 : decode cX8_use 9 = .ok (.aload_n 0, 1) := by decide +kernel
theorem dX8_use_10 : decode cX8_use 10 = .ok (.iload_n 2, 1) := by decide +kernel
theorem dX8_use_11 : decode cX8_use 11 = .ok (.invokevirtual 249, 3) := by decide +kernel
theorem dX8_use_14 : decode cX8_use 14 = .ok (.ifCond .ne 7, 3) := by decide +kernel
theorem dX8_use_17 : decode cX8_use 17 = .ok (.iconst 1, 1) := by decide +kernel
theorem dX8_use_18 : decode cX8_use 18 = .ok (.goto 29, 3) := by decide +kernel
theorem dX8_use_21 : decode cX8_use 21 = .ok (.iload_n 3, 1) := by decide +kernel
theorem dX8_use_22 : decode cX8_use 22 = .ok (.invokestatic 252, 3) := by decide +kernel
theorem dX8_use_25 : decode cX8_use 25 = .ok (.ifCond .eq 17, 3) := by decide +kernel
theorem dX8_use_28 : decode cX8_use 28 = .ok (.iload 4, 2) := by decide +kernel
theorem dX8_use_30 : decode cX8_use 30 = .ok (.invokestatic 252, 3) := by decide +kernel
theorem dX8_use_33 : decode cX8_use 33 = .ok (.ifCond .eq 9, 3) := by decide +kernel
theorem dX8_use_36 : decode cX8_use 36 = .ok (.iload 4, 2) := by decide +kernel
theorem dX8_use_38 : decode cX8_use 38 = .ok (.iload_n 3, 1) := by decide +kernel
theorem dX8_use_39 : decode cX8_use 39 = .ok (.if_icmp .ge 7, 3) := by decide +kernel
theorem dX8_use_42 : decode cX8_use 42 = .ok (.iconst 2, 1) := by decide +kernel
theorem dX8_use_43 : decode cX8_use 43 = .ok (.goto 4, 3) := by decide +kernel
theorem dX8_use_46 : decode cX8_use 46 = .ok (.iconst 0, 1) := by decide +kernel
theorem dX8_use_47 : decode cX8_use 47 = .ok (.putfield 87, 3) := by decide +kernel
theorem dX8_use_50 : decode cX8_use 50 = .ok (.aload_n 0, 1) := by decide +kernel
theorem dX8_use_51 : decode cX8_use 51 = .ok (.getfield 87, 3) := by decide +kernel
theorem dX8_use_54 : decode cX8_use 54 = .ok (.ifCond .le 5, 3) := by decide +kernel
theorem dX8_use_57 : decode cX8_use 57 = .ok (.iconst 0, 1) := by decide +kernel
theorem dX8_use_58 : decode cX8_use 58 = .ok (.ireturn, 1) := by decide +kernel
theorem dX8_use_59 : decode cX8_use 59 = .ok (.aload_n 0, 1) := by decide +kernel
theorem dX8_use_60 : decode cX8_use 60 = .ok (.iload_n 1, 1) := by decide +kernel
theorem dX8_use_61 : decode cX8_use 61 = .ok (.bipush 13, 2) := by decide +kernel
theorem dX8_use_63 : decode cX8_use 63 = .ok (.invokevirtual 101, 3) := by decide +kernel
theorem dX8_use_66 : decode cX8_use 66 = .ok (.istore 5, 2) := by decide +kernel
theorem dX8_use_68 : decode cX8_use 68 = .ok (.iload 5, 2) := by decide +kernel
theorem dX8_use_70 : decode cX8_use 70 = .ok (.bipush 12, 2) := by decide +kernel
theorem dX8_use_72 : decode cX8_use 72 = .ok (.if_icmp .ne 5, 3) := by decide +kernel
theorem dX8_use_75 : decode cX8_use 75 = .ok (.iconst (-1), 1) := by decide +kernel
theorem dX8_use_76 : decode cX8_use 76 = .ok (.ireturn, 1) := by decide +kernel
theorem dX8_use_77 : decode cX8_use 77 = .ok (.aload_n 0, 1) := by decide +kernel
theorem dX8_use_78 : decode cX8_use 78 = .ok (.invokevirtual 305, 3) := by decide +kernel
theorem dX8_use_81 : decode cX8_use 81 = .ok (.aload_n 0, 1) := by decide +kernel
theorem dX8_use_82 : decode cX8_use 82 = .ok (.iload_n 1, 1) := by decide +kernel
theorem dX8_use_83 : decode cX8_use 83 = .ok (.bipush 14, 2) := by decide +kernel
theorem dX8_use_85 : decode cX8_use 85 = .ok (.iconst 3, 1) := by decide +kernel
theorem dX8_use_86 : decode cX8_use 86 = .ok (.iload 5, 2) := by decide +kernel
theorem dX8_use_88 : decode cX8_use 88 = .ok (.imul, 1) := by decide +kernel
theorem dX8_use_89 : decode cX8_use 89 = .ok (.iadd, 1) := by decide +kernel
theorem dX8_use_90 : decode cX8_use 90 = .ok (.iload_n 2, 1) := by decide +kernel
theorem dX8_use_91 : decode cX8_use 91 = .ok (.invokevirtual 276, 3) := by decide +kernel
theorem dX8_use_94 : decode cX8_use 94 = .ok (.aload_n 0, 1) := by decide +kernel
theorem dX8_use_95 : decode cX8_use 95 = .ok (.iload_n 1, 1) := by decide +kernel
theorem dX8_use_96 : decode cX8_use 96 = .ok (.bipush 14, 2) := by decide +kernel
theorem dX8_use_98 : decode cX8_use 98 = .ok (.iconst 3, 1) := by decide +kernel
theorem dX8_use_99 : decode cX8_use 99 = .ok (.iload 5, 2) := by decide +kernel
theorem dX8_use_101 : decode cX8_use 101 = .ok (.imul, 1) := by decide +kernel
theorem dX8_use_102 : decode cX8_use 102 = .ok (.iadd, 1) := by decide +kernel
theorem dX8_use_103 : decode cX8_use 103 = .ok (.iconst 1, 1) := by decide +kernel
theorem dX8_use_104 : decode cX8_use 104 = .ok (.iadd, 1) := by decide +kernel
theorem dX8_use_105 : decode cX8_use 105 = .ok (.iload_n 3, 1) := by decide +kernel
theorem dX8_use_106 : decode cX8_use 106 = .ok (.invokevirtual 276, 3) := by decide +kernel
theorem dX8_use_109 : decode cX8_use 109 = .ok (.aload_n 0, 1) := by decide +kernel
theorem dX8_use_110 : decode cX8_use 110 = .ok (.iload_n 1, 1) := by decide +kernel
theorem dX8_use_111 : decode cX8_use 111 = .ok (.bipush 14, 2) := by decide +kernel
theorem dX8_use_113 : decode cX8_use 113 = .ok (.iconst 3, 1) := by decide +kernel
theorem dX8_use_114 : decode cX8_use 114 = .ok (.iload 5, 2) := by decide +kernel
theorem dX8_use_116 : decode cX8_use 116 = .ok (.imul, 1) := by decide +kernel
theorem dX8_use_117 : decode cX8_use 117 = .ok (.iadd, 1) := by decide +kernel
theorem dX8_use_118 : decode cX8_use 118 = .ok (.iconst 2, 1) := by decide +kernel
theorem dX8_use_119 : decode cX8_use 119 = .ok (.iadd, 1) := by decide +kernel
theorem dX8_use_120 : decode cX8_use 120 = .ok (.iload 4, 2) := by decide +kernel
theorem dX8_use_122 : decode cX8_use 122 = .ok (.invokevirtual 276, 3) := by decide +kernel
theorem dX8_use_125 : decode cX8_use 125 = .ok (.aload_n 0, 1) := by decide +kernel
theorem dX8_use_126 : decode cX8_use 126 = .ok (.iload_n 1, 1) := by decide +kernel
theorem dX8_use_127 : decode cX8_use 127 = .ok (.bipush 13, 2) := by decide +kernel
theorem dX8_use_129 : decode cX8_use 129 = .ok (.iload 5, 2) := by decide +kernel
theorem dX8_use_131 : decode cX8_use 131 = .ok (.iconst 1, 1) := by decide +kernel
theorem dX8_use_132 : decode cX8_use 132 = .ok (.iadd, 1) := by decide +kernel
theorem dX8_use_133 : decode cX8_use 133 = .ok (.invokevirtual 276, 3) := by decide +kernel
theorem dX8_use_136 : decode cX8_use 136 = .ok (.iload 5, 2) := by decide +kernel
theorem dX8_use_138 : decode cX8_use 138 = .ok (.ireturn, 1) := by decide +kernel
theorem dX8_consents_0 : decode cX8_consents 0 = .ok (.bipush 18, 2) := by decide +kernel
theorem dX8_consents_2 : decode cX8_consents 2 = .ok (.bipush 51, 2) := by decide +kernel
theorem dX8_consents_4 : decode cX8_consents 4 = .ok (.iload_n 2, 1) := by decide +kernel
theorem dX8_consents_5 : decode cX8_consents 5 = .ok (.imul, 1) := by decide +kernel
theorem dX8_consents_6 : decode cX8_consents 6 = .ok (.iadd, 1) := by decide +kernel
theorem dX8_consents_7 : decode cX8_consents 7 = .ok (.bipush 50, 2) := by decide +kernel
theorem dX8_consents_9 : decode cX8_consents 9 = .ok (.iadd, 1) := by decide +kernel
theorem dX8_consents_10 : decode cX8_consents 10 = .ok (.istore 5, 2) := by decide +kernel
theorem dX8_consents_12 : decode cX8_consents 12 = .ok (.bipush 18, 2) := by decide +kernel
theorem dX8_consents_14 : decode cX8_consents 14 = .ok (.bipush 51, 2) := by decide +kernel
theorem dX8_consents_16 : decode cX8_consents 16 = .ok (.iload_n 3, 1) := by decide +kernel
theorem dX8_consents_17 : decode cX8_consents 17 = .ok (.imul, 1) := by decide +kernel
theorem dX8_consents_18 : decode cX8_consents 18 = .ok (.iadd, 1) := by decide +kernel
theorem dX8_consents_19 : decode cX8_consents 19 = .ok (.bipush 50, 2) := by decide +kernel
theorem dX8_consents_21 : decode cX8_consents 21 = .ok (.iadd, 1) := by decide +kernel
theorem dX8_consents_22 : decode cX8_consents 22 = .ok (.istore 6, 2) := by decide +kernel
theorem dX8_consents_24 : decode cX8_consents 24 = .ok (.aload_n 1, 1) := by decide +kernel
theorem dX8_consents_25 : decode cX8_consents 25 = .ok (.iload 5, 2) := by decide +kernel
theorem dX8_consents_27 : decode cX8_consents 27 = .ok (.iload 4, 2) := by decide +kernel
theorem dX8_consents_29 : decode cX8_consents 29 = .ok (.ifCond .eq 14, 3) := by decide +kernel
theorem dX8_consents_32 : decode cX8_consents 32 = .ok (.aload_n 1, 1) := by decide +kernel
theorem dX8_consents_33 : decode cX8_consents 33 = .ok (.iload 5, 2) := by decide +kernel
theorem dX8_consents_35 : decode cX8_consents 35 = .ok (.iaload, 1) := by decide +kernel
theorem dX8_consents_36 : decode cX8_consents 36 = .ok (.iconst 1, 1) := by decide +kernel
theorem dX8_consents_37 : decode cX8_consents 37 = .ok (.iload_n 3, 1) := by decide +kernel
theorem dX8_consents_38 : decode cX8_consents 38 = .ok (.ishl, 1) := by decide +kernel
theorem dX8_consents_39 : decode cX8_consents 39 = .ok (.ior, 1) := by decide +kernel
theorem dX8_consents_40 : decode cX8_consents 40 = .ok (.goto 13, 3) := by decide +kernel
theorem dX8_consents_43 : decode cX8_consents 43 = .ok (.aload_n 1, 1) := by decide +kernel
theorem dX8_consents_44 : decode cX8_consents 44 = .ok (.iload 5, 2) := by decide +kernel
theorem dX8_consents_46 : decode cX8_consents 46 = .ok (.iaload, 1) := by decide +kernel
theorem dX8_consents_47 : decode cX8_consents 47 = .ok (.iconst 1, 1) := by decide +kernel
theorem dX8_consents_48 : decode cX8_consents 48 = .ok (.iload_n 3, 1) := by decide +kernel
theorem dX8_consents_49 : decode cX8_consents 49 = .ok (.ishl, 1) := by decide +kernel
theorem dX8_consents_50 : decode cX8_consents 50 = .ok (.iconst (-1), 1) := by decide +kernel
theorem dX8_consents_51 : decode cX8_consents 51 = .ok (.ixor, 1) := by decide +kernel
theorem dX8_consents_52 : decode cX8_consents 52 = .ok (.iand, 1) := by decide +kernel
theorem dX8_consents_53 : decode cX8_consents 53 = .ok (.iastore, 1) := by decide +kernel
theorem dX8_consents_54 : decode cX8_consents 54 = .ok (.aload_n 1, 1) := by decide +kernel
theorem dX8_consents_55 : decode cX8_consents 55 = .ok (.iload 6, 2) := by decide +kernel
theorem dX8_consents_57 : decode cX8_consents 57 = .ok (.iload 4, 2) := by decide +kernel
theorem dX8_consents_59 : decode cX8_consents 59 = .ok (.ifCond .eq 14, 3) := by decide +kernel
theorem dX8_consents_62 : decode cX8_consents 62 = .ok (.aload_n 1, 1) := by decide +kernel
theorem dX8_consents_63 : decode cX8_consents 63 = .ok (.iload 6, 2) := by decide +kernel
theorem dX8_consents_65 : decode cX8_consents 65 = .ok (.iaload, 1) := by decide +kernel
theorem dX8_consents_66 : decode cX8_consents 66 = .ok (.iconst 1, 1) := by decide +kernel
theorem dX8_consents_67 : decode cX8_consents 67 = .ok (.iload_n 2, 1) := by decide +kernel
theorem dX8_consents_68 : decode cX8_consents 68 = .ok (.ishl, 1) := by decide +kernel
theorem dX8_consents_69 : decode cX8_consents 69 = .ok (.ior, 1) := by decide +kernel
theorem dX8_consents_70 : decode cX8_consents 70 = .ok (.goto 13, 3) := by decide +kernel
theorem dX8_consents_73 : decode cX8_consents 73 = .ok (.aload_n 1, 1) := by decide +kernel
theorem dX8_consents_74 : decode cX8_consents 74 = .ok (.iload 6, 2) := by decide +kernel
theorem dX8_consents_76 : decode cX8_consents 76 = .ok (.iaload, 1) := by decide +kernel
theorem dX8_consents_77 : decode cX8_consents 77 = .ok (.iconst 1, 1) := by decide +kernel
theorem dX8_consents_78 : decode cX8_consents 78 = .ok (.iload_n 2, 1) := by decide +kernel
theorem dX8_consents_79 : decode cX8_consents 79 = .ok (.ishl, 1) := by decide +kernel
theorem dX8_consents_80 : decode cX8_consents 80 = .ok (.iconst (-1), 1) := by decide +kernel
theorem dX8_consents_81 : decode cX8_consents 81 = .ok (.ixor, 1) := by decide +kernel
theorem dX8_consents_82 : decode cX8_consents 82 = .ok (.iand, 1) := by decide +kernel
theorem dX8_consents_83 : decode cX8_consents 83 = .ok (.iastore, 1) := by decide +kernel
theorem dX8_consents_84 : decode cX8_consents 84 = .ok (.return_, 1) := by decide +kernel
theorem dX8_consent_0 : decode cX8_consent 0 = .ok (.aload_n 0, 1) := by decide +kernel
theorem dX8_consent_1 : decode cX8_consent 1 = .ok (.aload_n 0, 1) := by decide +kernel
theorem dX8_consent_2 : decode cX8_consent 2 = .ok (.iload_n 1, 1) := by decide +kernel
theorem dX8_consent_3 : decode cX8_consent 3 = .ok (.iload_n 2, 1) := by decide +kernel
theorem dX8_consent_4 : decode cX8_consent 4 = .ok (.invokevirtual 243, 3) := by decide +kernel
theorem dX8_consent_7 : decode cX8_consent 7 = .ok (.ifCond .eq 7, 3) := by decide +kernel
theorem dX8_consent_10 : decode cX8_consent 10 = .ok (.iconst 0, 1) := by decide +kernel
theorem dX8_consent_11 : decode cX8_consent 11 = .ok (.goto 4, 3) := by decide +kernel
theorem dX8_consent_14 : decode cX8_consent 14 = .ok (.iconst 1, 1) := by decide +kernel
theorem dX8_consent_15 : decode cX8_consent 15 = .ok (.putfield 87, 3) := by decide +kernel
theorem dX8_consent_18 : decode cX8_consent 18 = .ok (.aload_n 0, 1) := by decide +kernel
theorem dX8_consent_19 : decode cX8_consent 19 = .ok (.getfield 87, 3) := by decide +kernel
theorem dX8_consent_22 : decode cX8_consent 22 = .ok (.ifCond .le 5, 3) := by decide +kernel
theorem dX8_consent_25 : decode cX8_consent 25 = .ok (.iconst 0, 1) := by decide +kernel
theorem dX8_consent_26 : decode cX8_consent 26 = .ok (.ireturn, 1) := by decide +kernel
theorem dX8_consent_27 : decode cX8_consent 27 = .ok (.aload_n 0, 1) := by decide +kernel
theorem dX8_consent_28 : decode cX8_consent 28 = .ok (.iload_n 1, 1) := by decide +kernel
theorem dX8_consent_29 : decode cX8_consent 29 = .ok (.bipush 50, 2) := by decide +kernel
theorem dX8_consent_31 : decode cX8_consent 31 = .ok (.invokevirtual 101, 3) := by decide +kernel
theorem dX8_consent_34 : decode cX8_consent 34 = .ok (.iload_n 2, 1) := by decide +kernel
theorem dX8_consent_35 : decode cX8_consent 35 = .ok (.invokestatic 151, 3) := by decide +kernel
theorem dX8_consent_38 : decode cX8_consent 38 = .ok (.istore 4, 2) := by decide +kernel
theorem dX8_consent_40 : decode cX8_consent 40 = .ok (.aload_n 0, 1) := by decide +kernel
theorem dX8_consent_41 : decode cX8_consent 41 = .ok (.invokevirtual 305, 3) := by decide +kernel
theorem dX8_consent_44 : decode cX8_consent 44 = .ok (.aload_n 0, 1) := by decide +kernel
theorem dX8_consent_45 : decode cX8_consent 45 = .ok (.aload_n 0, 1) := by decide +kernel
theorem dX8_consent_46 : decode cX8_consent 46 = .ok (.getfield 9, 3) := by decide +kernel
theorem dX8_consent_49 : decode cX8_consent 49 = .ok (.iload_n 1, 1) := by decide +kernel
theorem dX8_consent_50 : decode cX8_consent 50 = .ok (.iload_n 2, 1) := by decide +kernel
theorem dX8_consent_51 : decode cX8_consent 51 = .ok (.iload_n 3, 1) := by decide +kernel
theorem dX8_consent_52 : decode cX8_consent 52 = .ok (.invokevirtual 308, 3) := by decide +kernel
theorem dX8_consent_55 : decode cX8_consent 55 = .ok (.iload 4, 2) := by decide +kernel
theorem dX8_consent_57 : decode cX8_consent 57 = .ok (.ireturn, 1) := by decide +kernel
theorem dX8_drop_0 : decode cX8_drop 0 = .ok (.aload_n 0, 1) := by decide +kernel
theorem dX8_drop_1 : decode cX8_drop 1 = .ok (.iconst 0, 1) := by decide +kernel
theorem dX8_drop_2 : decode cX8_drop 2 = .ok (.putfield 87, 3) := by decide +kernel
theorem dX8_drop_5 : decode cX8_drop 5 = .ok (.aload_n 0, 1) := by decide +kernel
theorem dX8_drop_6 : decode cX8_drop 6 = .ok (.iload_n 1, 1) := by decide +kernel
theorem dX8_drop_7 : decode cX8_drop 7 = .ok (.invokevirtual 239, 3) := by decide +kernel
theorem dX8_drop_10 : decode cX8_drop 10 = .ok (.ifCond .ne 9, 3) := by decide +kernel
theorem dX8_drop_13 : decode cX8_drop 13 = .ok (.aload_n 0, 1) := by decide +kernel
theorem dX8_drop_14 : decode cX8_drop 14 = .ok (.iconst 1, 1) := by decide +kernel
theorem dX8_drop_15 : decode cX8_drop 15 = .ok (.invokevirtual 236, 3) := by decide +kernel
theorem dX8_drop_18 : decode cX8_drop 18 = .ok (.ireturn, 1) := by decide +kernel
theorem dX8_drop_19 : decode cX8_drop 19 = .ok (.aload_n 0, 1) := by decide +kernel
theorem dX8_drop_20 : decode cX8_drop 20 = .ok (.invokevirtual 305, 3) := by decide +kernel
theorem dX8_drop_23 : decode cX8_drop 23 = .ok (.iload_n 1, 1) := by decide +kernel
theorem dX8_drop_24 : decode cX8_drop 24 = .ok (.istore_n 2, 1) := by decide +kernel
theorem dX8_drop_25 : decode cX8_drop 25 = .ok (.iload_n 2, 1) := by decide +kernel
theorem dX8_drop_26 : decode cX8_drop 26 = .ok (.iconst 1, 1) := by decide +kernel
theorem dX8_drop_27 : decode cX8_drop 27 = .ok (.iadd, 1) := by decide +kernel
theorem dX8_drop_28 : decode cX8_drop 28 = .ok (.aload_n 0, 1) := by decide +kernel
theorem dX8_drop_29 : decode cX8_drop 29 = .ok (.invokevirtual 90, 3) := by decide +kernel
theorem dX8_drop_32 : decode cX8_drop 32 = .ok (.if_icmp .ge 37, 3) := by decide +kernel
theorem dX8_drop_35 : decode cX8_drop 35 = .ok (.iconst 0, 1) := by decide +kernel
theorem dX8_drop_36 : decode cX8_drop 36 = .ok (.istore_n 3, 1) := by decide +kernel
theorem dX8_drop_37 : decode cX8_drop 37 = .ok (.iload_n 3, 1) := by decide +kernel
theorem dX8_drop_38 : decode cX8_drop 38 = .ok (.bipush 51, 2) := by decide +kernel
theorem dX8_drop_40 : decode cX8_drop 40 = .ok (.if_icmp .ge 23, 3) := by decide +kernel
theorem dX8_drop_43 : decode cX8_drop 43 = .ok (.aload_n 0, 1) := by decide +kernel
theorem dX8_drop_44 : decode cX8_drop 44 = .ok (.iload_n 2, 1) := by decide +kernel
theorem dX8_drop_45 : decode cX8_drop 45 = .ok (.iload_n 3, 1) := by decide +kernel
theorem dX8_drop_46 : decode cX8_drop 46 = .ok (.aload_n 0, 1) := by decide +kernel
theorem dX8_drop_47 : decode cX8_drop 47 = .ok (.iload_n 2, 1) := by decide +kernel
theorem dX8_drop_48 : decode cX8_drop 48 = .ok (.iconst 1, 1) := by decide +kernel
theorem dX8_drop_49 : decode cX8_drop 49 = .ok (.iadd, 1) := by decide +kernel
theorem dX8_drop_50 : decode cX8_drop 50 = .ok (.iload_n 3, 1) := by decide +kernel
theorem dX8_drop_51 : decode cX8_drop 51 = .ok (.invokevirtual 101, 3) := by decide +kernel
theorem dX8_drop_54 : decode cX8_drop 54 = .ok (.invokevirtual 276, 3) := by decide +kernel
theorem dX8_drop_57 : decode cX8_drop 57 = .ok (.iinc 3 1, 3) := by decide +kernel
theorem dX8_drop_60 : decode cX8_drop 60 = .ok (.goto (-23), 3) := by decide +kernel
theorem dX8_drop_63 : decode cX8_drop 63 = .ok (.iinc 2 1, 3) := by decide +kernel
theorem dX8_drop_66 : decode cX8_drop 66 = .ok (.goto (-41), 3) := by decide +kernel
theorem dX8_drop_69 : decode cX8_drop 69 = .ok (.aload_n 0, 1) := by decide +kernel
theorem dX8_drop_70 : decode cX8_drop 70 = .ok (.getfield 9, 3) := by decide +kernel
theorem dX8_drop_73 : decode cX8_drop 73 = .ok (.iconst 1, 1) := by decide +kernel
theorem dX8_drop_74 : decode cX8_drop 74 = .ok (.dup2, 1) := by decide +kernel
theorem dX8_drop_75 : decode cX8_drop 75 = .ok (.iaload, 1) := by decide +kernel
theorem dX8_drop_76 : decode cX8_drop 76 = .ok (.iconst 1, 1) := by decide +kernel
theorem dX8_drop_77 : decode cX8_drop 77 = .ok (.isub, 1) := by decide +kernel
theorem dX8_drop_78 : decode cX8_drop 78 = .ok (.iastore, 1) := by decide +kernel
theorem dX8_drop_79 : decode cX8_drop 79 = .ok (.iconst 1, 1) := by decide +kernel
theorem dX8_drop_80 : decode cX8_drop 80 = .ok (.iload_n 1, 1) := by decide +kernel
theorem dX8_drop_81 : decode cX8_drop 81 = .ok (.ishl, 1) := by decide +kernel
theorem dX8_drop_82 : decode cX8_drop 82 = .ok (.iconst 1, 1) := by decide +kernel
theorem dX8_drop_83 : decode cX8_drop 83 = .ok (.isub, 1) := by decide +kernel
theorem dX8_drop_84 : decode cX8_drop 84 = .ok (.istore_n 2, 1) := by decide +kernel
theorem dX8_drop_85 : decode cX8_drop 85 = .ok (.iconst 0, 1) := by decide +kernel
theorem dX8_drop_86 : decode cX8_drop 86 = .ok (.istore_n 3, 1) := by decide +kernel
theorem dX8_drop_87 : decode cX8_drop 87 = .ok (.iload_n 3, 1) := by decide +kernel
theorem dX8_drop_88 : decode cX8_drop 88 = .ok (.aload_n 0, 1) := by decide +kernel
theorem dX8_drop_89 : decode cX8_drop 89 = .ok (.invokevirtual 90, 3) := by decide +kernel
theorem dX8_drop_92 : decode cX8_drop 92 = .ok (.if_icmp .ge 38, 3) := by decide +kernel
theorem dX8_drop_95 : decode cX8_drop 95 = .ok (.aload_n 0, 1) := by decide +kernel
theorem dX8_drop_96 : decode cX8_drop 96 = .ok (.iload_n 3, 1) := by decide +kernel
theorem dX8_drop_97 : decode cX8_drop 97 = .ok (.bipush 50, 2) := by decide +kernel
theorem dX8_drop_99 : decode cX8_drop 99 = .ok (.invokevirtual 101, 3) := by decide +kernel
theorem dX8_drop_102 : decode cX8_drop 102 = .ok (.istore 4, 2) := by decide +kernel
theorem dX8_drop_104 : decode cX8_drop 104 = .ok (.aload_n 0, 1) := by decide +kernel
theorem dX8_drop_105 : decode cX8_drop 105 = .ok (.iload_n 3, 1) := by decide +kernel
theorem dX8_drop_106 : decode cX8_drop 106 = .ok (.bipush 50, 2) := by decide +kernel
theorem dX8_drop_108 : decode cX8_drop 108 = .ok (.iload 4, 2) := by decide +kernel
theorem dX8_drop_110 : decode cX8_drop 110 = .ok (.iload_n 2, 1) := by decide +kernel
theorem dX8_drop_111 : decode cX8_drop 111 = .ok (.iand, 1) := by decide +kernel
theorem dX8_drop_112 : decode cX8_drop 112 = .ok (.iload 4, 2) := by decide +kernel
theorem dX8_drop_114 : decode cX8_drop 114 = .ok (.iconst 1, 1) := by decide +kernel
theorem dX8_drop_115 : decode cX8_drop 115 = .ok (.ishr, 1) := by decide +kernel
theorem dX8_drop_116 : decode cX8_drop 116 = .ok (.iload_n 2, 1) := by decide +kernel
theorem dX8_drop_117 : decode cX8_drop 117 = .ok (.iconst (-1), 1) := by decide +kernel
theorem dX8_drop_118 : decode cX8_drop 118 = .ok (.ixor, 1) := by decide +kernel
theorem dX8_drop_119 : decode cX8_drop 119 = .ok (.iand, 1) := by decide +kernel
theorem dX8_drop_120 : decode cX8_drop 120 = .ok (.ior, 1) := by decide +kernel
theorem dX8_drop_121 : decode cX8_drop 121 = .ok (.invokevirtual 276, 3) := by decide +kernel
theorem dX8_drop_124 : decode cX8_drop 124 = .ok (.iinc 3 1, 3) := by decide +kernel
theorem dX8_drop_127 : decode cX8_drop 127 = .ok (.goto (-40), 3) := by decide +kernel
theorem dX8_drop_130 : decode cX8_drop 130 = .ok (.aload_n 0, 1) := by decide +kernel
theorem dX8_drop_131 : decode cX8_drop 131 = .ok (.invokevirtual 90, 3) := by decide +kernel
theorem dX8_drop_134 : decode cX8_drop 134 = .ok (.ireturn, 1) := by decide +kernel
theorem dX8_mostOf_0 : decode cX8_mostOf 0 = .ok (.iload_n 0, 1) := by decide +kernel
theorem dX8_mostOf_1 : decode cX8_mostOf 1 = .ok (.tableswitch 43 1 4 #[31, 34, 37, 39], 31) := by decide +kernel
theorem dX8_mostOf_32 : decode cX8_mostOf 32 = .ok (.bipush 20, 2) := by decide +kernel
theorem dX8_mostOf_34 : decode cX8_mostOf 34 = .ok (.ireturn, 1) := by decide +kernel
theorem dX8_mostOf_35 : decode cX8_mostOf 35 = .ok (.bipush 9, 2) := by decide +kernel
theorem dX8_mostOf_37 : decode cX8_mostOf 37 = .ok (.ireturn, 1) := by decide +kernel
theorem dX8_mostOf_38 : decode cX8_mostOf 38 = .ok (.iconst 5, 1) := by decide +kernel
theorem dX8_mostOf_39 : decode cX8_mostOf 39 = .ok (.ireturn, 1) := by decide +kernel
theorem dX8_mostOf_40 : decode cX8_mostOf 40 = .ok (.sipush 999, 3) := by decide +kernel
theorem dX8_mostOf_43 : decode cX8_mostOf 43 = .ok (.ireturn, 1) := by decide +kernel
theorem dX8_mostOf_44 : decode cX8_mostOf 44 = .ok (.bipush 100, 2) := by decide +kernel
theorem dX8_mostOf_46 : decode cX8_mostOf 46 = .ok (.ireturn, 1) := by decide +kernel
theorem dX8_rule_0 : decode cX8_rule 0 = .ok (.aload_n 0, 1) := by decide +kernel
theorem dX8_rule_1 : decode cX8_rule 1 = .ok (.iload_n 1, 1) := by decide +kernel
theorem dX8_rule_2 : decode cX8_rule 2 = .ok (.iconst 0, 1) := by decide +kernel
theorem dX8_rule_3 : decode cX8_rule 3 = .ok (.iconst 5, 1) := by decide +kernel
theorem dX8_rule_4 : decode cX8_rule 4 = .ok (.invokestatic 94, 3) := by decide +kernel
theorem dX8_rule_7 : decode cX8_rule 7 = .ok (.ifCond .ne 7, 3) := by decide +kernel
theorem dX8_rule_10 : decode cX8_rule 10 = .ok (.iconst 1, 1) := by decide +kernel
theorem dX8_rule_11 : decode cX8_rule 11 = .ok (.goto 20, 3) := by decide +kernel
theorem dX8_rule_14 : decode cX8_rule 14 = .ok (.iload_n 2, 1) := by decide +kernel
theorem dX8_rule_15 : decode cX8_rule 15 = .ok (.iconst 0, 1) := by decide +kernel
theorem dX8_rule_16 : decode cX8_rule 16 = .ok (.iload_n 1, 1) := by decide +kernel
theorem dX8_rule_17 : decode cX8_rule 17 = .ok (.invokestatic 312, 3) := by decide +kernel
theorem dX8_rule_20 : decode cX8_rule 20 = .ok (.invokestatic 94, 3) := by decide +kernel
theorem dX8_rule_23 : decode cX8_rule 23 = .ok (.ifCond .ne 7, 3) := by decide +kernel
theorem dX8_rule_26 : decode cX8_rule 26 = .ok (.iconst 2, 1) := by decide +kernel
theorem dX8_rule_27 : decode cX8_rule 27 = .ok (.goto 4, 3) := by decide +kernel
theorem dX8_rule_30 : decode cX8_rule 30 = .ok (.iconst 0, 1) := by decide +kernel
theorem dX8_rule_31 : decode cX8_rule 31 = .ok (.putfield 87, 3) := by decide +kernel
theorem dX8_rule_34 : decode cX8_rule 34 = .ok (.aload_n 0, 1) := by decide +kernel
theorem dX8_rule_35 : decode cX8_rule 35 = .ok (.getfield 87, 3) := by decide +kernel
theorem dX8_rule_38 : decode cX8_rule 38 = .ok (.ifCond .le 5, 3) := by decide +kernel
theorem dX8_rule_41 : decode cX8_rule 41 = .ok (.iconst 0, 1) := by decide +kernel
theorem dX8_rule_42 : decode cX8_rule 42 = .ok (.ireturn, 1) := by decide +kernel
theorem dX8_rule_43 : decode cX8_rule 43 = .ok (.aload_n 0, 1) := by decide +kernel
theorem dX8_rule_44 : decode cX8_rule 44 = .ok (.invokevirtual 305, 3) := by decide +kernel
theorem dX8_rule_47 : decode cX8_rule 47 = .ok (.aload_n 0, 1) := by decide +kernel
theorem dX8_rule_48 : decode cX8_rule 48 = .ok (.getfield 9, 3) := by decide +kernel
theorem dX8_rule_51 : decode cX8_rule 51 = .ok (.iconst 2, 1) := by decide +kernel
theorem dX8_rule_52 : decode cX8_rule 52 = .ok (.iload_n 1, 1) := by decide +kernel
theorem dX8_rule_53 : decode cX8_rule 53 = .ok (.iadd, 1) := by decide +kernel
theorem dX8_rule_54 : decode cX8_rule 54 = .ok (.iaload, 1) := by decide +kernel
theorem dX8_rule_55 : decode cX8_rule 55 = .ok (.istore_n 3, 1) := by decide +kernel
theorem dX8_rule_56 : decode cX8_rule 56 = .ok (.aload_n 0, 1) := by decide +kernel
theorem dX8_rule_57 : decode cX8_rule 57 = .ok (.getfield 9, 3) := by decide +kernel
theorem dX8_rule_60 : decode cX8_rule 60 = .ok (.iconst 2, 1) := by decide +kernel
theorem dX8_rule_61 : decode cX8_rule 61 = .ok (.iload_n 1, 1) := by decide +kernel
theorem dX8_rule_62 : decode cX8_rule 62 = .ok (.iadd, 1) := by decide +kernel
theorem dX8_rule_63 : decode cX8_rule 63 = .ok (.iload_n 2, 1) := by decide +kernel
theorem dX8_rule_64 : decode cX8_rule 64 = .ok (.iastore, 1) := by decide +kernel
theorem dX8_rule_65 : decode cX8_rule 65 = .ok (.iload_n 3, 1) := by decide +kernel
theorem dX8_rule_66 : decode cX8_rule 66 = .ok (.ireturn, 1) := by decide +kernel
theorem dX8_joins_0 : decode cX8_joins 0 = .ok (.aload_n 0, 1) := by decide +kernel
theorem dX8_joins_1 : decode cX8_joins 1 = .ok (.bipush 8, 2) := by decide +kernel
theorem dX8_joins_3 : decode cX8_joins 3 = .ok (.iload_n 1, 1) := by decide +kernel
theorem dX8_joins_4 : decode cX8_joins 4 = .ok (.iadd, 1) := by decide +kernel
theorem dX8_joins_5 : decode cX8_joins 5 = .ok (.iload_n 3, 1) := by decide +kernel
theorem dX8_joins_6 : decode cX8_joins 6 = .ok (.ifCond .eq 16, 3) := by decide +kernel
theorem dX8_joins_9 : decode cX8_joins 9 = .ok (.aload_n 0, 1) := by decide +kernel
theorem dX8_joins_10 : decode cX8_joins 10 = .ok (.bipush 8, 2) := by decide +kernel
theorem dX8_joins_12 : decode cX8_joins 12 = .ok (.iload_n 1, 1) := by decide +kernel
theorem dX8_joins_13 : decode cX8_joins 13 = .ok (.iadd, 1) := by decide +kernel
theorem dX8_joins_14 : decode cX8_joins 14 = .ok (.iaload, 1) := by decide +kernel
theorem dX8_joins_15 : decode cX8_joins 15 = .ok (.iconst 1, 1) := by decide +kernel
theorem dX8_joins_16 : decode cX8_joins 16 = .ok (.iload_n 2, 1) := by decide +kernel
theorem dX8_joins_17 : decode cX8_joins 17 = .ok (.ishl, 1) := by decide +kernel
theorem dX8_joins_18 : decode cX8_joins 18 = .ok (.ior, 1) := by decide +kernel
theorem dX8_joins_19 : decode cX8_joins 19 = .ok (.goto 15, 3) := by decide +kernel
theorem dX8_joins_22 : decode cX8_joins 22 = .ok (.aload_n 0, 1) := by decide +kernel
theorem dX8_joins_23 : decode cX8_joins 23 = .ok (.bipush 8, 2) := by decide +kernel
theorem dX8_joins_25 : decode cX8_joins 25 = .ok (.iload_n 1, 1) := by decide +kernel
theorem dX8_joins_26 : decode cX8_joins 26 = .ok (.iadd, 1) := by decide +kernel
theorem dX8_joins_27 : decode cX8_joins 27 = .ok (.iaload, 1) := by decide +kernel
theorem dX8_joins_28 : decode cX8_joins 28 = .ok (.iconst 1, 1) := by decide +kernel
theorem dX8_joins_29 : decode cX8_joins 29 = .ok (.iload_n 2, 1) := by decide +kernel
theorem dX8_joins_30 : decode cX8_joins 30 = .ok (.ishl, 1) := by decide +kernel
theorem dX8_joins_31 : decode cX8_joins 31 = .ok (.iconst (-1), 1) := by decide +kernel
theorem dX8_joins_32 : decode cX8_joins 32 = .ok (.ixor, 1) := by decide +kernel
theorem dX8_joins_33 : decode cX8_joins 33 = .ok (.iand, 1) := by decide +kernel
theorem dX8_joins_34 : decode cX8_joins 34 = .ok (.iastore, 1) := by decide +kernel
theorem dX8_joins_35 : decode cX8_joins 35 = .ok (.aload_n 0, 1) := by decide +kernel
theorem dX8_joins_36 : decode cX8_joins 36 = .ok (.bipush 8, 2) := by decide +kernel
theorem dX8_joins_38 : decode cX8_joins 38 = .ok (.iload_n 2, 1) := by decide +kernel
theorem dX8_joins_39 : decode cX8_joins 39 = .ok (.iadd, 1) := by decide +kernel
theorem dX8_joins_40 : decode cX8_joins 40 = .ok (.iload_n 3, 1) := by decide +kernel
theorem dX8_joins_41 : decode cX8_joins 41 = .ok (.ifCond .eq 16, 3) := by decide +kernel
theorem dX8_joins_44 : decode cX8_joins 44 = .ok (.aload_n 0, 1) := by decide +kernel
theorem dX8_joins_45 : decode cX8_joins 45 = .ok (.bipush 8, 2) := by decide +kernel
theorem dX8_joins_47 : decode cX8_joins 47 = .ok (.iload_n 2, 1) := by decide +kernel
theorem dX8_joins_48 : decode cX8_joins 48 = .ok (.iadd, 1) := by decide +kernel
theorem dX8_joins_49 : decode cX8_joins 49 = .ok (.iaload, 1) := by decide +kernel
theorem dX8_joins_50 : decode cX8_joins 50 = .ok (.iconst 1, 1) := by decide +kernel
theorem dX8_joins_51 : decode cX8_joins 51 = .ok (.iload_n 1, 1) := by decide +kernel
theorem dX8_joins_52 : decode cX8_joins 52 = .ok (.ishl, 1) := by decide +kernel
theorem dX8_joins_53 : decode cX8_joins 53 = .ok (.ior, 1) := by decide +kernel
theorem dX8_joins_54 : decode cX8_joins 54 = .ok (.goto 15, 3) := by decide +kernel
theorem dX8_joins_57 : decode cX8_joins 57 = .ok (.aload_n 0, 1) := by decide +kernel
theorem dX8_joins_58 : decode cX8_joins 58 = .ok (.bipush 8, 2) := by decide +kernel
theorem dX8_joins_60 : decode cX8_joins 60 = .ok (.iload_n 2, 1) := by decide +kernel
theorem dX8_joins_61 : decode cX8_joins 61 = .ok (.iadd, 1) := by decide +kernel
theorem dX8_joins_62 : decode cX8_joins 62 = .ok (.iaload, 1) := by decide +kernel
theorem dX8_joins_63 : decode cX8_joins 63 = .ok (.iconst 1, 1) := by decide +kernel
theorem dX8_joins_64 : decode cX8_joins 64 = .ok (.iload_n 1, 1) := by decide +kernel
theorem dX8_joins_65 : decode cX8_joins 65 = .ok (.ishl, 1) := by decide +kernel
theorem dX8_joins_66 : decode cX8_joins 66 = .ok (.iconst (-1), 1) := by decide +kernel
theorem dX8_joins_67 : decode cX8_joins 67 = .ok (.ixor, 1) := by decide +kernel
theorem dX8_joins_68 : decode cX8_joins 68 = .ok (.iand, 1) := by decide +kernel
theorem dX8_joins_69 : decode cX8_joins 69 = .ok (.iastore, 1) := by decide +kernel
theorem dX8_joins_70 : decode cX8_joins 70 = .ok (.return_, 1) := by decide +kernel
theorem dX8_near_0 : decode cX8_near 0 = .ok (.aload_n 0, 1) := by decide +kernel
theorem dX8_near_1 : decode cX8_near 1 = .ok (.iload_n 1, 1) := by decide +kernel
theorem dX8_near_2 : decode cX8_near 2 = .ok (.invokestatic 246, 3) := by decide +kernel
theorem dX8_near_5 : decode cX8_near 5 = .ok (.ifCond .eq 19, 3) := by decide +kernel
theorem dX8_near_8 : decode cX8_near 8 = .ok (.iload_n 2, 1) := by decide +kernel
theorem dX8_near_9 : decode cX8_near 9 = .ok (.invokestatic 246, 3) := by decide +kernel
theorem dX8_near_12 : decode cX8_near 12 = .ok (.ifCond .eq 12, 3) := by decide +kernel
theorem dX8_near_15 : decode cX8_near 15 = .ok (.iload_n 1, 1) := by decide +kernel
theorem dX8_near_16 : decode cX8_near 16 = .ok (.iload_n 2, 1) := by decide +kernel
theorem dX8_near_17 : decode cX8_near 17 = .ok (.if_icmp .eq 7, 3) := by decide +kernel
theorem dX8_near_20 : decode cX8_near 20 = .ok (.iconst 0, 1) := by decide +kernel
theorem dX8_near_21 : decode cX8_near 21 = .ok (.goto 4, 3) := by decide +kernel
theorem dX8_near_24 : decode cX8_near 24 = .ok (.iconst 1, 1) := by decide +kernel
theorem dX8_near_25 : decode cX8_near 25 = .ok (.putfield 87, 3) := by decide +kernel
theorem dX8_near_28 : decode cX8_near 28 = .ok (.aload_n 0, 1) := by decide +kernel
theorem dX8_near_29 : decode cX8_near 29 = .ok (.getfield 87, 3) := by decide +kernel
theorem dX8_near_32 : decode cX8_near 32 = .ok (.ifCond .le 5, 3) := by decide +kernel
theorem dX8_near_35 : decode cX8_near 35 = .ok (.iconst 0, 1) := by decide +kernel
theorem dX8_near_36 : decode cX8_near 36 = .ok (.ireturn, 1) := by decide +kernel
theorem dX8_near_37 : decode cX8_near 37 = .ok (.aload_n 0, 1) := by decide +kernel
theorem dX8_near_38 : decode cX8_near 38 = .ok (.getfield 9, 3) := by decide +kernel
theorem dX8_near_41 : decode cX8_near 41 = .ok (.bipush 8, 2) := by decide +kernel
theorem dX8_near_43 : decode cX8_near 43 = .ok (.iload_n 1, 1) := by decide +kernel
theorem dX8_near_44 : decode cX8_near 44 = .ok (.iadd, 1) := by decide +kernel
theorem dX8_near_45 : decode cX8_near 45 = .ok (.iaload, 1) := by decide +kernel
theorem dX8_near_46 : decode cX8_near 46 = .ok (.iload_n 2, 1) := by decide +kernel
theorem dX8_near_47 : decode cX8_near 47 = .ok (.invokestatic 151, 3) := by decide +kernel
theorem dX8_near_50 : decode cX8_near 50 = .ok (.istore 4, 2) := by decide +kernel
theorem dX8_near_52 : decode cX8_near 52 = .ok (.aload_n 0, 1) := by decide +kernel
theorem dX8_near_53 : decode cX8_near 53 = .ok (.invokevirtual 305, 3) := by decide +kernel
theorem dX8_near_56 : decode cX8_near 56 = .ok (.aload_n 0, 1) := by decide +kernel
theorem dX8_near_57 : decode cX8_near 57 = .ok (.getfield 9, 3) := by decide +kernel
theorem dX8_near_60 : decode cX8_near 60 = .ok (.iload_n 1, 1) := by decide +kernel
theorem dX8_near_61 : decode cX8_near 61 = .ok (.iload_n 2, 1) := by decide +kernel
theorem dX8_near_62 : decode cX8_near 62 = .ok (.iload_n 3, 1) := by decide +kernel
theorem dX8_near_63 : decode cX8_near 63 = .ok (.invokestatic 315, 3) := by decide +kernel
theorem dX8_near_66 : decode cX8_near 66 = .ok (.iload 4, 2) := by decide +kernel
theorem dX8_near_68 : decode cX8_near 68 = .ok (.ireturn, 1) := by decide +kernel
theorem dX8_image_0 : decode cX8_image 0 = .ok (.aload_n 0, 1) := by decide +kernel
theorem dX8_image_1 : decode cX8_image 1 = .ok (.iconst 0, 1) := by decide +kernel
theorem dX8_image_2 : decode cX8_image 2 = .ok (.putfield 87, 3) := by decide +kernel
theorem dX8_image_5 : decode cX8_image 5 = .ok (.iconst 0, 1) := by decide +kernel
theorem dX8_image_6 : decode cX8_image 6 = .ok (.istore_n 1, 1) := by decide +kernel
theorem dX8_image_7 : decode cX8_image 7 = .ok (.iload_n 1, 1) := by decide +kernel
theorem dX8_image_8 : decode cX8_image 8 = .ok (.sipush 681, 3) := by decide +kernel
theorem dX8_image_11 : decode cX8_image 11 = .ok (.if_icmp .ge 21, 3) := by decide +kernel
theorem dX8_image_14 : decode cX8_image 14 = .ok (.aload_n 0, 1) := by decide +kernel
theorem dX8_image_15 : decode cX8_image 15 = .ok (.getfield 16, 3) := by decide +kernel
theorem dX8_image_18 : decode cX8_image 18 = .ok (.iload_n 1, 1) := by decide +kernel
theorem dX8_image_19 : decode cX8_image 19 = .ok (.aload_n 0, 1) := by decide +kernel
theorem dX8_image_20 : decode cX8_image 20 = .ok (.getfield 9, 3) := by decide +kernel
theorem dX8_image_23 : decode cX8_image 23 = .ok (.iload_n 1, 1) := by decide +kernel
theorem dX8_image_24 : decode cX8_image 24 = .ok (.iaload, 1) := by decide +kernel
theorem dX8_image_25 : decode cX8_image 25 = .ok (.iastore, 1) := by decide +kernel
theorem dX8_image_26 : decode cX8_image 26 = .ok (.iinc 1 1, 3) := by decide +kernel
theorem dX8_image_29 : decode cX8_image 29 = .ok (.goto (-22), 3) := by decide +kernel
theorem dX8_image_32 : decode cX8_image 32 = .ok (.aload_n 0, 1) := by decide +kernel
theorem dX8_image_33 : decode cX8_image 33 = .ok (.iconst 1, 1) := by decide +kernel
theorem dX8_image_34 : decode cX8_image 34 = .ok (.putfield 318, 3) := by decide +kernel
theorem dX8_image_37 : decode cX8_image 37 = .ok (.return_, 1) := by decide +kernel
theorem dX8_back_0 : decode cX8_back 0 = .ok (.aload_n 0, 1) := by decide +kernel
theorem dX8_back_1 : decode cX8_back 1 = .ok (.iconst 0, 1) := by decide +kernel
theorem dX8_back_2 : decode cX8_back 2 = .ok (.putfield 87, 3) := by decide +kernel
theorem dX8_back_5 : decode cX8_back 5 = .ok (.aload_n 0, 1) := by decide +kernel
theorem dX8_back_6 : decode cX8_back 6 = .ok (.getfield 318, 3) := by decide +kernel
theorem dX8_back_9 : decode cX8_back 9 = .ok (.ifCond .ne 5, 3) := by decide +kernel
theorem dX8_back_12 : decode cX8_back 12 = .ok (.iconst 0, 1) := by decide +kernel
theorem dX8_back_13 : decode cX8_back 13 = .ok (.ireturn, 1) := by decide +kernel
theorem dX8_back_14 : decode cX8_back 14 = .ok (.iconst 0, 1) := by decide +kernel
theorem dX8_back_15 : decode cX8_back 15 = .ok (.istore_n 1, 1) := by decide +kernel
theorem dX8_back_16 : decode cX8_back 16 = .ok (.iload_n 1, 1) := by decide +kernel
theorem dX8_back_17 : decode cX8_back 17 = .ok (.sipush 681, 3) := by decide +kernel
theorem dX8_back_20 : decode cX8_back 20 = .ok (.if_icmp .ge 21, 3) := by decide +kernel
theorem dX8_back_23 : decode cX8_back 23 = .ok (.aload_n 0, 1) := by decide +kernel
theorem dX8_back_24 : decode cX8_back 24 = .ok (.getfield 9, 3) := by decide +kernel
theorem dX8_back_27 : decode cX8_back 27 = .ok (.iload_n 1, 1) := by decide +kernel
theorem dX8_back_28 : decode cX8_back 28 = .ok (.aload_n 0, 1) := by decide +kernel
theorem dX8_back_29 : decode cX8_back 29 = .ok (.getfield 16, 3) := by decide +kernel
theorem dX8_back_32 : decode cX8_back 32 = .ok (.iload_n 1, 1) := by decide +kernel
theorem dX8_back_33 : decode cX8_back 33 = .ok (.iaload, 1) := by decide +kernel
theorem dX8_back_34 : decode cX8_back 34 = .ok (.iastore, 1) := by decide +kernel
theorem dX8_back_35 : decode cX8_back 35 = .ok (.iinc 1 1, 3) := by decide +kernel
theorem dX8_back_38 : decode cX8_back 38 = .ok (.goto (-22), 3) := by decide +kernel
theorem dX8_back_41 : decode cX8_back 41 = .ok (.aload_n 0, 1) := by decide +kernel
theorem dX8_back_42 : decode cX8_back 42 = .ok (.iconst 0, 1) := by decide +kernel
theorem dX8_back_43 : decode cX8_back 43 = .ok (.putfield 230, 3) := by decide +kernel
theorem dX8_back_46 : decode cX8_back 46 = .ok (.aload_n 0, 1) := by decide +kernel
theorem dX8_back_47 : decode cX8_back 47 = .ok (.iconst 0, 1) := by decide +kernel
theorem dX8_back_48 : decode cX8_back 48 = .ok (.putfield 173, 3) := by decide +kernel
theorem dX8_back_51 : decode cX8_back 51 = .ok (.iconst 1, 1) := by decide +kernel
theorem dX8_back_52 : decode cX8_back 52 = .ok (.ireturn, 1) := by decide +kernel
theorem dX8_feed_0 : decode cX8_feed 0 = .ok (.aload_n 0, 1) := by decide +kernel
theorem dX8_feed_1 : decode cX8_feed 1 = .ok (.iconst 0, 1) := by decide +kernel
theorem dX8_feed_2 : decode cX8_feed 2 = .ok (.putfield 87, 3) := by decide +kernel
theorem dX8_feed_5 : decode cX8_feed 5 = .ok (.aload_n 0, 1) := by decide +kernel
theorem dX8_feed_6 : decode cX8_feed 6 = .ok (.getfield 233, 3) := by decide +kernel
theorem dX8_feed_9 : decode cX8_feed 9 = .ok (.bipush 20, 2) := by decide +kernel
theorem dX8_feed_11 : decode cX8_feed 11 = .ok (.iadd, 1) := by decide +kernel
theorem dX8_feed_12 : decode cX8_feed 12 = .ok (.sipush 700, 3) := by decide +kernel
theorem dX8_feed_15 : decode cX8_feed 15 = .ok (.if_icmp .le 5, 3) := by decide +kernel
theorem dX8_feed_18 : decode cX8_feed 18 = .ok (.iconst (-1), 1) := by decide +kernel
theorem dX8_feed_19 : decode cX8_feed 19 = .ok (.ireturn, 1) := by decide +kernel
theorem dX8_feed_20 : decode cX8_feed 20 = .ok (.iconst 0, 1) := by decide +kernel
theorem dX8_feed_21 : decode cX8_feed 21 = .ok (.istore 6, 2) := by decide +kernel
theorem dX8_feed_23 : decode cX8_feed 23 = .ok (.iload 6, 2) := by decide +kernel
theorem dX8_feed_25 : decode cX8_feed 25 = .ok (.bipush 20, 2) := by decide +kernel
theorem dX8_feed_27 : decode cX8_feed 27 = .ok (.if_icmp .ge 93, 3) := by decide +kernel
theorem dX8_feed_30 : decode cX8_feed 30 = .ok (.iload 6, 2) := by decide +kernel
theorem dX8_feed_32 : decode cX8_feed 32 = .ok (.iconst 4, 1) := by decide +kernel
theorem dX8_feed_33 : decode cX8_feed 33 = .ok (.if_icmp .ge 7, 3) := by decide +kernel
theorem dX8_feed_36 : decode cX8_feed 36 = .ok (.iload_n 1, 1) := by decide +kernel
theorem dX8_feed_37 : decode cX8_feed 37 = .ok (.goto 39, 3) := by decide +kernel
theorem dX8_feed_40 : decode cX8_feed 40 = .ok (.iload 6, 2) := by decide +kernel
theorem dX8_feed_42 : decode cX8_feed 42 = .ok (.bipush 8, 2) := by decide +kernel
theorem dX8_feed_44 : decode cX8_feed 44 = .ok (.if_icmp .ge 7, 3) := by decide +kernel
theorem dX8_feed_47 : decode cX8_feed 47 = .ok (.iload_n 2, 1) := by decide +kernel
theorem dX8_feed_48 : decode cX8_feed 48 = .ok (.goto 28, 3) := by decide +kernel
theorem dX8_feed_51 : decode cX8_feed 51 = .ok (.iload 6, 2) := by decide +kernel
theorem dX8_feed_53 : decode cX8_feed 53 = .ok (.bipush 12, 2) := by decide +kernel
theorem dX8_feed_55 : decode cX8_feed 55 = .ok (.if_icmp .ge 7, 3) := by decide +kernel
theorem dX8_feed_58 : decode cX8_feed 58 = .ok (.iload_n 3, 1) := by decide +kernel
theorem dX8_feed_59 : decode cX8_feed 59 = .ok (.goto 17, 3) := by decide +kernel
theorem dX8_feed_62 : decode cX8_feed 62 = .ok (.iload 6, 2) := by decide +kernel
theorem dX8_feed_64 : decode cX8_feed 64 = .ok (.bipush 16, 2) := by decide +kernel
theorem dX8_feed_66 : decode cX8_feed 66 = .ok (.if_icmp .ge 8, 3) := by decide +kernel
theorem dX8_feed_69 : decode cX8_feed 69 = .ok (.iload 4, 2) := by decide +kernel
theorem dX8_feed_71 : decode cX8_feed 71 = .ok (.goto 5, 3) := by decide +kernel
theorem dX8_feed_74 : decode cX8_feed 74 = .ok (.iload 5, 2) := by decide +kernel
theorem dX8_feed_76 : decode cX8_feed 76 = .ok (.istore 7, 2) := by decide +kernel
theorem dX8_feed_78 : decode cX8_feed 78 = .ok (.aload_n 0, 1) := by decide +kernel
theorem dX8_feed_79 : decode cX8_feed 79 = .ok (.getfield 76, 3) := by decide +kernel
theorem dX8_feed_82 : decode cX8_feed 82 = .ok (.aload_n 0, 1) := by decide +kernel
theorem dX8_feed_83 : decode cX8_feed 83 = .ok (.getfield 233, 3) := by decide +kernel
theorem dX8_feed_86 : decode cX8_feed 86 = .ok (.iload 7, 2) := by decide +kernel
theorem dX8_feed_88 : decode cX8_feed 88 = .ok (.bipush 24, 2) := by decide +kernel
theorem dX8_feed_90 : decode cX8_feed 90 = .ok (.bipush 8, 2) := by decide +kernel
theorem dX8_feed_92 : decode cX8_feed 92 = .ok (.iload 6, 2) := by decide +kernel
theorem dX8_feed_94 : decode cX8_feed 94 = .ok (.iconst 4, 1) := by decide +kernel
theorem dX8_feed_95 : decode cX8_feed 95 = .ok (.irem, 1) := by decide +kernel
theorem dX8_feed_96 : decode cX8_feed 96 = .ok (.imul, 1) := by decide +kernel
theorem dX8_feed_97 : decode cX8_feed 97 = .ok (.isub, 1) := by decide +kernel
theorem dX8_feed_98 : decode cX8_feed 98 = .ok (.ishr, 1) := by decide +kernel
theorem dX8_feed_99 : decode cX8_feed 99 = .ok (.sipush 255, 3) := by decide +kernel
theorem dX8_feed_102 : decode cX8_feed 102 = .ok (.iand, 1) := by decide +kernel
theorem dX8_feed_103 : decode cX8_feed 103 = .ok (.iastore, 1) := by decide +kernel
theorem dX8_feed_104 : decode cX8_feed 104 = .ok (.aload_n 0, 1) := by decide +kernel
theorem dX8_feed_105 : decode cX8_feed 105 = .ok (.dup, 1) := by decide +kernel
theorem dX8_feed_106 : decode cX8_feed 106 = .ok (.getfield 233, 3) := by decide +kernel
theorem dX8_feed_109 : decode cX8_feed 109 = .ok (.iconst 1, 1) := by decide +kernel
theorem dX8_feed_110 : decode cX8_feed 110 = .ok (.iadd, 1) := by decide +kernel
theorem dX8_feed_111 : decode cX8_feed 111 = .ok (.putfield 233, 3) := by decide +kernel
theorem dX8_feed_114 : decode cX8_feed 114 = .ok (.iinc 6 1, 3) := by decide +kernel
theorem dX8_feed_117 : decode cX8_feed 117 = .ok (.goto (-94), 3) := by decide +kernel
theorem dX8_feed_120 : decode cX8_feed 120 = .ok (.aload_n 0, 1) := by decide +kernel
theorem dX8_feed_121 : decode cX8_feed 121 = .ok (.getfield 233, 3) := by decide +kernel
theorem dX8_feed_124 : decode cX8_feed 124 = .ok (.ireturn, 1) := by decide +kernel
theorem dX8_fault_0 : decode cX8_fault 0 = .ok (.aload_n 0, 1) := by decide +kernel
theorem dX8_fault_1 : decode cX8_fault 1 = .ok (.iconst 0, 1) := by decide +kernel
theorem dX8_fault_2 : decode cX8_fault 2 = .ok (.putfield 87, 3) := by decide +kernel
theorem dX8_fault_5 : decode cX8_fault 5 = .ok (.aload_n 0, 1) := by decide +kernel
theorem dX8_fault_6 : decode cX8_fault 6 = .ok (.getfield 79, 3) := by decide +kernel
theorem dX8_fault_9 : decode cX8_fault 9 = .ok (.ireturn, 1) := by decide +kernel
theorem dX8_byteAt_0 : decode cX8_byteAt 0 = .ok (.iload_n 1, 1) := by decide +kernel
theorem dX8_byteAt_1 : decode cX8_byteAt 1 = .ok (.aload_n 0, 1) := by decide +kernel
theorem dX8_byteAt_2 : decode cX8_byteAt 2 = .ok (.getfield 321, 3) := by decide +kernel
theorem dX8_byteAt_5 : decode cX8_byteAt 5 = .ok (.if_icmp .ge 12, 3) := by decide +kernel
theorem dX8_byteAt_8 : decode cX8_byteAt 8 = .ok (.aload_n 0, 1) := by decide +kernel
theorem dX8_byteAt_9 : decode cX8_byteAt 9 = .ok (.getfield 76, 3) := by decide +kernel
theorem dX8_byteAt_12 : decode cX8_byteAt 12 = .ok (.iload_n 1, 1) := by decide +kernel
theorem dX8_byteAt_13 : decode cX8_byteAt 13 = .ok (.iaload, 1) := by decide +kernel
theorem dX8_byteAt_14 : decode cX8_byteAt 14 = .ok (.goto 4, 3) := by decide +kernel
theorem dX8_byteAt_17 : decode cX8_byteAt 17 = .ok (.iconst (-1), 1) := by decide +kernel
theorem dX8_byteAt_18 : decode cX8_byteAt 18 = .ok (.ireturn, 1) := by decide +kernel
theorem dX8_isSmall_0 : decode cX8_isSmall 0 = .ok (.iload_n 0, 1) := by decide +kernel
theorem dX8_isSmall_1 : decode cX8_isSmall 1 = .ok (.bipush 97, 2) := by decide +kernel
theorem dX8_isSmall_3 : decode cX8_isSmall 3 = .ok (.if_icmp .lt 13, 3) := by decide +kernel
theorem dX8_isSmall_6 : decode cX8_isSmall 6 = .ok (.iload_n 0, 1) := by decide +kernel
theorem dX8_isSmall_7 : decode cX8_isSmall 7 = .ok (.bipush 122, 2) := by decide +kernel
theorem dX8_isSmall_9 : decode cX8_isSmall 9 = .ok (.if_icmp .gt 7, 3) := by decide +kernel
theorem dX8_isSmall_12 : decode cX8_isSmall 12 = .ok (.iconst 1, 1) := by decide +kernel
theorem dX8_isSmall_13 : decode cX8_isSmall 13 = .ok (.goto 4, 3) := by decide +kernel
theorem dX8_isSmall_16 : decode cX8_isSmall 16 = .ok (.iconst 0, 1) := by decide +kernel
theorem dX8_isSmall_17 : decode cX8_isSmall 17 = .ok (.ireturn, 1) := by decide +kernel
theorem dX8_isFigure_0 : decode cX8_isFigure 0 = .ok (.iload_n 0, 1) := by decide +kernel
theorem dX8_isFigure_1 : decode cX8_isFigure 1 = .ok (.bipush 48, 2) := by decide +kernel
theorem dX8_isFigure_3 : decode cX8_isFigure 3 = .ok (.if_icmp .lt 13, 3) := by decide +kernel
theorem dX8_isFigure_6 : decode cX8_isFigure 6 = .ok (.iload_n 0, 1) := by decide +kernel
theorem dX8_isFigure_7 : decode cX8_isFigure 7 = .ok (.bipush 57, 2) := by decide +kernel
theorem dX8_isFigure_9 : decode cX8_isFigure 9 = .ok (.if_icmp .gt 7, 3) := by decide +kernel
theorem dX8_isFigure_12 : decode cX8_isFigure 12 = .ok (.iconst 1, 1) := by decide +kernel
theorem dX8_isFigure_13 : decode cX8_isFigure 13 = .ok (.goto 4, 3) := by decide +kernel
theorem dX8_isFigure_16 : decode cX8_isFigure 16 = .ok (.iconst 0, 1) := by decide +kernel
theorem dX8_isFigure_17 : decode cX8_isFigure 17 = .ok (.ireturn, 1) := by decide +kernel
theorem dX8_step_0 : decode cX8_step 0 = .ok (.aload_n 0, 1) := by decide +kernel
theorem dX8_step_1 : decode cX8_step 1 = .ok (.aload_n 0, 1) := by decide +kernel
theorem dX8_step_2 : decode cX8_step 2 = .ok (.getfield 324, 3) := by decide +kernel
theorem dX8_step_5 : decode cX8_step 5 = .ok (.invokevirtual 327, 3) := by decide +kernel
theorem dX8_step_8 : decode cX8_step 8 = .ok (.bipush 32, 2) := by decide +kernel
theorem dX8_step_10 : decode cX8_step 10 = .ok (.if_icmp .eq 16, 3) := by decide +kernel
theorem dX8_step_13 : decode cX8_step 13 = .ok (.aload_n 0, 1) := by decide +kernel
theorem dX8_step_14 : decode cX8_step 14 = .ok (.aload_n 0, 1) := by decide +kernel
theorem dX8_step_15 : decode cX8_step 15 = .ok (.getfield 324, 3) := by decide +kernel
theorem dX8_step_18 : decode cX8_step 18 = .ok (.invokevirtual 327, 3) := by decide +kernel
theorem dX8_step_21 : decode cX8_step 21 = .ok (.bipush 10, 2) := by decide +kernel
theorem dX8_step_23 : decode cX8_step 23 = .ok (.if_icmp .ne 16, 3) := by decide +kernel
theorem dX8_step_26 : decode cX8_step 26 = .ok (.aload_n 0, 1) := by decide +kernel
theorem dX8_step_27 : decode cX8_step 27 = .ok (.dup, 1) := by decide +kernel
theorem dX8_step_28 : decode cX8_step 28 = .ok (.getfield 324, 3) := by decide +kernel
theorem dX8_step_31 : decode cX8_step 31 = .ok (.iconst 1, 1) := by decide +kernel
theorem dX8_step_32 : decode cX8_step 32 = .ok (.iadd, 1) := by decide +kernel
theorem dX8_step_33 : decode cX8_step 33 = .ok (.putfield 324, 3) := by decide +kernel
theorem dX8_step_36 : decode cX8_step 36 = .ok (.goto (-36), 3) := by decide +kernel
theorem dX8_step_39 : decode cX8_step 39 = .ok (.aload_n 0, 1) := by decide +kernel
theorem dX8_step_40 : decode cX8_step 40 = .ok (.aload_n 0, 1) := by decide +kernel
theorem dX8_step_41 : decode cX8_step 41 = .ok (.getfield 324, 3) := by decide +kernel
theorem dX8_step_44 : decode cX8_step 44 = .ok (.putfield 330, 3) := by decide +kernel
theorem dX8_step_47 : decode cX8_step 47 = .ok (.aload_n 0, 1) := by decide +kernel
theorem dX8_step_48 : decode cX8_step 48 = .ok (.aload_n 0, 1) := by decide +kernel
theorem dX8_step_49 : decode cX8_step 49 = .ok (.getfield 324, 3) := by decide +kernel
theorem dX8_step_52 : decode cX8_step 52 = .ok (.invokevirtual 327, 3) := by decide +kernel
theorem dX8_step_55 : decode cX8_step 55 = .ok (.istore_n 1, 1) := by decide +kernel
theorem dX8_step_56 : decode cX8_step 56 = .ok (.iload_n 1, 1) := by decide +kernel
theorem dX8_step_57 : decode cX8_step 57 = .ok (.iconst (-1), 1) := by decide +kernel
theorem dX8_step_58 : decode cX8_step 58 = .ok (.if_icmp .ne 11, 3) := by decide +kernel
theorem dX8_step_61 : decode cX8_step 61 = .ok (.aload_n 0, 1) := by decide +kernel
theorem dX8_step_62 : decode cX8_step 62 = .ok (.iconst 0, 1) := by decide +kernel
theorem dX8_step_63 : decode cX8_step 63 = .ok (.putfield 333, 3) := by decide +kernel
theorem dX8_step_66 : decode cX8_step 66 = .ok (.goto 102, 3) := by decide +kernel
theorem dX8_step_69 : decode cX8_step 69 = .ok (.iload_n 1, 1) := by decide +kernel
theorem dX8_step_70 : decode cX8_step 70 = .ok (.invokestatic 336, 3) := by decide +kernel
theorem dX8_step_73 : decode cX8_step 73 = .ok (.ifCond .eq 38, 3) := by decide +kernel
theorem dX8_step_76 : decode cX8_step 76 = .ok (.aload_n 0, 1) := by decide +kernel
theorem dX8_step_77 : decode cX8_step 77 = .ok (.aload_n 0, 1) := by decide +kernel
theorem dX8_step_78 : decode cX8_step 78 = .ok (.getfield 324, 3) := by decide +kernel
theorem dX8_step_81 : decode cX8_step 81 = .ok (.invokevirtual 327, 3) := by decide +kernel
theorem dX8_step_84 : decode cX8_step 84 = .ok (.invokestatic 336, 3) := by decide +kernel
theorem dX8_step_87 : decode cX8_step 87 = .ok (.ifCond .eq 16, 3) := by decide +kernel
theorem dX8_step_90 : decode cX8_step 90 = .ok (.aload_n 0, 1) := by decide +kernel
theorem dX8_step_91 : decode cX8_step 91 = .ok (.dup, 1) := by decide +kernel
theorem dX8_step_92 : decode cX8_step 92 = .ok (.getfield 324, 3) := by decide +kernel
theorem dX8_step_95 : decode cX8_step 95 = .ok (.iconst 1, 1) := by decide +kernel
theorem dX8_step_96 : decode cX8_step 96 = .ok (.iadd, 1) := by decide +kernel
theorem dX8_step_97 : decode cX8_step 97 = .ok (.putfield 324, 3) := by decide +kernel
theorem dX8_step_100 : decode cX8_step 100 = .ok (.goto (-24), 3) := by decide +kernel
theorem dX8_step_103 : decode cX8_step 103 = .ok (.aload_n 0, 1) := by decide +kernel
theorem dX8_step_104 : decode cX8_step 104 = .ok (.iconst 1, 1) := by decide +kernel
theorem dX8_step_105 : decode cX8_step 105 = .ok (.putfield 333, 3) := by decide +kernel
theorem dX8_step_108 : decode cX8_step 108 = .ok (.goto 60, 3) := by decide +kernel
theorem dX8_step_111 : decode cX8_step 111 = .ok (.iload_n 1, 1) := by decide +kernel
theorem dX8_step_112 : decode cX8_step 112 = .ok (.invokestatic 339, 3) := by decide +kernel
theorem dX8_step_115 : decode cX8_step 115 = .ok (.ifCond .eq 38, 3) := by decide +kernel
theorem dX8_step_118 : decode cX8_step 118 = .ok (.aload_n 0, 1) := by decide +kernel
theorem dX8_step_119 : decode cX8_step 119 = .ok (.aload_n 0, 1) := by decide +kernel
theorem dX8_step_120 : decode cX8_step 120 = .ok (.getfield 324, 3) := by decide +kernel
theorem dX8_step_123 : decode cX8_step 123 = .ok (.invokevirtual 327, 3) := by decide +kernel
theorem dX8_step_126 : decode cX8_step 126 = .ok (.invokestatic 339, 3) := by decide +kernel
theorem dX8_step_129 : decode cX8_step 129 = .ok (.ifCond .eq 16, 3) := by decide +kernel
theorem dX8_step_132 : decode cX8_step 132 = .ok (.aload_n 0, 1) := by decide +kernel
theorem dX8_step_133 : decode cX8_step 133 = .ok (.dup, 1) := by decide +kernel
theorem dX8_step_134 : decode cX8_step 134 = .ok (.getfield 324, 3) := by decide +kernel
theorem dX8_step_137 : decode cX8_step 137 = .ok (.iconst 1, 1) := by decide +kernel
theorem dX8_step_138 : decode cX8_step 138 = .ok (.iadd, 1) := by decide +kernel
theorem dX8_step_139 : decode cX8_step 139 = .ok (.putfield 324, 3) := by decide +kernel
theorem dX8_step_142 : decode cX8_step 142 = .ok (.goto (-24), 3) := by decide +kernel
theorem dX8_step_145 : decode cX8_step 145 = .ok (.aload_n 0, 1) := by decide +kernel
theorem dX8_step_146 : decode cX8_step 146 = .ok (.iconst 2, 1) := by decide +kernel
theorem dX8_step_147 : decode cX8_step 147 = .ok (.putfield 333, 3) := by decide +kernel
theorem dX8_step_150 : decode cX8_step 150 = .ok (.goto 18, 3) := by decide +kernel
theorem dX8_step_153 : decode cX8_step 153 = .ok (.aload_n 0, 1) := by decide +kernel
theorem dX8_step_154 : decode cX8_step 154 = .ok (.dup, 1) := by decide +kernel
theorem dX8_step_155 : decode cX8_step 155 = .ok (.getfield 324, 3) := by decide +kernel
theorem dX8_step_158 : decode cX8_step 158 = .ok (.iconst 1, 1) := by decide +kernel
theorem dX8_step_159 : decode cX8_step 159 = .ok (.iadd, 1) := by decide +kernel
theorem dX8_step_160 : decode cX8_step 160 = .ok (.putfield 324, 3) := by decide +kernel
theorem dX8_step_163 : decode cX8_step 163 = .ok (.aload_n 0, 1) := by decide +kernel
theorem dX8_step_164 : decode cX8_step 164 = .ok (.iconst 3, 1) := by decide +kernel
theorem dX8_step_165 : decode cX8_step 165 = .ok (.putfield 333, 3) := by decide +kernel
theorem dX8_step_168 : decode cX8_step 168 = .ok (.aload_n 0, 1) := by decide +kernel
theorem dX8_step_169 : decode cX8_step 169 = .ok (.aload_n 0, 1) := by decide +kernel
theorem dX8_step_170 : decode cX8_step 170 = .ok (.getfield 324, 3) := by decide +kernel
theorem dX8_step_173 : decode cX8_step 173 = .ok (.putfield 342, 3) := by decide +kernel
theorem dX8_step_176 : decode cX8_step 176 = .ok (.return_, 1) := by decide +kernel
theorem dX8_opens_0 : decode cX8_opens 0 = .ok (.aload_n 0, 1) := by decide +kernel
theorem dX8_opens_1 : decode cX8_opens 1 = .ok (.iload_n 1, 1) := by decide +kernel
theorem dX8_opens_2 : decode cX8_opens 2 = .ok (.putfield 321, 3) := by decide +kernel
theorem dX8_opens_5 : decode cX8_opens 5 = .ok (.aload_n 0, 1) := by decide +kernel
theorem dX8_opens_6 : decode cX8_opens 6 = .ok (.iconst 0, 1) := by decide +kernel
theorem dX8_opens_7 : decode cX8_opens 7 = .ok (.putfield 324, 3) := by decide +kernel
theorem dX8_opens_10 : decode cX8_opens 10 = .ok (.aload_n 0, 1) := by decide +kernel
theorem dX8_opens_11 : decode cX8_opens 11 = .ok (.iconst 0, 1) := by decide +kernel
theorem dX8_opens_12 : decode cX8_opens 12 = .ok (.putfield 345, 3) := by decide +kernel
theorem dX8_opens_15 : decode cX8_opens 15 = .ok (.aload_n 0, 1) := by decide +kernel
theorem dX8_opens_16 : decode cX8_opens 16 = .ok (.iconst 0, 1) := by decide +kernel
theorem dX8_opens_17 : decode cX8_opens 17 = .ok (.putfield 348, 3) := by decide +kernel
theorem dX8_opens_20 : decode cX8_opens 20 = .ok (.aload_n 0, 1) := by decide +kernel
theorem dX8_opens_21 : decode cX8_opens 21 = .ok (.invokevirtual 351, 3) := by decide +kernel
theorem dX8_opens_24 : decode cX8_opens 24 = .ok (.return_, 1) := by decide +kernel
theorem dX8_wrong_0 : decode cX8_wrong 0 = .ok (.aload_n 0, 1) := by decide +kernel
theorem dX8_wrong_1 : decode cX8_wrong 1 = .ok (.getfield 345, 3) := by decide +kernel
theorem dX8_wrong_4 : decode cX8_wrong 4 = .ok (.ifCond .eq 4, 3) := by decide +kernel
theorem dX8_wrong_7 : decode cX8_wrong 7 = .ok (.return_, 1) := by decide +kernel
theorem dX8_wrong_8 : decode cX8_wrong 8 = .ok (.aload_n 0, 1) := by decide +kernel
theorem dX8_wrong_9 : decode cX8_wrong 9 = .ok (.iload_n 1, 1) := by decide +kernel
theorem dX8_wrong_10 : decode cX8_wrong 10 = .ok (.putfield 345, 3) := by decide +kernel
theorem dX8_wrong_13 : decode cX8_wrong 13 = .ok (.aload_n 0, 1) := by decide +kernel
theorem dX8_wrong_14 : decode cX8_wrong 14 = .ok (.aload_n 0, 1) := by decide +kernel
theorem dX8_wrong_15 : decode cX8_wrong 15 = .ok (.getfield 330, 3) := by decide +kernel
theorem dX8_wrong_18 : decode cX8_wrong 18 = .ok (.putfield 354, 3) := by decide +kernel
theorem dX8_wrong_21 : decode cX8_wrong 21 = .ok (.return_, 1) := by decide +kernel
theorem dX8_pass_0 : decode cX8_pass 0 = .ok (.aload_n 0, 1) := by decide +kernel
theorem dX8_pass_1 : decode cX8_pass 1 = .ok (.getfield 345, 3) := by decide +kernel
theorem dX8_pass_4 : decode cX8_pass 4 = .ok (.ifCond .ne 7, 3) := by decide +kernel
theorem dX8_pass_7 : decode cX8_pass 7 = .ok (.aload_n 0, 1) := by decide +kernel
theorem dX8_pass_8 : decode cX8_pass 8 = .ok (.invokevirtual 351, 3) := by decide +kernel
theorem dX8_pass_11 : decode cX8_pass 11 = .ok (.return_, 1) := by decide +kernel
theorem dX8_isSign_0 : decode cX8_isSign 0 = .ok (.aload_n 0, 1) := by decide +kernel
theorem dX8_isSign_1 : decode cX8_isSign 1 = .ok (.getfield 345, 3) := by decide +kernel
theorem dX8_isSign_4 : decode cX8_isSign 4 = .ok (.ifCond .ne 28, 3) := by decide +kernel
theorem dX8_isSign_7 : decode cX8_isSign 7 = .ok (.aload_n 0, 1) := by decide +kernel
theorem dX8_isSign_8 : decode cX8_isSign 8 = .ok (.getfield 333, 3) := by decide +kernel
theorem dX8_isSign_11 : decode cX8_isSign 11 = .ok (.iconst 3, 1) := by decide +kernel
theorem dX8_isSign_12 : decode cX8_isSign 12 = .ok (.if_icmp .ne 20, 3) := by decide +kernel
theorem dX8_isSign_15 : decode cX8_isSign 15 = .ok (.aload_n 0, 1) := by decide +kernel
theorem dX8_isSign_16 : decode cX8_isSign 16 = .ok (.getfield 76, 3) := by decide +kernel
theorem dX8_isSign_19 : decode cX8_isSign 19 = .ok (.aload_n 0, 1) := by decide +kernel
theorem dX8_isSign_20 : decode cX8_isSign 20 = .ok (.getfield 330, 3) := by decide +kernel
theorem dX8_isSign_23 : decode cX8_isSign 23 = .ok (.iaload, 1) := by decide +kernel
theorem dX8_isSign_24 : decode cX8_isSign 24 = .ok (.iload_n 1, 1) := by decide +kernel
theorem dX8_isSign_25 : decode cX8_isSign 25 = .ok (.if_icmp .ne 7, 3) := by decide +kernel
theorem dX8_isSign_28 : decode cX8_isSign 28 = .ok (.iconst 1, 1) := by decide +kernel
theorem dX8_isSign_29 : decode cX8_isSign 29 = .ok (.goto 4, 3) := by decide +kernel
theorem dX8_isSign_32 : decode cX8_isSign 32 = .ok (.iconst 0, 1) := by decide +kernel
theorem dX8_isSign_33 : decode cX8_isSign 33 = .ok (.ireturn, 1) := by decide +kernel
theorem dX8_isWord_0 : decode cX8_isWord 0 = .ok (.aload_n 0, 1) := by decide +kernel
theorem dX8_isWord_1 : decode cX8_isWord 1 = .ok (.getfield 345, 3) := by decide +kernel
theorem dX8_isWord_4 : decode cX8_isWord 4 = .ok (.ifCond .ne 31, 3) := by decide +kernel
theorem dX8_isWord_7 : decode cX8_isWord 7 = .ok (.aload_n 0, 1) := by decide +kernel
theorem dX8_isWord_8 : decode cX8_isWord 8 = .ok (.getfield 333, 3) := by decide +kernel
theorem dX8_isWord_11 : decode cX8_isWord 11 = .ok (.iconst 1, 1) := by decide +kernel
theorem dX8_isWord_12 : decode cX8_isWord 12 = .ok (.if_icmp .ne 23, 3) := by decide +kernel
theorem dX8_isWord_15 : decode cX8_isWord 15 = .ok (.aload_n 1, 1) := by decide +kernel
theorem dX8_isWord_16 : decode cX8_isWord 16 = .ok (.invokevirtual 357, 3) := by decide +kernel
theorem dX8_isWord_19 : decode cX8_isWord 19 = .ok (.aload_n 0, 1) := by decide +kernel
theorem dX8_isWord_20 : decode cX8_isWord 20 = .ok (.getfield 342, 3) := by decide +kernel
theorem dX8_isWord_23 : decode cX8_isWord 23 = .ok (.aload_n 0, 1) := by decide +kernel
theorem dX8_isWord_24 : decode cX8_isWord 24 = .ok (.getfield 330, 3) := by decide +kernel
theorem dX8_isWord_27 : decode cX8_isWord 27 = .ok (.isub, 1) := by decide +kernel
theorem dX8_isWord_28 : decode cX8_isWord 28 = .ok (.if_icmp .ne 7, 3) := by decide +kernel
theorem dX8_isWord_31 : decode cX8_isWord 31 = .ok (.iconst 1, 1) := by decide +kernel
theorem dX8_isWord_32 : decode cX8_isWord 32 = .ok (.goto 4, 3) := by decide +kernel
theorem dX8_isWord_35 : decode cX8_isWord 35 = .ok (.iconst 0, 1) := by decide +kernel
theorem dX8_isWord_36 : decode cX8_isWord 36 = .ok (.istore_n 2, 1) := by decide +kernel
theorem dX8_isWord_37 : decode cX8_isWord 37 = .ok (.iconst 0, 1) := by decide +kernel
theorem dX8_isWord_38 : decode cX8_isWord 38 = .ok (.istore_n 3, 1) := by decide +kernel
theorem dX8_isWord_39 : decode cX8_isWord 39 = .ok (.iload_n 2, 1) := by decide +kernel
theorem dX8_isWord_40 : decode cX8_isWord 40 = .ok (.ifCond .eq 42, 3) := by decide +kernel
theorem dX8_isWord_43 : decode cX8_isWord 43 = .ok (.iload_n 3, 1) := by decide +kernel
theorem dX8_isWord_44 : decode cX8_isWord 44 = .ok (.aload_n 1, 1) := by decide +kernel
theorem dX8_isWord_45 : decode cX8_isWord 45 = .ok (.invokevirtual 357, 3) := by decide +kernel
theorem dX8_isWord_48 : decode cX8_isWord 48 = .ok (.if_icmp .ge 34, 3) := by decide +kernel
theorem dX8_isWord_51 : decode cX8_isWord 51 = .ok (.aload_n 1, 1) := by decide +kernel
theorem dX8_isWord_52 : decode cX8_isWord 52 = .ok (.iload_n 3, 1) := by decide +kernel
theorem dX8_isWord_53 : decode cX8_isWord 53 = .ok (.invokevirtual 362, 3) := by decide +kernel
theorem dX8_isWord_56 : decode cX8_isWord 56 = .ok (.aload_n 0, 1) := by decide +kernel
theorem dX8_isWord_57 : decode cX8_isWord 57 = .ok (.getfield 76, 3) := by decide +kernel
theorem dX8_isWord_60 : decode cX8_isWord 60 = .ok (.aload_n 0, 1) := by decide +kernel
theorem dX8_isWord_61 : decode cX8_isWord 61 = .ok (.getfield 330, 3) := by decide +kernel
theorem dX8_isWord_64 : decode cX8_isWord 64 = .ok (.iload_n 3, 1) := by decide +kernel
theorem dX8_isWord_65 : decode cX8_isWord 65 = .ok (.iadd, 1) := by decide +kernel
theorem dX8_isWord_66 : decode cX8_isWord 66 = .ok (.iaload, 1) := by decide +kernel
theorem dX8_isWord_67 : decode cX8_isWord 67 = .ok (.if_icmp .ne 7, 3) := by decide +kernel
theorem dX8_isWord_70 : decode cX8_isWord 70 = .ok (.iconst 1, 1) := by decide +kernel
theorem dX8_isWord_71 : decode cX8_isWord 71 = .ok (.goto 4, 3) := by decide +kernel
theorem dX8_isWord_74 : decode cX8_isWord 74 = .ok (.iconst 0, 1) := by decide +kernel
theorem dX8_isWord_75 : decode cX8_isWord 75 = .ok (.istore_n 2, 1) := by decide +kernel
theorem dX8_isWord_76 : decode cX8_isWord 76 = .ok (.iinc 3 1, 3) := by decide +kernel
theorem dX8_isWord_79 : decode cX8_isWord 79 = .ok (.goto (-40), 3) := by decide +kernel
theorem dX8_isWord_82 : decode cX8_isWord 82 = .ok (.iload_n 2, 1) := by decide +kernel
theorem dX8_isWord_83 : decode cX8_isWord 83 = .ok (.ireturn, 1) := by decide +kernel
theorem dX8_isNumber_0 : decode cX8_isNumber 0 = .ok (.aload_n 0, 1) := by decide +kernel
theorem dX8_isNumber_1 : decode cX8_isNumber 1 = .ok (.getfield 345, 3) := by decide +kernel
theorem dX8_isNumber_4 : decode cX8_isNumber 4 = .ok (.ifCond .ne 15, 3) := by decide +kernel
theorem dX8_isNumber_7 : decode cX8_isNumber 7 = .ok (.aload_n 0, 1) := by decide +kernel
theorem dX8_isNumber_8 : decode cX8_isNumber 8 = .ok (.getfield 333, 3) := by decide +kernel
theorem dX8_isNumber_11 : decode cX8_isNumber 11 = .ok (.iconst 2, 1) := by decide +kernel
theorem dX8_isNumber_12 : decode cX8_isNumber 12 = .ok (.if_icmp .ne 7, 3) := by decide +kernel
theorem dX8_isNumber_15 : decode cX8_isNumber 15 = .ok (.iconst 1, 1) := by decide +kernel
theorem dX8_isNumber_16 : decode cX8_isNumber 16 = .ok (.goto 4, 3) := by decide +kernel
theorem dX8_isNumber_19 : decode cX8_isNumber 19 = .ok (.iconst 0, 1) := by decide +kernel
theorem dX8_isNumber_20 : decode cX8_isNumber 20 = .ok (.ireturn, 1) := by decide +kernel
theorem dX8_must_0 : decode cX8_must 0 = .ok (.aload_n 0, 1) := by decide +kernel
theorem dX8_must_1 : decode cX8_must 1 = .ok (.iload_n 1, 1) := by decide +kernel
theorem dX8_must_2 : decode cX8_must 2 = .ok (.invokevirtual 366, 3) := by decide +kernel
theorem dX8_must_5 : decode cX8_must 5 = .ok (.ifCond .ne 8, 3) := by decide +kernel
theorem dX8_must_8 : decode cX8_must 8 = .ok (.aload_n 0, 1) := by decide +kernel
theorem dX8_must_9 : decode cX8_must 9 = .ok (.iconst 1, 1) := by decide +kernel
theorem dX8_must_10 : decode cX8_must 10 = .ok (.invokevirtual 369, 3) := by decide +kernel
theorem dX8_must_13 : decode cX8_must 13 = .ok (.aload_n 0, 1) := by decide +kernel
theorem dX8_must_14 : decode cX8_must 14 = .ok (.invokevirtual 372, 3) := by decide +kernel
theorem dX8_must_17 : decode cX8_must 17 = .ok (.return_, 1) := by decide +kernel
theorem dX8_numberHere_0 : decode cX8_numberHere 0 = .ok (.iconst 0, 1) := by decide +kernel
theorem dX8_numberHere_1 : decode cX8_numberHere 1 = .ok (.istore_n 1, 1) := by decide +kernel
theorem dX8_numberHere_2 : decode cX8_numberHere 2 = .ok (.aload_n 0, 1) := by decide +kernel
theorem dX8_numberHere_3 : decode cX8_numberHere 3 = .ok (.getfield 330, 3) := by decide +kernel
theorem dX8_numberHere_6 : decode cX8_numberHere 6 = .ok (.istore_n 2, 1) := by decide +kernel
theorem dX8_numberHere_7 : decode cX8_numberHere 7 = .ok (.aload_n 0, 1) := by decide +kernel
theorem dX8_numberHere_8 : decode cX8_numberHere 8 = .ok (.invokevirtual 375, 3) := by decide +kernel
theorem dX8_numberHere_11 : decode cX8_numberHere 11 = .ok (.ifCond .eq 37, 3) := by decide +kernel
theorem dX8_numberHere_14 : decode cX8_numberHere 14 = .ok (.iload_n 2, 1) := by decide +kernel
theorem dX8_numberHere_15 : decode cX8_numberHere 15 = .ok (.aload_n 0, 1) := by decide +kernel
theorem dX8_numberHere_16 : decode cX8_numberHere 16 = .ok (.getfield 342, 3) := by decide +kernel
theorem dX8_numberHere_19 : decode cX8_numberHere 19 = .ok (.if_icmp .ge 29, 3) := by decide +kernel
theorem dX8_numberHere_22 : decode cX8_numberHere 22 = .ok (.ldc 132, 2) := by decide +kernel
theorem dX8_numberHere_24 : decode cX8_numberHere 24 = .ok (.bipush 10, 2) := by decide +kernel
theorem dX8_numberHere_26 : decode cX8_numberHere 26 = .ok (.iload_n 1, 1) := by decide +kernel
theorem dX8_numberHere_27 : decode cX8_numberHere 27 = .ok (.imul, 1) := by decide +kernel
theorem dX8_numberHere_28 : decode cX8_numberHere 28 = .ok (.aload_n 0, 1) := by decide +kernel
theorem dX8_numberHere_29 : decode cX8_numberHere 29 = .ok (.getfield 76, 3) := by decide +kernel
theorem dX8_numberHere_32 : decode cX8_numberHere 32 = .ok (.iload_n 2, 1) := by decide +kernel
theorem dX8_numberHere_33 : decode cX8_numberHere 33 = .ok (.iaload, 1) := by decide +kernel
theorem dX8_numberHere_34 : decode cX8_numberHere 34 = .ok (.iadd, 1) := by decide +kernel
theorem dX8_numberHere_35 : decode cX8_numberHere 35 = .ok (.bipush 48, 2) := by decide +kernel
theorem dX8_numberHere_37 : decode cX8_numberHere 37 = .ok (.isub, 1) := by decide +kernel
theorem dX8_numberHere_38 : decode cX8_numberHere 38 = .ok (.invokestatic 133, 3) := by decide +kernel
theorem dX8_numberHere_41 : decode cX8_numberHere 41 = .ok (.istore_n 1, 1) := by decide +kernel
theorem dX8_numberHere_42 : decode cX8_numberHere 42 = .ok (.iinc 2 1, 3) := by decide +kernel
theorem dX8_numberHere_45 : decode cX8_numberHere 45 = .ok (.goto (-38), 3) := by decide +kernel
theorem dX8_numberHere_48 : decode cX8_numberHere 48 = .ok (.iload_n 1, 1) := by decide +kernel
theorem dX8_numberHere_49 : decode cX8_numberHere 49 = .ok (.ireturn, 1) := by decide +kernel
theorem dX8_number_0 : decode cX8_number 0 = .ok (.aload_n 0, 1) := by decide +kernel
theorem dX8_number_1 : decode cX8_number 1 = .ok (.invokevirtual 375, 3) := by decide +kernel
theorem dX8_number_4 : decode cX8_number 4 = .ok (.ifCond .ne 8, 3) := by decide +kernel
theorem dX8_number_7 : decode cX8_number 7 = .ok (.aload_n 0, 1) := by decide +kernel
theorem dX8_number_8 : decode cX8_number 8 = .ok (.iconst 1, 1) := by decide +kernel
theorem dX8_number_9 : decode cX8_number 9 = .ok (.invokevirtual 369, 3) := by decide +kernel
theorem dX8_number_12 : decode cX8_number 12 = .ok (.aload_n 0, 1) := by decide +kernel
theorem dX8_number_13 : decode cX8_number 13 = .ok (.invokevirtual 379, 3) := by decide +kernel
theorem dX8_number_16 : decode cX8_number 16 = .ok (.istore_n 3, 1) := by decide +kernel
theorem dX8_number_17 : decode cX8_number 17 = .ok (.aload_n 0, 1) := by decide +kernel
theorem dX8_number_18 : decode cX8_number 18 = .ok (.getfield 345, 3) := by decide +kernel
theorem dX8_number_21 : decode cX8_number 21 = .ok (.ifCond .ne 17, 3) := by decide +kernel
theorem dX8_number_24 : decode cX8_number 24 = .ok (.iload_n 3, 1) := by decide +kernel
theorem dX8_number_25 : decode cX8_number 25 = .ok (.iload_n 1, 1) := by decide +kernel
theorem dX8_number_26 : decode cX8_number 26 = .ok (.iload_n 2, 1) := by decide +kernel
theorem dX8_number_27 : decode cX8_number 27 = .ok (.invokestatic 94, 3) := by decide +kernel
theorem dX8_number_30 : decode cX8_number 30 = .ok (.ifCond .ne 8, 3) := by decide +kernel
theorem dX8_number_33 : decode cX8_number 33 = .ok (.aload_n 0, 1) := by decide +kernel
theorem dX8_number_34 : decode cX8_number 34 = .ok (.iconst 2, 1) := by decide +kernel
theorem dX8_number_35 : decode cX8_number 35 = .ok (.invokevirtual 369, 3) := by decide +kernel
theorem dX8_number_38 : decode cX8_number 38 = .ok (.aload_n 0, 1) := by decide +kernel
theorem dX8_number_39 : decode cX8_number 39 = .ok (.invokevirtual 372, 3) := by decide +kernel
theorem dX8_number_42 : decode cX8_number 42 = .ok (.aload_n 0, 1) := by decide +kernel
theorem dX8_number_43 : decode cX8_number 43 = .ok (.getfield 345, 3) := by decide +kernel
theorem dX8_number_46 : decode cX8_number 46 = .ok (.ifCond .ne 7, 3) := by decide +kernel
theorem dX8_number_49 : decode cX8_number 49 = .ok (.iload_n 3, 1) := by decide +kernel
theorem dX8_number_50 : decode cX8_number 50 = .ok (.goto 4, 3) := by decide +kernel
theorem dX8_number_53 : decode cX8_number 53 = .ok (.iload_n 1, 1) := by decide +kernel
theorem dX8_number_54 : decode cX8_number 54 = .ok (.ireturn, 1) := by decide +kernel
theorem dX8_otherNumber_0 : decode cX8_otherNumber 0 = .ok (.aload_n 0, 1) := by decide +kernel
theorem dX8_otherNumber_1 : decode cX8_otherNumber 1 = .ok (.invokevirtual 375, 3) := by decide +kernel
theorem dX8_otherNumber_4 : decode cX8_otherNumber 4 = .ok (.ifCond .eq 16, 3) := by decide +kernel
theorem dX8_otherNumber_7 : decode cX8_otherNumber 7 = .ok (.aload_n 0, 1) := by decide +kernel
theorem dX8_otherNumber_8 : decode cX8_otherNumber 8 = .ok (.invokevirtual 379, 3) := by decide +kernel
theorem dX8_otherNumber_11 : decode cX8_otherNumber 11 = .ok (.iload_n 1, 1) := by decide +kernel
theorem dX8_otherNumber_12 : decode cX8_otherNumber 12 = .ok (.if_icmp .ne 8, 3) := by decide +kernel
theorem dX8_otherNumber_15 : decode cX8_otherNumber 15 = .ok (.aload_n 0, 1) := by decide +kernel
theorem dX8_otherNumber_16 : decode cX8_otherNumber 16 = .ok (.iconst 2, 1) := by decide +kernel
theorem dX8_otherNumber_17 : decode cX8_otherNumber 17 = .ok (.invokevirtual 369, 3) := by decide +kernel
theorem dX8_otherNumber_20 : decode cX8_otherNumber 20 = .ok (.aload_n 0, 1) := by decide +kernel
theorem dX8_otherNumber_21 : decode cX8_otherNumber 21 = .ok (.iconst 0, 1) := by decide +kernel
theorem dX8_otherNumber_22 : decode cX8_otherNumber 22 = .ok (.iload_n 2, 1) := by decide +kernel
theorem dX8_otherNumber_23 : decode cX8_otherNumber 23 = .ok (.invokevirtual 382, 3) := by decide +kernel
theorem dX8_otherNumber_26 : decode cX8_otherNumber 26 = .ok (.ireturn, 1) := by decide +kernel
theorem dX8_ends_0 : decode cX8_ends 0 = .ok (.aload_n 0, 1) := by decide +kernel
theorem dX8_ends_1 : decode cX8_ends 1 = .ok (.iconst 0, 1) := by decide +kernel
theorem dX8_ends_2 : decode cX8_ends 2 = .ok (.putfield 233, 3) := by decide +kernel
theorem dX8_ends_5 : decode cX8_ends 5 = .ok (.aload_n 0, 1) := by decide +kernel
theorem dX8_ends_6 : decode cX8_ends 6 = .ok (.aload_n 0, 1) := by decide +kernel
theorem dX8_ends_7 : decode cX8_ends 7 = .ok (.getfield 345, 3) := by decide +kernel
theorem dX8_ends_10 : decode cX8_ends 10 = .ok (.ifCond .ne 7, 3) := by decide +kernel
theorem dX8_ends_13 : decode cX8_ends 13 = .ok (.iconst (-1), 1) := by decide +kernel
theorem dX8_ends_14 : decode cX8_ends 14 = .ok (.goto 7, 3) := by decide +kernel
theorem dX8_ends_17 : decode cX8_ends 17 = .ok (.aload_n 0, 1) := by decide +kernel
theorem dX8_ends_18 : decode cX8_ends 18 = .ok (.getfield 354, 3) := by decide +kernel
theorem dX8_ends_21 : decode cX8_ends 21 = .ok (.putfield 79, 3) := by decide +kernel
theorem dX8_ends_24 : decode cX8_ends 24 = .ok (.aload_n 0, 1) := by decide +kernel
theorem dX8_ends_25 : decode cX8_ends 25 = .ok (.getfield 345, 3) := by decide +kernel
theorem dX8_ends_28 : decode cX8_ends 28 = .ok (.ireturn, 1) := by decide +kernel
theorem dX8_readNear_0 : decode cX8_readNear 0 = .ok (.aload_n 0, 1) := by decide +kernel
theorem dX8_readNear_1 : decode cX8_readNear 1 = .ok (.invokevirtual 372, 3) := by decide +kernel
theorem dX8_readNear_4 : decode cX8_readNear 4 = .ok (.aload_n 0, 1) := by decide +kernel
theorem dX8_readNear_5 : decode cX8_readNear 5 = .ok (.iconst 0, 1) := by decide +kernel
theorem dX8_readNear_6 : decode cX8_readNear 6 = .ok (.bipush 9, 2) := by decide +kernel
theorem dX8_readNear_8 : decode cX8_readNear 8 = .ok (.invokevirtual 382, 3) := by decide +kernel
theorem dX8_readNear_11 : decode cX8_readNear 11 = .ok (.istore_n 1, 1) := by decide +kernel
theorem dX8_readNear_12 : decode cX8_readNear 12 = .ok (.aload_n 0, 1) := by decide +kernel
theorem dX8_readNear_13 : decode cX8_readNear 13 = .ok (.iload_n 1, 1) := by decide +kernel
theorem dX8_readNear_14 : decode cX8_readNear 14 = .ok (.bipush 9, 2) := by decide +kernel
theorem dX8_readNear_16 : decode cX8_readNear 16 = .ok (.invokevirtual 385, 3) := by decide +kernel
theorem dX8_readNear_19 : decode cX8_readNear 19 = .ok (.istore_n 2, 1) := by decide +kernel
theorem dX8_readNear_20 : decode cX8_readNear 20 = .ok (.aload_n 0, 1) := by decide +kernel
theorem dX8_readNear_21 : decode cX8_readNear 21 = .ok (.getfield 345, 3) := by decide +kernel
theorem dX8_readNear_24 : decode cX8_readNear 24 = .ok (.ifCond .ne 13, 3) := by decide +kernel
theorem dX8_readNear_27 : decode cX8_readNear 27 = .ok (.aload_n 0, 1) := by decide +kernel
theorem dX8_readNear_28 : decode cX8_readNear 28 = .ok (.getfield 13, 3) := by decide +kernel
theorem dX8_readNear_31 : decode cX8_readNear 31 = .ok (.iload_n 1, 1) := by decide +kernel
theorem dX8_readNear_32 : decode cX8_readNear 32 = .ok (.iload_n 2, 1) := by decide +kernel
theorem dX8_readNear_33 : decode cX8_readNear 33 = .ok (.iconst 1, 1) := by decide +kernel
theorem dX8_readNear_34 : decode cX8_readNear 34 = .ok (.invokestatic 315, 3) := by decide +kernel
theorem dX8_readNear_37 : decode cX8_readNear 37 = .ok (.return_, 1) := by decide +kernel
theorem dX8_readName_0 : decode cX8_readName 0 = .ok (.aload_n 0, 1) := by decide +kernel
theorem dX8_readName_1 : decode cX8_readName 1 = .ok (.getfield 345, 3) := by decide +kernel
theorem dX8_readName_4 : decode cX8_readName 4 = .ok (.ifCond .ne 16, 3) := by decide +kernel
theorem dX8_readName_7 : decode cX8_readName 7 = .ok (.aload_n 0, 1) := by decide +kernel
theorem dX8_readName_8 : decode cX8_readName 8 = .ok (.getfield 333, 3) := by decide +kernel
theorem dX8_readName_11 : decode cX8_readName 11 = .ok (.iconst 1, 1) := by decide +kernel
theorem dX8_readName_12 : decode cX8_readName 12 = .ok (.if_icmp .eq 8, 3) := by decide +kernel
theorem dX8_readName_15 : decode cX8_readName 15 = .ok (.aload_n 0, 1) := by decide +kernel
theorem dX8_readName_16 : decode cX8_readName 16 = .ok (.iconst 1, 1) := by decide +kernel
theorem dX8_readName_17 : decode cX8_readName 17 = .ok (.invokevirtual 369, 3) := by decide +kernel
theorem dX8_readName_20 : decode cX8_readName 20 = .ok (.aload_n 0, 1) := by decide +kernel
theorem dX8_readName_21 : decode cX8_readName 21 = .ok (.getfield 345, 3) := by decide +kernel
theorem dX8_readName_24 : decode cX8_readName 24 = .ok (.ifCond .ne 22, 3) := by decide +kernel
theorem dX8_readName_27 : decode cX8_readName 27 = .ok (.aload_n 0, 1) := by decide +kernel
theorem dX8_readName_28 : decode cX8_readName 28 = .ok (.getfield 342, 3) := by decide +kernel
theorem dX8_readName_31 : decode cX8_readName 31 = .ok (.aload_n 0, 1) := by decide +kernel
theorem dX8_readName_32 : decode cX8_readName 32 = .ok (.getfield 330, 3) := by decide +kernel
theorem dX8_readName_35 : decode cX8_readName 35 = .ok (.isub, 1) := by decide +kernel
theorem dX8_readName_36 : decode cX8_readName 36 = .ok (.bipush 10, 2) := by decide +kernel
theorem dX8_readName_38 : decode cX8_readName 38 = .ok (.if_icmp .le 8, 3) := by decide +kernel
theorem dX8_readName_41 : decode cX8_readName 41 = .ok (.aload_n 0, 1) := by decide +kernel
theorem dX8_readName_42 : decode cX8_readName 42 = .ok (.iconst 3, 1) := by decide +kernel
theorem dX8_readName_43 : decode cX8_readName 43 = .ok (.invokevirtual 369, 3) := by decide +kernel
theorem dX8_readName_46 : decode cX8_readName 46 = .ok (.aload_n 0, 1) := by decide +kernel
theorem dX8_readName_47 : decode cX8_readName 47 = .ok (.getfield 345, 3) := by decide +kernel
theorem dX8_readName_50 : decode cX8_readName 50 = .ok (.ifCond .eq 4, 3) := by decide +kernel
theorem dX8_readName_53 : decode cX8_readName 53 = .ok (.return_, 1) := by decide +kernel
theorem dX8_readName_54 : decode cX8_readName 54 = .ok (.aload_n 0, 1) := by decide +kernel
theorem dX8_readName_55 : decode cX8_readName 55 = .ok (.getfield 13, 3) := by decide +kernel
theorem dX8_readName_58 : decode cX8_readName 58 = .ok (.iload_n 1, 1) := by decide +kernel
theorem dX8_readName_59 : decode cX8_readName 59 = .ok (.iconst 0, 1) := by decide +kernel
theorem dX8_readName_60 : decode cX8_readName 60 = .ok (.iadd, 1) := by decide +kernel
theorem dX8_readName_61 : decode cX8_readName 61 = .ok (.aload_n 0, 1) := by decide +kernel
theorem dX8_readName_62 : decode cX8_readName 62 = .ok (.getfield 342, 3) := by decide +kernel
theorem dX8_readName_65 : decode cX8_readName 65 = .ok (.aload_n 0, 1) := by decide +kernel
theorem dX8_readName_66 : decode cX8_readName 66 = .ok (.getfield 330, 3) := by decide +kernel
theorem dX8_readName_69 : decode cX8_readName 69 = .ok (.isub, 1) := by decide +kernel
theorem dX8_readName_70 : decode cX8_readName 70 = .ok (.iastore, 1) := by decide +kernel
theorem dX8_readName_71 : decode cX8_readName 71 = .ok (.aload_n 0, 1) := by decide +kernel
theorem dX8_readName_72 : decode cX8_readName 72 = .ok (.getfield 330, 3) := by decide +kernel
theorem dX8_readName_75 : decode cX8_readName 75 = .ok (.istore_n 2, 1) := by decide +kernel
theorem dX8_readName_76 : decode cX8_readName 76 = .ok (.iload_n 2, 1) := by decide +kernel
theorem dX8_readName_77 : decode cX8_readName 77 = .ok (.aload_n 0, 1) := by decide +kernel
theorem dX8_readName_78 : decode cX8_readName 78 = .ok (.getfield 342, 3) := by decide +kernel
theorem dX8_readName_81 : decode cX8_readName 81 = .ok (.if_icmp .ge 30, 3) := by decide +kernel
theorem dX8_readName_84 : decode cX8_readName 84 = .ok (.aload_n 0, 1) := by decide +kernel
theorem dX8_readName_85 : decode cX8_readName 85 = .ok (.getfield 13, 3) := by decide +kernel
theorem dX8_readName_88 : decode cX8_readName 88 = .ok (.iload_n 1, 1) := by decide +kernel
theorem dX8_readName_89 : decode cX8_readName 89 = .ok (.iconst 1, 1) := by decide +kernel
theorem dX8_readName_90 : decode cX8_readName 90 = .ok (.iadd, 1) := by decide +kernel
theorem dX8_readName_91 : decode cX8_readName 91 = .ok (.iload_n 2, 1) := by decide +kernel
theorem dX8_readName_92 : decode cX8_readName 92 = .ok (.iadd, 1) := by decide +kernel
theorem dX8_readName_93 : decode cX8_readName 93 = .ok (.aload_n 0, 1) := by decide +kernel
theorem dX8_readName_94 : decode cX8_readName 94 = .ok (.getfield 330, 3) := by decide +kernel
theorem dX8_readName_97 : decode cX8_readName 97 = .ok (.isub, 1) := by decide +kernel
theorem dX8_readName_98 : decode cX8_readName 98 = .ok (.aload_n 0, 1) := by decide +kernel
theorem dX8_readName_99 : decode cX8_readName 99 = .ok (.getfield 76, 3) := by decide +kernel
theorem dX8_readName_102 : decode cX8_readName 102 = .ok (.iload_n 2, 1) := by decide +kernel
theorem dX8_readName_103 : decode cX8_readName 103 = .ok (.iaload, 1) := by decide +kernel
theorem dX8_readName_104 : decode cX8_readName 104 = .ok (.iastore, 1) := by decide +kernel
theorem dX8_readName_105 : decode cX8_readName 105 = .ok (.iinc 2 1, 3) := by decide +kernel
theorem dX8_readName_108 : decode cX8_readName 108 = .ok (.goto (-32), 3) := by decide +kernel
theorem dX8_readName_111 : decode cX8_readName 111 = .ok (.aload_n 0, 1) := by decide +kernel
theorem dX8_readName_112 : decode cX8_readName 112 = .ok (.invokevirtual 372, 3) := by decide +kernel
theorem dX8_readName_115 : decode cX8_readName 115 = .ok (.return_, 1) := by decide +kernel
theorem dX8_readMark_0 : decode cX8_readMark 0 = .ok (.aload_n 0, 1) := by decide +kernel
theorem dX8_readMark_1 : decode cX8_readMark 1 = .ok (.getfield 13, 3) := by decide +kernel
theorem dX8_readMark_4 : decode cX8_readMark 4 = .ok (.iconst 1, 1) := by decide +kernel
theorem dX8_readMark_5 : decode cX8_readMark 5 = .ok (.iaload, 1) := by decide +kernel
theorem dX8_readMark_6 : decode cX8_readMark 6 = .ok (.bipush 12, 2) := by decide +kernel
theorem dX8_readMark_8 : decode cX8_readMark 8 = .ok (.if_icmp .ne 8, 3) := by decide +kernel
theorem dX8_readMark_11 : decode cX8_readMark 11 = .ok (.aload_n 0, 1) := by decide +kernel
theorem dX8_readMark_12 : decode cX8_readMark 12 = .ok (.iconst 4, 1) := by decide +kernel
theorem dX8_readMark_13 : decode cX8_readMark 13 = .ok (.invokevirtual 369, 3) := by decide +kernel
theorem dX8_readMark_16 : decode cX8_readMark 16 = .ok (.aload_n 0, 1) := by decide +kernel
theorem dX8_readMark_17 : decode cX8_readMark 17 = .ok (.invokevirtual 372, 3) := by decide +kernel
theorem dX8_readMark_20 : decode cX8_readMark 20 = .ok (.aload_n 0, 1) := by decide +kernel
theorem dX8_readMark_21 : decode cX8_readMark 21 = .ok (.getfield 345, 3) := by decide +kernel
theorem dX8_readMark_24 : decode cX8_readMark 24 = .ok (.ifCond .eq 4, 3) := by decide +kernel
theorem dX8_readMark_27 : decode cX8_readMark 27 = .ok (.return_, 1) := by decide +kernel
theorem dX8_readMark_28 : decode cX8_readMark 28 = .ok (.bipush 18, 2) := by decide +kernel
theorem dX8_readMark_30 : decode cX8_readMark 30 = .ok (.bipush 51, 2) := by decide +kernel
theorem dX8_readMark_32 : decode cX8_readMark 32 = .ok (.aload_n 0, 1) := by decide +kernel
theorem dX8_readMark_33 : decode cX8_readMark 33 = .ok (.getfield 13, 3) := by decide +kernel
theorem dX8_readMark_36 : decode cX8_readMark 36 = .ok (.iconst 1, 1) := by decide +kernel
theorem dX8_readMark_37 : decode cX8_readMark 37 = .ok (.iaload, 1) := by decide +kernel
theorem dX8_readMark_38 : decode cX8_readMark 38 = .ok (.imul, 1) := by decide +kernel
theorem dX8_readMark_39 : decode cX8_readMark 39 = .ok (.iadd, 1) := by decide +kernel
theorem dX8_readMark_40 : decode cX8_readMark 40 = .ok (.istore_n 1, 1) := by decide +kernel
theorem dX8_readMark_41 : decode cX8_readMark 41 = .ok (.aload_n 0, 1) := by decide +kernel
theorem dX8_readMark_42 : decode cX8_readMark 42 = .ok (.iload_n 1, 1) := by decide +kernel
theorem dX8_readMark_43 : decode cX8_readMark 43 = .ok (.invokevirtual 388, 3) := by decide +kernel
theorem dX8_readMark_46 : decode cX8_readMark 46 = .ok (.aload_n 0, 1) := by decide +kernel
theorem dX8_readMark_47 : decode cX8_readMark 47 = .ok (.iconst 0, 1) := by decide +kernel
theorem dX8_readMark_48 : decode cX8_readMark 48 = .ok (.sipush 9999, 3) := by decide +kernel
theorem dX8_readMark_51 : decode cX8_readMark 51 = .ok (.invokevirtual 382, 3) := by decide +kernel
theorem dX8_readMark_54 : decode cX8_readMark 54 = .ok (.istore_n 2, 1) := by decide +kernel
theorem dX8_readMark_55 : decode cX8_readMark 55 = .ok (.iconst 0, 1) := by decide +kernel
theorem dX8_readMark_56 : decode cX8_readMark 56 = .ok (.istore_n 3, 1) := by decide +kernel
theorem dX8_readMark_57 : decode cX8_readMark 57 = .ok (.aload_n 0, 1) := by decide +kernel
theorem dX8_readMark_58 : decode cX8_readMark 58 = .ok (.invokevirtual 375, 3) := by decide +kernel
theorem dX8_readMark_61 : decode cX8_readMark 61 = .ok (.ifCond .eq 49, 3) := by decide +kernel
theorem dX8_readMark_64 : decode cX8_readMark 64 = .ok (.aload_n 0, 1) := by decide +kernel
theorem dX8_readMark_65 : decode cX8_readMark 65 = .ok (.invokevirtual 379, 3) := by decide +kernel
theorem dX8_readMark_68 : decode cX8_readMark 68 = .ok (.istore 4, 2) := by decide +kernel
theorem dX8_readMark_70 : decode cX8_readMark 70 = .ok (.iload 4, 2) := by decide +kernel
theorem dX8_readMark_72 : decode cX8_readMark 72 = .ok (.bipush 10, 2) := by decide +kernel
theorem dX8_readMark_74 : decode cX8_readMark 74 = .ok (.if_icmp .ge 17, 3) := by decide +kernel
theorem dX8_readMark_77 : decode cX8_readMark 77 = .ok (.iload_n 3, 1) := by decide +kernel
theorem dX8_readMark_78 : decode cX8_readMark 78 = .ok (.iload 4, 2) := by decide +kernel
theorem dX8_readMark_80 : decode cX8_readMark 80 = .ok (.invokestatic 151, 3) := by decide +kernel
theorem dX8_readMark_83 : decode cX8_readMark 83 = .ok (.ifCond .eq 8, 3) := by decide +kernel
theorem dX8_readMark_86 : decode cX8_readMark 86 = .ok (.aload_n 0, 1) := by decide +kernel
theorem dX8_readMark_87 : decode cX8_readMark 87 = .ok (.iconst 2, 1) := by decide +kernel
theorem dX8_readMark_88 : decode cX8_readMark 88 = .ok (.invokevirtual 369, 3) := by decide +kernel
theorem dX8_readMark_91 : decode cX8_readMark 91 = .ok (.aload_n 0, 1) := by decide +kernel
theorem dX8_readMark_92 : decode cX8_readMark 92 = .ok (.iconst 0, 1) := by decide +kernel
theorem dX8_readMark_93 : decode cX8_readMark 93 = .ok (.bipush 9, 2) := by decide +kernel
theorem dX8_readMark_95 : decode cX8_readMark 95 = .ok (.invokevirtual 382, 3) := by decide +kernel
theorem dX8_readMark_98 : decode cX8_readMark 98 = .ok (.istore 4, 2) := by decide +kernel
theorem dX8_readMark_100 : decode cX8_readMark 100 = .ok (.iload_n 3, 1) := by decide +kernel
theorem dX8_readMark_101 : decode cX8_readMark 101 = .ok (.iconst 1, 1) := by decide +kernel
theorem dX8_readMark_102 : decode cX8_readMark 102 = .ok (.iload 4, 2) := by decide +kernel
theorem dX8_readMark_104 : decode cX8_readMark 104 = .ok (.ishl, 1) := by decide +kernel
theorem dX8_readMark_105 : decode cX8_readMark 105 = .ok (.ior, 1) := by decide +kernel
theorem dX8_readMark_106 : decode cX8_readMark 106 = .ok (.istore_n 3, 1) := by decide +kernel
theorem dX8_readMark_107 : decode cX8_readMark 107 = .ok (.goto (-50), 3) := by decide +kernel
theorem dX8_readMark_110 : decode cX8_readMark 110 = .ok (.aload_n 0, 1) := by decide +kernel
theorem dX8_readMark_111 : decode cX8_readMark 111 = .ok (.getfield 345, 3) := by decide +kernel
theorem dX8_readMark_114 : decode cX8_readMark 114 = .ok (.ifCond .eq 4, 3) := by decide +kernel
theorem dX8_readMark_117 : decode cX8_readMark 117 = .ok (.return_, 1) := by decide +kernel
theorem dX8_readMark_118 : decode cX8_readMark 118 = .ok (.aload_n 0, 1) := by decide +kernel
theorem dX8_readMark_119 : decode cX8_readMark 119 = .ok (.getfield 13, 3) := by decide +kernel
theorem dX8_readMark_122 : decode cX8_readMark 122 = .ok (.iload_n 1, 1) := by decide +kernel
theorem dX8_readMark_123 : decode cX8_readMark 123 = .ok (.bipush 12, 2) := by decide +kernel
theorem dX8_readMark_125 : decode cX8_readMark 125 = .ok (.iadd, 1) := by decide +kernel
theorem dX8_readMark_126 : decode cX8_readMark 126 = .ok (.iload_n 2, 1) := by decide +kernel
theorem dX8_readMark_127 : decode cX8_readMark 127 = .ok (.iastore, 1) := by decide +kernel
theorem dX8_readMark_128 : decode cX8_readMark 128 = .ok (.aload_n 0, 1) := by decide +kernel
theorem dX8_readMark_129 : decode cX8_readMark 129 = .ok (.getfield 13, 3) := by decide +kernel
theorem dX8_readMark_132 : decode cX8_readMark 132 = .ok (.iload_n 1, 1) := by decide +kernel
theorem dX8_readMark_133 : decode cX8_readMark 133 = .ok (.bipush 11, 2) := by decide +kernel
theorem dX8_readMark_135 : decode cX8_readMark 135 = .ok (.iadd, 1) := by decide +kernel
theorem dX8_readMark_136 : decode cX8_readMark 136 = .ok (.iload_n 3, 1) := by decide +kernel
theorem dX8_readMark_137 : decode cX8_readMark 137 = .ok (.iastore, 1) := by decide +kernel
theorem dX8_readMark_138 : decode cX8_readMark 138 = .ok (.aload_n 0, 1) := by decide +kernel
theorem dX8_readMark_139 : decode cX8_readMark 139 = .ok (.getfield 13, 3) := by decide +kernel
theorem dX8_readMark_142 : decode cX8_readMark 142 = .ok (.iconst 1, 1) := by decide +kernel
theorem dX8_readMark_143 : decode cX8_readMark 143 = .ok (.dup2, 1) := by decide +kernel
theorem dX8_readMark_144 : decode cX8_readMark 144 = .ok (.iaload, 1) := by decide +kernel
theorem dX8_readMark_145 : decode cX8_readMark 145 = .ok (.iconst 1, 1) := by decide +kernel
theorem dX8_readMark_146 : decode cX8_readMark 146 = .ok (.iadd, 1) := by decide +kernel
theorem dX8_readMark_147 : decode cX8_readMark 147 = .ok (.iastore, 1) := by decide +kernel
theorem dX8_readMark_148 : decode cX8_readMark 148 = .ok (.return_, 1) := by decide +kernel
theorem dX8_readUse_0 : decode cX8_readUse 0 = .ok (.aload_n 0, 1) := by decide +kernel
theorem dX8_readUse_1 : decode cX8_readUse 1 = .ok (.invokevirtual 372, 3) := by decide +kernel
theorem dX8_readUse_4 : decode cX8_readUse 4 = .ok (.aload_n 0, 1) := by decide +kernel
theorem dX8_readUse_5 : decode cX8_readUse 5 = .ok (.invokevirtual 375, 3) := by decide +kernel
theorem dX8_readUse_8 : decode cX8_readUse 8 = .ok (.ifCond .eq 10, 3) := by decide +kernel
theorem dX8_readUse_11 : decode cX8_readUse 11 = .ok (.aload_n 0, 1) := by decide +kernel
theorem dX8_readUse_12 : decode cX8_readUse 12 = .ok (.invokevirtual 379, 3) := by decide +kernel
theorem dX8_readUse_15 : decode cX8_readUse 15 = .ok (.goto 4, 3) := by decide +kernel
theorem dX8_readUse_18 : decode cX8_readUse 18 = .ok (.iconst 0, 1) := by decide +kernel
theorem dX8_readUse_19 : decode cX8_readUse 19 = .ok (.istore_n 1, 1) := by decide +kernel
theorem dX8_readUse_20 : decode cX8_readUse 20 = .ok (.bipush 18, 2) := by decide +kernel
theorem dX8_readUse_22 : decode cX8_readUse 22 = .ok (.bipush 51, 2) := by decide +kernel
theorem dX8_readUse_24 : decode cX8_readUse 24 = .ok (.iload_n 1, 1) := by decide +kernel
theorem dX8_readUse_25 : decode cX8_readUse 25 = .ok (.bipush 11, 2) := by decide +kernel
theorem dX8_readUse_27 : decode cX8_readUse 27 = .ok (.invokestatic 133, 3) := by decide +kernel
theorem dX8_readUse_30 : decode cX8_readUse 30 = .ok (.imul, 1) := by decide +kernel
theorem dX8_readUse_31 : decode cX8_readUse 31 = .ok (.iadd, 1) := by decide +kernel
theorem dX8_readUse_32 : decode cX8_readUse 32 = .ok (.istore_n 2, 1) := by decide +kernel
theorem dX8_readUse_33 : decode cX8_readUse 33 = .ok (.aload_n 0, 1) := by decide +kernel
theorem dX8_readUse_34 : decode cX8_readUse 34 = .ok (.invokevirtual 375, 3) := by decide +kernel
theorem dX8_readUse_37 : decode cX8_readUse 37 = .ok (.ifCond .eq 32, 3) := by decide +kernel
theorem dX8_readUse_40 : decode cX8_readUse 40 = .ok (.iload_n 1, 1) := by decide +kernel
theorem dX8_readUse_41 : decode cX8_readUse 41 = .ok (.aload_n 0, 1) := by decide +kernel
theorem dX8_readUse_42 : decode cX8_readUse 42 = .ok (.getfield 13, 3) := by decide +kernel
theorem dX8_readUse_45 : decode cX8_readUse 45 = .ok (.iconst 1, 1) := by decide +kernel
theorem dX8_readUse_46 : decode cX8_readUse 46 = .ok (.iaload, 1) := by decide +kernel
theorem dX8_readUse_47 : decode cX8_readUse 47 = .ok (.if_icmp .ge 22, 3) := by decide +kernel
theorem dX8_readUse_50 : decode cX8_readUse 50 = .ok (.aload_n 0, 1) := by decide +kernel
theorem dX8_readUse_51 : decode cX8_readUse 51 = .ok (.getfield 13, 3) := by decide +kernel
theorem dX8_readUse_54 : decode cX8_readUse 54 = .ok (.iload_n 2, 1) := by decide +kernel
theorem dX8_readUse_55 : decode cX8_readUse 55 = .ok (.bipush 13, 2) := by decide +kernel
theorem dX8_readUse_57 : decode cX8_readUse 57 = .ok (.iadd, 1) := by decide +kernel
theorem dX8_readUse_58 : decode cX8_readUse 58 = .ok (.iaload, 1) := by decide +kernel
theorem dX8_readUse_59 : decode cX8_readUse 59 = .ok (.bipush 12, 2) := by decide +kernel
theorem dX8_readUse_61 : decode cX8_readUse 61 = .ok (.if_icmp .ne 8, 3) := by decide +kernel
theorem dX8_readUse_64 : decode cX8_readUse 64 = .ok (.aload_n 0, 1) := by decide +kernel
theorem dX8_readUse_65 : decode cX8_readUse 65 = .ok (.iconst 4, 1) := by decide +kernel
theorem dX8_readUse_66 : decode cX8_readUse 66 = .ok (.invokevirtual 369, 3) := by decide +kernel
theorem dX8_readUse_69 : decode cX8_readUse 69 = .ok (.aload_n 0, 1) := by decide +kernel
theorem dX8_readUse_70 : decode cX8_readUse 70 = .ok (.iconst 0, 1) := by decide +kernel
theorem dX8_readUse_71 : decode cX8_readUse 71 = .ok (.aload_n 0, 1) := by decide +kernel
theorem dX8_readUse_72 : decode cX8_readUse 72 = .ok (.getfield 13, 3) := by decide +kernel
theorem dX8_readUse_75 : decode cX8_readUse 75 = .ok (.iconst 1, 1) := by decide +kernel
theorem dX8_readUse_76 : decode cX8_readUse 76 = .ok (.iaload, 1) := by decide +kernel
theorem dX8_readUse_77 : decode cX8_readUse 77 = .ok (.iconst 1, 1) := by decide +kernel
theorem dX8_readUse_78 : decode cX8_readUse 78 = .ok (.isub, 1) := by decide +kernel
theorem dX8_readUse_79 : decode cX8_readUse 79 = .ok (.invokevirtual 382, 3) := by decide +kernel
theorem dX8_readUse_82 : decode cX8_readUse 82 = .ok (.istore_n 1, 1) := by decide +kernel
theorem dX8_readUse_83 : decode cX8_readUse 83 = .ok (.aload_n 0, 1) := by decide +kernel
theorem dX8_readUse_84 : decode cX8_readUse 84 = .ok (.iconst 0, 1) := by decide +kernel
theorem dX8_readUse_85 : decode cX8_readUse 85 = .ok (.iconst 2, 1) := by decide +kernel
theorem dX8_readUse_86 : decode cX8_readUse 86 = .ok (.aload_n 0, 1) := by decide +kernel
theorem dX8_readUse_87 : decode cX8_readUse 87 = .ok (.getfield 13, 3) := by decide +kernel
theorem dX8_readUse_90 : decode cX8_readUse 90 = .ok (.iconst 0, 1) := by decide +kernel
theorem dX8_readUse_91 : decode cX8_readUse 91 = .ok (.iaload, 1) := by decide +kernel
theorem dX8_readUse_92 : decode cX8_readUse 92 = .ok (.imul, 1) := by decide +kernel
theorem dX8_readUse_93 : decode cX8_readUse 93 = .ok (.iconst 1, 1) := by decide +kernel
theorem dX8_readUse_94 : decode cX8_readUse 94 = .ok (.isub, 1) := by decide +kernel
theorem dX8_readUse_95 : decode cX8_readUse 95 = .ok (.invokevirtual 382, 3) := by decide +kernel
theorem dX8_readUse_98 : decode cX8_readUse 98 = .ok (.istore_n 3, 1) := by decide +kernel
theorem dX8_readUse_99 : decode cX8_readUse 99 = .ok (.aload_n 0, 1) := by decide +kernel
theorem dX8_readUse_100 : decode cX8_readUse 100 = .ok (.iconst 0, 1) := by decide +kernel
theorem dX8_readUse_101 : decode cX8_readUse 101 = .ok (.sipush 9999, 3) := by decide +kernel
theorem dX8_readUse_104 : decode cX8_readUse 104 = .ok (.invokevirtual 382, 3) := by decide +kernel
theorem dX8_readUse_107 : decode cX8_readUse 107 = .ok (.istore 4, 2) := by decide +kernel
theorem dX8_readUse_109 : decode cX8_readUse 109 = .ok (.aload_n 0, 1) := by decide +kernel
theorem dX8_readUse_110 : decode cX8_readUse 110 = .ok (.iload 4, 2) := by decide +kernel
theorem dX8_readUse_112 : decode cX8_readUse 112 = .ok (.sipush 9999, 3) := by decide +kernel
theorem dX8_readUse_115 : decode cX8_readUse 115 = .ok (.invokevirtual 382, 3) := by decide +kernel
theorem dX8_readUse_118 : decode cX8_readUse 118 = .ok (.istore 5, 2) := by decide +kernel
theorem dX8_readUse_120 : decode cX8_readUse 120 = .ok (.aload_n 0, 1) := by decide +kernel
theorem dX8_readUse_121 : decode cX8_readUse 121 = .ok (.getfield 345, 3) := by decide +kernel
theorem dX8_readUse_124 : decode cX8_readUse 124 = .ok (.ifCond .eq 4, 3) := by decide +kernel
theorem dX8_readUse_127 : decode cX8_readUse 127 = .ok (.return_, 1) := by decide +kernel
theorem dX8_readUse_128 : decode cX8_readUse 128 = .ok (.aload_n 0, 1) := by decide +kernel
theorem dX8_readUse_129 : decode cX8_readUse 129 = .ok (.getfield 13, 3) := by decide +kernel
theorem dX8_readUse_132 : decode cX8_readUse 132 = .ok (.iload_n 2, 1) := by decide +kernel
theorem dX8_readUse_133 : decode cX8_readUse 133 = .ok (.bipush 13, 2) := by decide +kernel
theorem dX8_readUse_135 : decode cX8_readUse 135 = .ok (.iadd, 1) := by decide +kernel
theorem dX8_readUse_136 : decode cX8_readUse 136 = .ok (.iaload, 1) := by decide +kernel
theorem dX8_readUse_137 : decode cX8_readUse 137 = .ok (.istore 6, 2) := by decide +kernel
theorem dX8_readUse_139 : decode cX8_readUse 139 = .ok (.aload_n 0, 1) := by decide +kernel
theorem dX8_readUse_140 : decode cX8_readUse 140 = .ok (.getfield 13, 3) := by decide +kernel
theorem dX8_readUse_143 : decode cX8_readUse 143 = .ok (.iload_n 2, 1) := by decide +kernel
theorem dX8_readUse_144 : decode cX8_readUse 144 = .ok (.bipush 14, 2) := by decide +kernel
theorem dX8_readUse_146 : decode cX8_readUse 146 = .ok (.iadd, 1) := by decide +kernel
theorem dX8_readUse_147 : decode cX8_readUse 147 = .ok (.iconst 3, 1) := by decide +kernel
theorem dX8_readUse_148 : decode cX8_readUse 148 = .ok (.iload 6, 2) := by decide +kernel
theorem dX8_readUse_150 : decode cX8_readUse 150 = .ok (.imul, 1) := by decide +kernel
theorem dX8_readUse_151 : decode cX8_readUse 151 = .ok (.iadd, 1) := by decide +kernel
theorem dX8_readUse_152 : decode cX8_readUse 152 = .ok (.iload_n 3, 1) := by decide +kernel
theorem dX8_readUse_153 : decode cX8_readUse 153 = .ok (.iastore, 1) := by decide +kernel
theorem dX8_readUse_154 : decode cX8_readUse 154 = .ok (.aload_n 0, 1) := by decide +kernel
theorem dX8_readUse_155 : decode cX8_readUse 155 = .ok (.getfield 13, 3) := by decide +kernel
theorem dX8_readUse_158 : decode cX8_readUse 158 = .ok (.iload_n 2, 1) := by decide +kernel
theorem dX8_readUse_159 : decode cX8_readUse 159 = .ok (.bipush 14, 2) := by decide +kernel
theorem dX8_readUse_161 : decode cX8_readUse 161 = .ok (.iadd, 1) := by decide +kernel
theorem dX8_readUse_162 : decode cX8_readUse 162 = .ok (.iconst 3, 1) := by decide +kernel
theorem dX8_readUse_163 : decode cX8_readUse 163 = .ok (.iload 6, 2) := by decide +kernel
theorem dX8_readUse_165 : decode cX8_readUse 165 = .ok (.imul, 1) := by decide +kernel
theorem dX8_readUse_166 : decode cX8_readUse 166 = .ok (.iadd, 1) := by decide +kernel
theorem dX8_readUse_167 : decode cX8_readUse 167 = .ok (.iconst 1, 1) := by decide +kernel
theorem dX8_readUse_168 : decode cX8_readUse 168 = .ok (.iadd, 1) := by decide +kernel
theorem dX8_readUse_169 : decode cX8_readUse 169 = .ok (.iload 4, 2) := by decide +kernel
theorem dX8_readUse_171 : decode cX8_readUse 171 = .ok (.iastore, 1) := by decide +kernel
theorem dX8_readUse_172 : decode cX8_readUse 172 = .ok (.aload_n 0, 1) := by decide +kernel
theorem dX8_readUse_173 : decode cX8_readUse 173 = .ok (.getfield 13, 3) := by decide +kernel
theorem dX8_readUse_176 : decode cX8_readUse 176 = .ok (.iload_n 2, 1) := by decide +kernel
theorem dX8_readUse_177 : decode cX8_readUse 177 = .ok (.bipush 14, 2) := by decide +kernel
theorem dX8_readUse_179 : decode cX8_readUse 179 = .ok (.iadd, 1) := by decide +kernel
theorem dX8_readUse_180 : decode cX8_readUse 180 = .ok (.iconst 3, 1) := by decide +kernel
theorem dX8_readUse_181 : decode cX8_readUse 181 = .ok (.iload 6, 2) := by decide +kernel
theorem dX8_readUse_183 : decode cX8_readUse 183 = .ok (.imul, 1) := by decide +kernel
theorem dX8_readUse_184 : decode cX8_readUse 184 = .ok (.iadd, 1) := by decide +kernel
theorem dX8_readUse_185 : decode cX8_readUse 185 = .ok (.iconst 2, 1) := by decide +kernel
theorem dX8_readUse_186 : decode cX8_readUse 186 = .ok (.iadd, 1) := by decide +kernel
theorem dX8_readUse_187 : decode cX8_readUse 187 = .ok (.iload 5, 2) := by decide +kernel
theorem dX8_readUse_189 : decode cX8_readUse 189 = .ok (.iastore, 1) := by decide +kernel
theorem dX8_readUse_190 : decode cX8_readUse 190 = .ok (.aload_n 0, 1) := by decide +kernel
theorem dX8_readUse_191 : decode cX8_readUse 191 = .ok (.getfield 13, 3) := by decide +kernel
theorem dX8_readUse_194 : decode cX8_readUse 194 = .ok (.iload_n 2, 1) := by decide +kernel
theorem dX8_readUse_195 : decode cX8_readUse 195 = .ok (.bipush 13, 2) := by decide +kernel
theorem dX8_readUse_197 : decode cX8_readUse 197 = .ok (.iadd, 1) := by decide +kernel
theorem dX8_readUse_198 : decode cX8_readUse 198 = .ok (.iload 6, 2) := by decide +kernel
theorem dX8_readUse_200 : decode cX8_readUse 200 = .ok (.iconst 1, 1) := by decide +kernel
theorem dX8_readUse_201 : decode cX8_readUse 201 = .ok (.iadd, 1) := by decide +kernel
theorem dX8_readUse_202 : decode cX8_readUse 202 = .ok (.iastore, 1) := by decide +kernel
theorem dX8_readUse_203 : decode cX8_readUse 203 = .ok (.return_, 1) := by decide +kernel
theorem dX8_readConsent_0 : decode cX8_readConsent 0 = .ok (.aload_n 0, 1) := by decide +kernel
theorem dX8_readConsent_1 : decode cX8_readConsent 1 = .ok (.invokevirtual 372, 3) := by decide +kernel
theorem dX8_readConsent_4 : decode cX8_readConsent 4 = .ok (.aload_n 0, 1) := by decide +kernel
theorem dX8_readConsent_5 : decode cX8_readConsent 5 = .ok (.iconst 0, 1) := by decide +kernel
theorem dX8_readConsent_6 : decode cX8_readConsent 6 = .ok (.aload_n 0, 1) := by decide +kernel
theorem dX8_readConsent_7 : decode cX8_readConsent 7 = .ok (.getfield 13, 3) := by decide +kernel
theorem dX8_readConsent_10 : decode cX8_readConsent 10 = .ok (.iconst 1, 1) := by decide +kernel
theorem dX8_readConsent_11 : decode cX8_readConsent 11 = .ok (.iaload, 1) := by decide +kernel
theorem dX8_readConsent_12 : decode cX8_readConsent 12 = .ok (.iconst 1, 1) := by decide +kernel
theorem dX8_readConsent_13 : decode cX8_readConsent 13 = .ok (.isub, 1) := by decide +kernel
theorem dX8_readConsent_14 : decode cX8_readConsent 14 = .ok (.invokevirtual 382, 3) := by decide +kernel
theorem dX8_readConsent_17 : decode cX8_readConsent 17 = .ok (.istore_n 1, 1) := by decide +kernel
theorem dX8_readConsent_18 : decode cX8_readConsent 18 = .ok (.aload_n 0, 1) := by decide +kernel
theorem dX8_readConsent_19 : decode cX8_readConsent 19 = .ok (.iload_n 1, 1) := by decide +kernel
theorem dX8_readConsent_20 : decode cX8_readConsent 20 = .ok (.aload_n 0, 1) := by decide +kernel
theorem dX8_readConsent_21 : decode cX8_readConsent 21 = .ok (.getfield 13, 3) := by decide +kernel
theorem dX8_readConsent_24 : decode cX8_readConsent 24 = .ok (.iconst 1, 1) := by decide +kernel
theorem dX8_readConsent_25 : decode cX8_readConsent 25 = .ok (.iaload, 1) := by decide +kernel
theorem dX8_readConsent_26 : decode cX8_readConsent 26 = .ok (.iconst 1, 1) := by decide +kernel
theorem dX8_readConsent_27 : decode cX8_readConsent 27 = .ok (.isub, 1) := by decide +kernel
theorem dX8_readConsent_28 : decode cX8_readConsent 28 = .ok (.invokevirtual 385, 3) := by decide +kernel
theorem dX8_readConsent_31 : decode cX8_readConsent 31 = .ok (.istore_n 2, 1) := by decide +kernel
theorem dX8_readConsent_32 : decode cX8_readConsent 32 = .ok (.aload_n 0, 1) := by decide +kernel
theorem dX8_readConsent_33 : decode cX8_readConsent 33 = .ok (.getfield 345, 3) := by decide +kernel
theorem dX8_readConsent_36 : decode cX8_readConsent 36 = .ok (.ifCond .ne 14, 3) := by decide +kernel
theorem dX8_readConsent_39 : decode cX8_readConsent 39 = .ok (.aload_n 0, 1) := by decide +kernel
theorem dX8_readConsent_40 : decode cX8_readConsent 40 = .ok (.aload_n 0, 1) := by decide +kernel
theorem dX8_readConsent_41 : decode cX8_readConsent 41 = .ok (.getfield 13, 3) := by decide +kernel
theorem dX8_readConsent_44 : decode cX8_readConsent 44 = .ok (.iload_n 1, 1) := by decide +kernel
theorem dX8_readConsent_45 : decode cX8_readConsent 45 = .ok (.iload_n 2, 1) := by decide +kernel
theorem dX8_readConsent_46 : decode cX8_readConsent 46 = .ok (.iconst 1, 1) := by decide +kernel
theorem dX8_readConsent_47 : decode cX8_readConsent 47 = .ok (.invokevirtual 308, 3) := by decide +kernel
theorem dX8_readConsent_50 : decode cX8_readConsent 50 = .ok (.return_, 1) := by decide +kernel
theorem dX8_ruleHere_0 : decode cX8_ruleHere 0 = .ok (.aload_n 0, 1) := by decide +kernel
theorem dX8_ruleHere_1 : decode cX8_ruleHere 1 = .ok (.ldc_w 391, 3) := by decide +kernel
theorem dX8_ruleHere_4 : decode cX8_ruleHere 4 = .ok (.invokevirtual 393, 3) := by decide +kernel
theorem dX8_ruleHere_7 : decode cX8_ruleHere 7 = .ok (.ifCond .eq 5, 3) := by decide +kernel
theorem dX8_ruleHere_10 : decode cX8_ruleHere 10 = .ok (.iconst 0, 1) := by decide +kernel
theorem dX8_ruleHere_11 : decode cX8_ruleHere 11 = .ok (.ireturn, 1) := by decide +kernel
theorem dX8_ruleHere_12 : decode cX8_ruleHere 12 = .ok (.aload_n 0, 1) := by decide +kernel
theorem dX8_ruleHere_13 : decode cX8_ruleHere 13 = .ok (.ldc_w 397, 3) := by decide +kernel
theorem dX8_ruleHere_16 : decode cX8_ruleHere 16 = .ok (.invokevirtual 393, 3) := by decide +kernel
theorem dX8_ruleHere_19 : decode cX8_ruleHere 19 = .ok (.ifCond .eq 5, 3) := by decide +kernel
theorem dX8_ruleHere_22 : decode cX8_ruleHere 22 = .ok (.iconst 1, 1) := by decide +kernel
theorem dX8_ruleHere_23 : decode cX8_ruleHere 23 = .ok (.ireturn, 1) := by decide +kernel
theorem dX8_ruleHere_24 : decode cX8_ruleHere 24 = .ok (.aload_n 0, 1) := by decide +kernel
theorem dX8_ruleHere_25 : decode cX8_ruleHere 25 = .ok (.ldc_w 399, 3) := by decide +kernel
theorem dX8_ruleHere_28 : decode cX8_ruleHere 28 = .ok (.invokevirtual 393, 3) := by decide +kernel
theorem dX8_ruleHere_31 : decode cX8_ruleHere 31 = .ok (.ifCond .eq 5, 3) := by decide +kernel
theorem dX8_ruleHere_34 : decode cX8_ruleHere 34 = .ok (.iconst 2, 1) := by decide +kernel
theorem dX8_ruleHere_35 : decode cX8_ruleHere 35 = .ok (.ireturn, 1) := by decide +kernel
theorem dX8_ruleHere_36 : decode cX8_ruleHere 36 = .ok (.aload_n 0, 1) := by decide +kernel
theorem dX8_ruleHere_37 : decode cX8_ruleHere 37 = .ok (.ldc_w 401, 3) := by decide +kernel
theorem dX8_ruleHere_40 : decode cX8_ruleHere 40 = .ok (.invokevirtual 393, 3) := by decide +kernel
theorem dX8_ruleHere_43 : decode cX8_ruleHere 43 = .ok (.ifCond .eq 5, 3) := by decide +kernel
theorem dX8_ruleHere_46 : decode cX8_ruleHere 46 = .ok (.iconst 3, 1) := by decide +kernel
theorem dX8_ruleHere_47 : decode cX8_ruleHere 47 = .ok (.ireturn, 1) := by decide +kernel
theorem dX8_ruleHere_48 : decode cX8_ruleHere 48 = .ok (.aload_n 0, 1) := by decide +kernel
theorem dX8_ruleHere_49 : decode cX8_ruleHere 49 = .ok (.ldc_w 403, 3) := by decide +kernel
theorem dX8_ruleHere_52 : decode cX8_ruleHere 52 = .ok (.invokevirtual 393, 3) := by decide +kernel
theorem dX8_ruleHere_55 : decode cX8_ruleHere 55 = .ok (.ifCond .eq 5, 3) := by decide +kernel
theorem dX8_ruleHere_58 : decode cX8_ruleHere 58 = .ok (.iconst 4, 1) := by decide +kernel
theorem dX8_ruleHere_59 : decode cX8_ruleHere 59 = .ok (.ireturn, 1) := by decide +kernel
theorem dX8_ruleHere_60 : decode cX8_ruleHere 60 = .ok (.aload_n 0, 1) := by decide +kernel
theorem dX8_ruleHere_61 : decode cX8_ruleHere 61 = .ok (.ldc_w 405, 3) := by decide +kernel
theorem dX8_ruleHere_64 : decode cX8_ruleHere 64 = .ok (.invokevirtual 393, 3) := by decide +kernel
theorem dX8_ruleHere_67 : decode cX8_ruleHere 67 = .ok (.ifCond .eq 7, 3) := by decide +kernel
theorem dX8_ruleHere_70 : decode cX8_ruleHere 70 = .ok (.iconst 5, 1) := by decide +kernel
theorem dX8_ruleHere_71 : decode cX8_ruleHere 71 = .ok (.goto 4, 3) := by decide +kernel
theorem dX8_ruleHere_74 : decode cX8_ruleHere 74 = .ok (.iconst (-1), 1) := by decide +kernel
theorem dX8_ruleHere_75 : decode cX8_ruleHere 75 = .ok (.ireturn, 1) := by decide +kernel
theorem dX8_readRule_0 : decode cX8_readRule 0 = .ok (.aload_n 0, 1) := by decide +kernel
theorem dX8_readRule_1 : decode cX8_readRule 1 = .ok (.invokevirtual 407, 3) := by decide +kernel
theorem dX8_readRule_4 : decode cX8_readRule 4 = .ok (.istore_n 1, 1) := by decide +kernel
theorem dX8_readRule_5 : decode cX8_readRule 5 = .ok (.iload_n 1, 1) := by decide +kernel
theorem dX8_readRule_6 : decode cX8_readRule 6 = .ok (.iconst (-1), 1) := by decide +kernel
theorem dX8_readRule_7 : decode cX8_readRule 7 = .ok (.if_icmp .ne 8, 3) := by decide +kernel
theorem dX8_readRule_10 : decode cX8_readRule 10 = .ok (.aload_n 0, 1) := by decide +kernel
theorem dX8_readRule_11 : decode cX8_readRule 11 = .ok (.iconst 1, 1) := by decide +kernel
theorem dX8_readRule_12 : decode cX8_readRule 12 = .ok (.invokevirtual 369, 3) := by decide +kernel
theorem dX8_readRule_15 : decode cX8_readRule 15 = .ok (.aload_n 0, 1) := by decide +kernel
theorem dX8_readRule_16 : decode cX8_readRule 16 = .ok (.invokevirtual 372, 3) := by decide +kernel
theorem dX8_readRule_19 : decode cX8_readRule 19 = .ok (.aload_n 0, 1) := by decide +kernel
theorem dX8_readRule_20 : decode cX8_readRule 20 = .ok (.getfield 345, 3) := by decide +kernel
theorem dX8_readRule_23 : decode cX8_readRule 23 = .ok (.ifCond .ne 15, 3) := by decide +kernel
theorem dX8_readRule_26 : decode cX8_readRule 26 = .ok (.aload_n 0, 1) := by decide +kernel
theorem dX8_readRule_27 : decode cX8_readRule 27 = .ok (.iconst 0, 1) := by decide +kernel
theorem dX8_readRule_28 : decode cX8_readRule 28 = .ok (.iload_n 1, 1) := by decide +kernel
theorem dX8_readRule_29 : decode cX8_readRule 29 = .ok (.invokestatic 312, 3) := by decide +kernel
theorem dX8_readRule_32 : decode cX8_readRule 32 = .ok (.invokevirtual 382, 3) := by decide +kernel
theorem dX8_readRule_35 : decode cX8_readRule 35 = .ok (.goto 4, 3) := by decide +kernel
theorem dX8_readRule_38 : decode cX8_readRule 38 = .ok (.iconst 0, 1) := by decide +kernel
theorem dX8_readRule_39 : decode cX8_readRule 39 = .ok (.istore_n 2, 1) := by decide +kernel
theorem dX8_readRule_40 : decode cX8_readRule 40 = .ok (.aload_n 0, 1) := by decide +kernel
theorem dX8_readRule_41 : decode cX8_readRule 41 = .ok (.getfield 345, 3) := by decide +kernel
theorem dX8_readRule_44 : decode cX8_readRule 44 = .ok (.ifCond .ne 12, 3) := by decide +kernel
theorem dX8_readRule_47 : decode cX8_readRule 47 = .ok (.aload_n 0, 1) := by decide +kernel
theorem dX8_readRule_48 : decode cX8_readRule 48 = .ok (.getfield 13, 3) := by decide +kernel
theorem dX8_readRule_51 : decode cX8_readRule 51 = .ok (.iconst 2, 1) := by decide +kernel
theorem dX8_readRule_52 : decode cX8_readRule 52 = .ok (.iload_n 1, 1) := by decide +kernel
theorem dX8_readRule_53 : decode cX8_readRule 53 = .ok (.iadd, 1) := by decide +kernel
theorem dX8_readRule_54 : decode cX8_readRule 54 = .ok (.iload_n 2, 1) := by decide +kernel
theorem dX8_readRule_55 : decode cX8_readRule 55 = .ok (.iastore, 1) := by decide +kernel
theorem dX8_readRule_56 : decode cX8_readRule 56 = .ok (.return_, 1) := by decide +kernel
theorem dX8_readLine_0 : decode cX8_readLine 0 = .ok (.aload_n 0, 1) := by decide +kernel
theorem dX8_readLine_1 : decode cX8_readLine 1 = .ok (.ldc_w 410, 3) := by decide +kernel
theorem dX8_readLine_4 : decode cX8_readLine 4 = .ok (.invokevirtual 393, 3) := by decide +kernel
theorem dX8_readLine_7 : decode cX8_readLine 7 = .ok (.ifCond .eq 10, 3) := by decide +kernel
theorem dX8_readLine_10 : decode cX8_readLine 10 = .ok (.aload_n 0, 1) := by decide +kernel
theorem dX8_readLine_11 : decode cX8_readLine 11 = .ok (.invokevirtual 412, 3) := by decide +kernel
theorem dX8_readLine_14 : decode cX8_readLine 14 = .ok (.goto 58, 3) := by decide +kernel
theorem dX8_readLine_17 : decode cX8_readLine 17 = .ok (.aload_n 0, 1) := by decide +kernel
theorem dX8_readLine_18 : decode cX8_readLine 18 = .ok (.ldc_w 415, 3) := by decide +kernel
theorem dX8_readLine_21 : decode cX8_readLine 21 = .ok (.invokevirtual 393, 3) := by decide +kernel
theorem dX8_readLine_24 : decode cX8_readLine 24 = .ok (.ifCond .eq 10, 3) := by decide +kernel
theorem dX8_readLine_27 : decode cX8_readLine 27 = .ok (.aload_n 0, 1) := by decide +kernel
theorem dX8_readLine_28 : decode cX8_readLine 28 = .ok (.invokevirtual 417, 3) := by decide +kernel
theorem dX8_readLine_31 : decode cX8_readLine 31 = .ok (.goto 41, 3) := by decide +kernel
theorem dX8_readLine_34 : decode cX8_readLine 34 = .ok (.aload_n 0, 1) := by decide +kernel
theorem dX8_readLine_35 : decode cX8_readLine 35 = .ok (.ldc_w 420, 3) := by decide +kernel
theorem dX8_readLine_38 : decode cX8_readLine 38 = .ok (.invokevirtual 393, 3) := by decide +kernel
theorem dX8_readLine_41 : decode cX8_readLine 41 = .ok (.ifCond .eq 10, 3) := by decide +kernel
theorem dX8_readLine_44 : decode cX8_readLine 44 = .ok (.aload_n 0, 1) := by decide +kernel
theorem dX8_readLine_45 : decode cX8_readLine 45 = .ok (.invokevirtual 422, 3) := by decide +kernel
theorem dX8_readLine_48 : decode cX8_readLine 48 = .ok (.goto 24, 3) := by decide +kernel
theorem dX8_readLine_51 : decode cX8_readLine 51 = .ok (.aload_n 0, 1) := by decide +kernel
theorem dX8_readLine_52 : decode cX8_readLine 52 = .ok (.ldc_w 425, 3) := by decide +kernel
theorem dX8_readLine_55 : decode cX8_readLine 55 = .ok (.invokevirtual 393, 3) := by decide +kernel
theorem dX8_readLine_58 : decode cX8_readLine 58 = .ok (.ifCond .eq 10, 3) := by decide +kernel
theorem dX8_readLine_61 : decode cX8_readLine 61 = .ok (.aload_n 0, 1) := by decide +kernel
theorem dX8_readLine_62 : decode cX8_readLine 62 = .ok (.invokevirtual 427, 3) := by decide +kernel
theorem dX8_readLine_65 : decode cX8_readLine 65 = .ok (.goto 7, 3) := by decide +kernel
theorem dX8_readLine_68 : decode cX8_readLine 68 = .ok (.aload_n 0, 1) := by decide +kernel
theorem dX8_readLine_69 : decode cX8_readLine 69 = .ok (.invokevirtual 430, 3) := by decide +kernel
theorem dX8_readLine_72 : decode cX8_readLine 72 = .ok (.aload_n 0, 1) := by decide +kernel
theorem dX8_readLine_73 : decode cX8_readLine 73 = .ok (.bipush 59, 2) := by decide +kernel
theorem dX8_readLine_75 : decode cX8_readLine 75 = .ok (.invokevirtual 433, 3) := by decide +kernel
theorem dX8_readLine_78 : decode cX8_readLine 78 = .ok (.return_, 1) := by decide +kernel
theorem dX8_register_0 : decode cX8_register 0 = .ok (.aload_n 0, 1) := by decide +kernel
theorem dX8_register_1 : decode cX8_register 1 = .ok (.iconst 0, 1) := by decide +kernel
theorem dX8_register_2 : decode cX8_register 2 = .ok (.putfield 87, 3) := by decide +kernel
theorem dX8_register_5 : decode cX8_register 5 = .ok (.iload_n 1, 1) := by decide +kernel
theorem dX8_register_6 : decode cX8_register 6 = .ok (.iconst 0, 1) := by decide +kernel
theorem dX8_register_7 : decode cX8_register 7 = .ok (.aload_n 0, 1) := by decide +kernel
theorem dX8_register_8 : decode cX8_register 8 = .ok (.getfield 233, 3) := by decide +kernel
theorem dX8_register_11 : decode cX8_register 11 = .ok (.invokestatic 94, 3) := by decide +kernel
theorem dX8_register_14 : decode cX8_register 14 = .ok (.ifCond .ne 9, 3) := by decide +kernel
theorem dX8_register_17 : decode cX8_register 17 = .ok (.aload_n 0, 1) := by decide +kernel
theorem dX8_register_18 : decode cX8_register 18 = .ok (.iconst 1, 1) := by decide +kernel
theorem dX8_register_19 : decode cX8_register 19 = .ok (.invokevirtual 236, 3) := by decide +kernel
theorem dX8_register_22 : decode cX8_register 22 = .ok (.ireturn, 1) := by decide +kernel
theorem dX8_register_23 : decode cX8_register 23 = .ok (.aload_n 0, 1) := by decide +kernel
theorem dX8_register_24 : decode cX8_register 24 = .ok (.iload_n 1, 1) := by decide +kernel
theorem dX8_register_25 : decode cX8_register 25 = .ok (.invokevirtual 436, 3) := by decide +kernel
theorem dX8_register_28 : decode cX8_register 28 = .ok (.aload_n 0, 1) := by decide +kernel
theorem dX8_register_29 : decode cX8_register 29 = .ok (.getfield 13, 3) := by decide +kernel
theorem dX8_register_32 : decode cX8_register 32 = .ok (.invokestatic 83, 3) := by decide +kernel
theorem dX8_register_35 : decode cX8_register 35 = .ok (.aload_n 0, 1) := by decide +kernel
theorem dX8_register_36 : decode cX8_register 36 = .ok (.ldc_w 439, 3) := by decide +kernel
theorem dX8_register_39 : decode cX8_register 39 = .ok (.invokevirtual 393, 3) := by decide +kernel
theorem dX8_register_42 : decode cX8_register 42 = .ok (.ifCond .ne 8, 3) := by decide +kernel
theorem dX8_register_45 : decode cX8_register 45 = .ok (.aload_n 0, 1) := by decide +kernel
theorem dX8_register_46 : decode cX8_register 46 = .ok (.iconst 1, 1) := by decide +kernel
theorem dX8_register_47 : decode cX8_register 47 = .ok (.invokevirtual 369, 3) := by decide +kernel
theorem dX8_register_50 : decode cX8_register 50 = .ok (.aload_n 0, 1) := by decide +kernel
theorem dX8_register_51 : decode cX8_register 51 = .ok (.invokevirtual 372, 3) := by decide +kernel
theorem dX8_register_54 : decode cX8_register 54 = .ok (.aload_n 0, 1) := by decide +kernel
theorem dX8_register_55 : decode cX8_register 55 = .ok (.getfield 13, 3) := by decide +kernel
theorem dX8_register_58 : decode cX8_register 58 = .ok (.iconst 0, 1) := by decide +kernel
theorem dX8_register_59 : decode cX8_register 59 = .ok (.aload_n 0, 1) := by decide +kernel
theorem dX8_register_60 : decode cX8_register 60 = .ok (.iconst 1, 1) := by decide +kernel
theorem dX8_register_61 : decode cX8_register 61 = .ok (.bipush 6, 2) := by decide +kernel
theorem dX8_register_63 : decode cX8_register 63 = .ok (.invokevirtual 382, 3) := by decide +kernel
theorem dX8_register_66 : decode cX8_register 66 = .ok (.iastore, 1) := by decide +kernel
theorem dX8_register_67 : decode cX8_register 67 = .ok (.aload_n 0, 1) := by decide +kernel
theorem dX8_register_68 : decode cX8_register 68 = .ok (.bipush 59, 2) := by decide +kernel
theorem dX8_register_70 : decode cX8_register 70 = .ok (.invokevirtual 433, 3) := by decide +kernel
theorem dX8_register_73 : decode cX8_register 73 = .ok (.aload_n 0, 1) := by decide +kernel
theorem dX8_register_74 : decode cX8_register 74 = .ok (.getfield 345, 3) := by decide +kernel
theorem dX8_register_77 : decode cX8_register 77 = .ok (.ifCond .ne 17, 3) := by decide +kernel
theorem dX8_register_80 : decode cX8_register 80 = .ok (.aload_n 0, 1) := by decide +kernel
theorem dX8_register_81 : decode cX8_register 81 = .ok (.getfield 333, 3) := by decide +kernel
theorem dX8_register_84 : decode cX8_register 84 = .ok (.ifCond .eq 10, 3) := by decide +kernel
theorem dX8_register_87 : decode cX8_register 87 = .ok (.aload_n 0, 1) := by decide +kernel
theorem dX8_register_88 : decode cX8_register 88 = .ok (.invokevirtual 441, 3) := by decide +kernel
theorem dX8_register_91 : decode cX8_register 91 = .ok (.goto (-18), 3) := by decide +kernel
theorem dX8_register_94 : decode cX8_register 94 = .ok (.aload_n 0, 1) := by decide +kernel
theorem dX8_register_95 : decode cX8_register 95 = .ok (.invokevirtual 444, 3) := by decide +kernel
theorem dX8_register_98 : decode cX8_register 98 = .ok (.istore_n 2, 1) := by decide +kernel
theorem dX8_register_99 : decode cX8_register 99 = .ok (.iload_n 2, 1) := by decide +kernel
theorem dX8_register_100 : decode cX8_register 100 = .ok (.ifCond .eq 8, 3) := by decide +kernel
theorem dX8_register_103 : decode cX8_register 103 = .ok (.bipush (-10), 2) := by decide +kernel
theorem dX8_register_105 : decode cX8_register 105 = .ok (.iload_n 2, 1) := by decide +kernel
theorem dX8_register_106 : decode cX8_register 106 = .ok (.isub, 1) := by decide +kernel
theorem dX8_register_107 : decode cX8_register 107 = .ok (.ireturn, 1) := by decide +kernel
theorem dX8_register_108 : decode cX8_register 108 = .ok (.iconst 0, 1) := by decide +kernel
theorem dX8_register_109 : decode cX8_register 109 = .ok (.istore_n 3, 1) := by decide +kernel
theorem dX8_register_110 : decode cX8_register 110 = .ok (.iload_n 3, 1) := by decide +kernel
theorem dX8_register_111 : decode cX8_register 111 = .ok (.sipush 681, 3) := by decide +kernel
theorem dX8_register_114 : decode cX8_register 114 = .ok (.if_icmp .ge 21, 3) := by decide +kernel
theorem dX8_register_117 : decode cX8_register 117 = .ok (.aload_n 0, 1) := by decide +kernel
theorem dX8_register_118 : decode cX8_register 118 = .ok (.getfield 9, 3) := by decide +kernel
theorem dX8_register_121 : decode cX8_register 121 = .ok (.iload_n 3, 1) := by decide +kernel
theorem dX8_register_122 : decode cX8_register 122 = .ok (.aload_n 0, 1) := by decide +kernel
theorem dX8_register_123 : decode cX8_register 123 = .ok (.getfield 13, 3) := by decide +kernel
theorem dX8_register_126 : decode cX8_register 126 = .ok (.iload_n 3, 1) := by decide +kernel
theorem dX8_register_127 : decode cX8_register 127 = .ok (.iaload, 1) := by decide +kernel
theorem dX8_register_128 : decode cX8_register 128 = .ok (.iastore, 1) := by decide +kernel
theorem dX8_register_129 : decode cX8_register 129 = .ok (.iinc 3 1, 3) := by decide +kernel
theorem dX8_register_132 : decode cX8_register 132 = .ok (.goto (-22), 3) := by decide +kernel
theorem dX8_register_135 : decode cX8_register 135 = .ok (.aload_n 0, 1) := by decide +kernel
theorem dX8_register_136 : decode cX8_register 136 = .ok (.iconst 0, 1) := by decide +kernel
theorem dX8_register_137 : decode cX8_register 137 = .ok (.putfield 230, 3) := by decide +kernel
theorem dX8_register_140 : decode cX8_register 140 = .ok (.aload_n 0, 1) := by decide +kernel
theorem dX8_register_141 : decode cX8_register 141 = .ok (.iconst 0, 1) := by decide +kernel
theorem dX8_register_142 : decode cX8_register 142 = .ok (.putfield 173, 3) := by decide +kernel
theorem dX8_register_145 : decode cX8_register 145 = .ok (.aload_n 0, 1) := by decide +kernel
theorem dX8_register_146 : decode cX8_register 146 = .ok (.invokevirtual 90, 3) := by decide +kernel
theorem dX8_register_149 : decode cX8_register 149 = .ok (.ireturn, 1) := by decide +kernel
theorem dX8_wordHere_0 : decode cX8_wordHere 0 = .ok (.aload_n 0, 1) := by decide +kernel
theorem dX8_wordHere_1 : decode cX8_wordHere 1 = .ok (.ldc_w 415, 3) := by decide +kernel
theorem dX8_wordHere_4 : decode cX8_wordHere 4 = .ok (.invokevirtual 393, 3) := by decide +kernel
theorem dX8_wordHere_7 : decode cX8_wordHere 7 = .ok (.ifCond .eq 5, 3) := by decide +kernel
theorem dX8_wordHere_10 : decode cX8_wordHere 10 = .ok (.iconst 0, 1) := by decide +kernel
theorem dX8_wordHere_11 : decode cX8_wordHere 11 = .ok (.ireturn, 1) := by decide +kernel
theorem dX8_wordHere_12 : decode cX8_wordHere 12 = .ok (.aload_n 0, 1) := by decide +kernel
theorem dX8_wordHere_13 : decode cX8_wordHere 13 = .ok (.ldc_w 447, 3) := by decide +kernel
theorem dX8_wordHere_16 : decode cX8_wordHere 16 = .ok (.invokevirtual 393, 3) := by decide +kernel
theorem dX8_wordHere_19 : decode cX8_wordHere 19 = .ok (.ifCond .eq 5, 3) := by decide +kernel
theorem dX8_wordHere_22 : decode cX8_wordHere 22 = .ok (.iconst 1, 1) := by decide +kernel
theorem dX8_wordHere_23 : decode cX8_wordHere 23 = .ok (.ireturn, 1) := by decide +kernel
theorem dX8_wordHere_24 : decode cX8_wordHere 24 = .ok (.aload_n 0, 1) := by decide +kernel
theorem dX8_wordHere_25 : decode cX8_wordHere 25 = .ok (.ldc_w 449, 3) := by decide +kernel
theorem dX8_wordHere_28 : decode cX8_wordHere 28 = .ok (.invokevirtual 393, 3) := by decide +kernel
theorem dX8_wordHere_31 : decode cX8_wordHere 31 = .ok (.ifCond .eq 5, 3) := by decide +kernel
theorem dX8_wordHere_34 : decode cX8_wordHere 34 = .ok (.iconst 2, 1) := by decide +kernel
theorem dX8_wordHere_35 : decode cX8_wordHere 35 = .ok (.ireturn, 1) := by decide +kernel
theorem dX8_wordHere_36 : decode cX8_wordHere 36 = .ok (.aload_n 0, 1) := by decide +kernel
theorem dX8_wordHere_37 : decode cX8_wordHere 37 = .ok (.ldc_w 451, 3) := by decide +kernel
theorem dX8_wordHere_40 : decode cX8_wordHere 40 = .ok (.invokevirtual 393, 3) := by decide +kernel
theorem dX8_wordHere_43 : decode cX8_wordHere 43 = .ok (.ifCond .eq 5, 3) := by decide +kernel
theorem dX8_wordHere_46 : decode cX8_wordHere 46 = .ok (.iconst 3, 1) := by decide +kernel
theorem dX8_wordHere_47 : decode cX8_wordHere 47 = .ok (.ireturn, 1) := by decide +kernel
theorem dX8_wordHere_48 : decode cX8_wordHere 48 = .ok (.aload_n 0, 1) := by decide +kernel
theorem dX8_wordHere_49 : decode cX8_wordHere 49 = .ok (.ldc_w 453, 3) := by decide +kernel
theorem dX8_wordHere_52 : decode cX8_wordHere 52 = .ok (.invokevirtual 393, 3) := by decide +kernel
theorem dX8_wordHere_55 : decode cX8_wordHere 55 = .ok (.ifCond .eq 5, 3) := by decide +kernel
theorem dX8_wordHere_58 : decode cX8_wordHere 58 = .ok (.iconst 4, 1) := by decide +kernel
theorem dX8_wordHere_59 : decode cX8_wordHere 59 = .ok (.ireturn, 1) := by decide +kernel
theorem dX8_wordHere_60 : decode cX8_wordHere 60 = .ok (.aload_n 0, 1) := by decide +kernel
theorem dX8_wordHere_61 : decode cX8_wordHere 61 = .ok (.ldc_w 454, 3) := by decide +kernel
theorem dX8_wordHere_64 : decode cX8_wordHere 64 = .ok (.invokevirtual 393, 3) := by decide +kernel
theorem dX8_wordHere_67 : decode cX8_wordHere 67 = .ok (.ifCond .eq 5, 3) := by decide +kernel
theorem dX8_wordHere_70 : decode cX8_wordHere 70 = .ok (.iconst 5, 1) := by decide +kernel
theorem dX8_wordHere_71 : decode cX8_wordHere 71 = .ok (.ireturn, 1) := by decide +kernel
theorem dX8_wordHere_72 : decode cX8_wordHere 72 = .ok (.aload_n 0, 1) := by decide +kernel
theorem dX8_wordHere_73 : decode cX8_wordHere 73 = .ok (.ldc_w 455, 3) := by decide +kernel
theorem dX8_wordHere_76 : decode cX8_wordHere 76 = .ok (.invokevirtual 393, 3) := by decide +kernel
theorem dX8_wordHere_79 : decode cX8_wordHere 79 = .ok (.ifCond .eq 6, 3) := by decide +kernel
theorem dX8_wordHere_82 : decode cX8_wordHere 82 = .ok (.bipush 6, 2) := by decide +kernel
theorem dX8_wordHere_84 : decode cX8_wordHere 84 = .ok (.ireturn, 1) := by decide +kernel
theorem dX8_wordHere_85 : decode cX8_wordHere 85 = .ok (.aload_n 0, 1) := by decide +kernel
theorem dX8_wordHere_86 : decode cX8_wordHere 86 = .ok (.ldc_w 456, 3) := by decide +kernel
theorem dX8_wordHere_89 : decode cX8_wordHere 89 = .ok (.invokevirtual 393, 3) := by decide +kernel
theorem dX8_wordHere_92 : decode cX8_wordHere 92 = .ok (.ifCond .eq 6, 3) := by decide +kernel
theorem dX8_wordHere_95 : decode cX8_wordHere 95 = .ok (.bipush 7, 2) := by decide +kernel
theorem dX8_wordHere_97 : decode cX8_wordHere 97 = .ok (.ireturn, 1) := by decide +kernel
theorem dX8_wordHere_98 : decode cX8_wordHere 98 = .ok (.aload_n 0, 1) := by decide +kernel
theorem dX8_wordHere_99 : decode cX8_wordHere 99 = .ok (.ldc_w 458, 3) := by decide +kernel
theorem dX8_wordHere_102 : decode cX8_wordHere 102 = .ok (.invokevirtual 393, 3) := by decide +kernel
theorem dX8_wordHere_105 : decode cX8_wordHere 105 = .ok (.ifCond .eq 8, 3) := by decide +kernel
theorem dX8_wordHere_108 : decode cX8_wordHere 108 = .ok (.bipush 8, 2) := by decide +kernel
theorem dX8_wordHere_110 : decode cX8_wordHere 110 = .ok (.goto 4, 3) := by decide +kernel
theorem dX8_wordHere_113 : decode cX8_wordHere 113 = .ok (.iconst (-1), 1) := by decide +kernel
theorem dX8_wordHere_114 : decode cX8_wordHere 114 = .ok (.ireturn, 1) := by decide +kernel
theorem dX8_valueOf_0 : decode cX8_valueOf 0 = .ok (.aload_n 0, 1) := by decide +kernel
theorem dX8_valueOf_1 : decode cX8_valueOf 1 = .ok (.invokevirtual 206, 3) := by decide +kernel
theorem dX8_valueOf_4 : decode cX8_valueOf 4 = .ok (.iload_n 2, 1) := by decide +kernel
theorem dX8_valueOf_5 : decode cX8_valueOf 5 = .ok (.tableswitch 93 0 6 #[43, 45, 53, 64, 72, 79, 86], 43) := by decide +kernel
theorem dX8_valueOf_48 : decode cX8_valueOf 48 = .ok (.iload_n 1, 1) := by decide +kernel
theorem dX8_valueOf_49 : decode cX8_valueOf 49 = .ok (.ireturn, 1) := by decide +kernel
theorem dX8_valueOf_50 : decode cX8_valueOf 50 = .ok (.aload_n 0, 1) := by decide +kernel
theorem dX8_valueOf_51 : decode cX8_valueOf 51 = .ok (.iload_n 1, 1) := by decide +kernel
theorem dX8_valueOf_52 : decode cX8_valueOf 52 = .ok (.bipush 12, 2) := by decide +kernel
theorem dX8_valueOf_54 : decode cX8_valueOf 54 = .ok (.invokevirtual 101, 3) := by decide +kernel
theorem dX8_valueOf_57 : decode cX8_valueOf 57 = .ok (.ireturn, 1) := by decide +kernel
theorem dX8_valueOf_58 : decode cX8_valueOf 58 = .ok (.aload_n 0, 1) := by decide +kernel
theorem dX8_valueOf_59 : decode cX8_valueOf 59 = .ok (.iload_n 1, 1) := by decide +kernel
theorem dX8_valueOf_60 : decode cX8_valueOf 60 = .ok (.bipush 11, 2) := by decide +kernel
theorem dX8_valueOf_62 : decode cX8_valueOf 62 = .ok (.invokevirtual 101, 3) := by decide +kernel
theorem dX8_valueOf_65 : decode cX8_valueOf 65 = .ok (.invokestatic 221, 3) := by decide +kernel
theorem dX8_valueOf_68 : decode cX8_valueOf 68 = .ok (.ireturn, 1) := by decide +kernel
theorem dX8_valueOf_69 : decode cX8_valueOf 69 = .ok (.aload_n 0, 1) := by decide +kernel
theorem dX8_valueOf_70 : decode cX8_valueOf 70 = .ok (.iload_n 1, 1) := by decide +kernel
theorem dX8_valueOf_71 : decode cX8_valueOf 71 = .ok (.bipush 13, 2) := by decide +kernel
theorem dX8_valueOf_73 : decode cX8_valueOf 73 = .ok (.invokevirtual 101, 3) := by decide +kernel
theorem dX8_valueOf_76 : decode cX8_valueOf 76 = .ok (.ireturn, 1) := by decide +kernel
theorem dX8_valueOf_77 : decode cX8_valueOf 77 = .ok (.aload_n 0, 1) := by decide +kernel
theorem dX8_valueOf_78 : decode cX8_valueOf 78 = .ok (.iload_n 1, 1) := by decide +kernel
theorem dX8_valueOf_79 : decode cX8_valueOf 79 = .ok (.iconst 0, 1) := by decide +kernel
theorem dX8_valueOf_80 : decode cX8_valueOf 80 = .ok (.invokevirtual 101, 3) := by decide +kernel
theorem dX8_valueOf_83 : decode cX8_valueOf 83 = .ok (.ireturn, 1) := by decide +kernel
theorem dX8_valueOf_84 : decode cX8_valueOf 84 = .ok (.aload_n 0, 1) := by decide +kernel
theorem dX8_valueOf_85 : decode cX8_valueOf 85 = .ok (.getfield 25, 3) := by decide +kernel
theorem dX8_valueOf_88 : decode cX8_valueOf 88 = .ok (.iload_n 1, 1) := by decide +kernel
theorem dX8_valueOf_89 : decode cX8_valueOf 89 = .ok (.iaload, 1) := by decide +kernel
theorem dX8_valueOf_90 : decode cX8_valueOf 90 = .ok (.ireturn, 1) := by decide +kernel
theorem dX8_valueOf_91 : decode cX8_valueOf 91 = .ok (.aload_n 0, 1) := by decide +kernel
theorem dX8_valueOf_92 : decode cX8_valueOf 92 = .ok (.getfield 49, 3) := by decide +kernel
theorem dX8_valueOf_95 : decode cX8_valueOf 95 = .ok (.iload_n 1, 1) := by decide +kernel
theorem dX8_valueOf_96 : decode cX8_valueOf 96 = .ok (.iaload, 1) := by decide +kernel
theorem dX8_valueOf_97 : decode cX8_valueOf 97 = .ok (.ireturn, 1) := by decide +kernel
theorem dX8_valueOf_98 : decode cX8_valueOf 98 = .ok (.aload_n 0, 1) := by decide +kernel
theorem dX8_valueOf_99 : decode cX8_valueOf 99 = .ok (.iload_n 1, 1) := by decide +kernel
theorem dX8_valueOf_100 : decode cX8_valueOf 100 = .ok (.aload_n 0, 1) := by decide +kernel
theorem dX8_valueOf_101 : decode cX8_valueOf 101 = .ok (.getfield 460, 3) := by decide +kernel
theorem dX8_valueOf_104 : decode cX8_valueOf 104 = .ok (.iload_n 2, 1) := by decide +kernel
theorem dX8_valueOf_105 : decode cX8_valueOf 105 = .ok (.bipush 6, 2) := by decide +kernel
theorem dX8_valueOf_107 : decode cX8_valueOf 107 = .ok (.isub, 1) := by decide +kernel
theorem dX8_valueOf_108 : decode cX8_valueOf 108 = .ok (.invokevirtual 255, 3) := by decide +kernel
theorem dX8_valueOf_111 : decode cX8_valueOf 111 = .ok (.invokestatic 221, 3) := by decide +kernel
theorem dX8_valueOf_114 : decode cX8_valueOf 114 = .ok (.ireturn, 1) := by decide +kernel
theorem dX8_readValue_0 : decode cX8_readValue 0 = .ok (.aload_n 0, 1) := by decide +kernel
theorem dX8_readValue_1 : decode cX8_readValue 1 = .ok (.getfield 345, 3) := by decide +kernel
theorem dX8_readValue_4 : decode cX8_readValue 4 = .ok (.ifCond .ne 11, 3) := by decide +kernel
theorem dX8_readValue_7 : decode cX8_readValue 7 = .ok (.aload_n 0, 1) := by decide +kernel
theorem dX8_readValue_8 : decode cX8_readValue 8 = .ok (.getfield 333, 3) := by decide +kernel
theorem dX8_readValue_11 : decode cX8_readValue 11 = .ok (.iconst 2, 1) := by decide +kernel
theorem dX8_readValue_12 : decode cX8_readValue 12 = .ok (.if_icmp .ne 12, 3) := by decide +kernel
theorem dX8_readValue_15 : decode cX8_readValue 15 = .ok (.aload_n 0, 1) := by decide +kernel
theorem dX8_readValue_16 : decode cX8_readValue 16 = .ok (.iconst 0, 1) := by decide +kernel
theorem dX8_readValue_17 : decode cX8_readValue 17 = .ok (.sipush 9999, 3) := by decide +kernel
theorem dX8_readValue_20 : decode cX8_readValue 20 = .ok (.invokevirtual 382, 3) := by decide +kernel
theorem dX8_readValue_23 : decode cX8_readValue 23 = .ok (.ireturn, 1) := by decide +kernel
theorem dX8_readValue_24 : decode cX8_readValue 24 = .ok (.aload_n 0, 1) := by decide +kernel
theorem dX8_readValue_25 : decode cX8_readValue 25 = .ok (.invokevirtual 463, 3) := by decide +kernel
theorem dX8_readValue_28 : decode cX8_readValue 28 = .ok (.istore_n 1, 1) := by decide +kernel
theorem dX8_readValue_29 : decode cX8_readValue 29 = .ok (.iload_n 1, 1) := by decide +kernel
theorem dX8_readValue_30 : decode cX8_readValue 30 = .ok (.iconst (-1), 1) := by decide +kernel
theorem dX8_readValue_31 : decode cX8_readValue 31 = .ok (.if_icmp .ne 8, 3) := by decide +kernel
theorem dX8_readValue_34 : decode cX8_readValue 34 = .ok (.aload_n 0, 1) := by decide +kernel
theorem dX8_readValue_35 : decode cX8_readValue 35 = .ok (.iconst 1, 1) := by decide +kernel
theorem dX8_readValue_36 : decode cX8_readValue 36 = .ok (.invokevirtual 369, 3) := by decide +kernel
theorem dX8_readValue_39 : decode cX8_readValue 39 = .ok (.aload_n 0, 1) := by decide +kernel
theorem dX8_readValue_40 : decode cX8_readValue 40 = .ok (.invokevirtual 372, 3) := by decide +kernel
theorem dX8_readValue_43 : decode cX8_readValue 43 = .ok (.aload_n 0, 1) := by decide +kernel
theorem dX8_readValue_44 : decode cX8_readValue 44 = .ok (.getfield 345, 3) := by decide +kernel
theorem dX8_readValue_47 : decode cX8_readValue 47 = .ok (.ifCond .ne 11, 3) := by decide +kernel
theorem dX8_readValue_50 : decode cX8_readValue 50 = .ok (.aload_n 0, 1) := by decide +kernel
theorem dX8_readValue_51 : decode cX8_readValue 51 = .ok (.getfield 466, 3) := by decide +kernel
theorem dX8_readValue_54 : decode cX8_readValue 54 = .ok (.iconst (-1), 1) := by decide +kernel
theorem dX8_readValue_55 : decode cX8_readValue 55 = .ok (.if_icmp .ne 7, 3) := by decide +kernel
theorem dX8_readValue_58 : decode cX8_readValue 58 = .ok (.iconst 0, 1) := by decide +kernel
theorem dX8_readValue_59 : decode cX8_readValue 59 = .ok (.goto 12, 3) := by decide +kernel
theorem dX8_readValue_62 : decode cX8_readValue 62 = .ok (.aload_n 0, 1) := by decide +kernel
theorem dX8_readValue_63 : decode cX8_readValue 63 = .ok (.aload_n 0, 1) := by decide +kernel
theorem dX8_readValue_64 : decode cX8_readValue 64 = .ok (.getfield 466, 3) := by decide +kernel
theorem dX8_readValue_67 : decode cX8_readValue 67 = .ok (.iload_n 1, 1) := by decide +kernel
theorem dX8_readValue_68 : decode cX8_readValue 68 = .ok (.invokevirtual 469, 3) := by decide +kernel
theorem dX8_readValue_71 : decode cX8_readValue 71 = .ok (.ireturn, 1) := by decide +kernel
theorem dX8_goesIn_0 : decode cX8_goesIn 0 = .ok (.aload_n 0, 1) := by decide +kernel
theorem dX8_goesIn_1 : decode cX8_goesIn 1 = .ok (.getfield 345, 3) := by decide +kernel
theorem dX8_goesIn_4 : decode cX8_goesIn 4 = .ok (.ifCond .ne 17, 3) := by decide +kernel
theorem dX8_goesIn_7 : decode cX8_goesIn 7 = .ok (.aload_n 0, 1) := by decide +kernel
theorem dX8_goesIn_8 : decode cX8_goesIn 8 = .ok (.getfield 348, 3) := by decide +kernel
theorem dX8_goesIn_11 : decode cX8_goesIn 11 = .ok (.bipush 6, 2) := by decide +kernel
theorem dX8_goesIn_13 : decode cX8_goesIn 13 = .ok (.if_icmp .ne 8, 3) := by decide +kernel
theorem dX8_goesIn_16 : decode cX8_goesIn 16 = .ok (.aload_n 0, 1) := by decide +kernel
theorem dX8_goesIn_17 : decode cX8_goesIn 17 = .ok (.iconst 3, 1) := by decide +kernel
theorem dX8_goesIn_18 : decode cX8_goesIn 18 = .ok (.invokevirtual 369, 3) := by decide +kernel
theorem dX8_goesIn_21 : decode cX8_goesIn 21 = .ok (.aload_n 0, 1) := by decide +kernel
theorem dX8_goesIn_22 : decode cX8_goesIn 22 = .ok (.dup, 1) := by decide +kernel
theorem dX8_goesIn_23 : decode cX8_goesIn 23 = .ok (.getfield 348, 3) := by decide +kernel
theorem dX8_goesIn_26 : decode cX8_goesIn 26 = .ok (.iconst 1, 1) := by decide +kernel
theorem dX8_goesIn_27 : decode cX8_goesIn 27 = .ok (.iadd, 1) := by decide +kernel
theorem dX8_goesIn_28 : decode cX8_goesIn 28 = .ok (.putfield 348, 3) := by decide +kernel
theorem dX8_goesIn_31 : decode cX8_goesIn 31 = .ok (.aload_n 0, 1) := by decide +kernel
theorem dX8_goesIn_32 : decode cX8_goesIn 32 = .ok (.invokevirtual 372, 3) := by decide +kernel
theorem dX8_goesIn_35 : decode cX8_goesIn 35 = .ok (.return_, 1) := by decide +kernel
theorem dX8_readFact_0 : decode cX8_readFact 0 = .ok (.aload_n 0, 1) := by decide +kernel
theorem dX8_readFact_1 : decode cX8_readFact 1 = .ok (.ldc_w 472, 3) := by decide +kernel
theorem dX8_readFact_4 : decode cX8_readFact 4 = .ok (.invokevirtual 393, 3) := by decide +kernel
theorem dX8_readFact_7 : decode cX8_readFact 7 = .ok (.ifCond .eq 47, 3) := by decide +kernel
theorem dX8_readFact_10 : decode cX8_readFact 10 = .ok (.aload_n 0, 1) := by decide +kernel
theorem dX8_readFact_11 : decode cX8_readFact 11 = .ok (.invokevirtual 474, 3) := by decide +kernel
theorem dX8_readFact_14 : decode cX8_readFact 14 = .ok (.aload_n 0, 1) := by decide +kernel
theorem dX8_readFact_15 : decode cX8_readFact 15 = .ok (.getfield 345, 3) := by decide +kernel
theorem dX8_readFact_18 : decode cX8_readFact 18 = .ok (.ifCond .ne 14, 3) := by decide +kernel
theorem dX8_readFact_21 : decode cX8_readFact 21 = .ok (.aload_n 0, 1) := by decide +kernel
theorem dX8_readFact_22 : decode cX8_readFact 22 = .ok (.invokevirtual 477, 3) := by decide +kernel
theorem dX8_readFact_25 : decode cX8_readFact 25 = .ok (.ifCond .eq 7, 3) := by decide +kernel
theorem dX8_readFact_28 : decode cX8_readFact 28 = .ok (.iconst 1, 1) := by decide +kernel
theorem dX8_readFact_29 : decode cX8_readFact 29 = .ok (.goto 4, 3) := by decide +kernel
theorem dX8_readFact_32 : decode cX8_readFact 32 = .ok (.iconst 0, 1) := by decide +kernel
theorem dX8_readFact_33 : decode cX8_readFact 33 = .ok (.istore_n 1, 1) := by decide +kernel
theorem dX8_readFact_34 : decode cX8_readFact 34 = .ok (.aload_n 0, 1) := by decide +kernel
theorem dX8_readFact_35 : decode cX8_readFact 35 = .ok (.dup, 1) := by decide +kernel
theorem dX8_readFact_36 : decode cX8_readFact 36 = .ok (.getfield 348, 3) := by decide +kernel
theorem dX8_readFact_39 : decode cX8_readFact 39 = .ok (.iconst 1, 1) := by decide +kernel
theorem dX8_readFact_40 : decode cX8_readFact 40 = .ok (.isub, 1) := by decide +kernel
theorem dX8_readFact_41 : decode cX8_readFact 41 = .ok (.putfield 348, 3) := by decide +kernel
theorem dX8_readFact_44 : decode cX8_readFact 44 = .ok (.iload_n 1, 1) := by decide +kernel
theorem dX8_readFact_45 : decode cX8_readFact 45 = .ok (.ifCond .ne 7, 3) := by decide +kernel
theorem dX8_readFact_48 : decode cX8_readFact 48 = .ok (.iconst 1, 1) := by decide +kernel
theorem dX8_readFact_49 : decode cX8_readFact 49 = .ok (.goto 4, 3) := by decide +kernel
theorem dX8_readFact_52 : decode cX8_readFact 52 = .ok (.iconst 0, 1) := by decide +kernel
theorem dX8_readFact_53 : decode cX8_readFact 53 = .ok (.ireturn, 1) := by decide +kernel
theorem dX8_readFact_54 : decode cX8_readFact 54 = .ok (.aload_n 0, 1) := by decide +kernel
theorem dX8_readFact_55 : decode cX8_readFact 55 = .ok (.bipush 40, 2) := by decide +kernel
theorem dX8_readFact_57 : decode cX8_readFact 57 = .ok (.invokevirtual 366, 3) := by decide +kernel
theorem dX8_readFact_60 : decode cX8_readFact 60 = .ok (.ifCond .eq 45, 3) := by decide +kernel
theorem dX8_readFact_63 : decode cX8_readFact 63 = .ok (.aload_n 0, 1) := by decide +kernel
theorem dX8_readFact_64 : decode cX8_readFact 64 = .ok (.invokevirtual 474, 3) := by decide +kernel
theorem dX8_readFact_67 : decode cX8_readFact 67 = .ok (.aload_n 0, 1) := by decide +kernel
theorem dX8_readFact_68 : decode cX8_readFact 68 = .ok (.getfield 345, 3) := by decide +kernel
theorem dX8_readFact_71 : decode cX8_readFact 71 = .ok (.ifCond .ne 14, 3) := by decide +kernel
theorem dX8_readFact_74 : decode cX8_readFact 74 = .ok (.aload_n 0, 1) := by decide +kernel
theorem dX8_readFact_75 : decode cX8_readFact 75 = .ok (.invokevirtual 480, 3) := by decide +kernel
theorem dX8_readFact_78 : decode cX8_readFact 78 = .ok (.ifCond .eq 7, 3) := by decide +kernel
theorem dX8_readFact_81 : decode cX8_readFact 81 = .ok (.iconst 1, 1) := by decide +kernel
theorem dX8_readFact_82 : decode cX8_readFact 82 = .ok (.goto 4, 3) := by decide +kernel
theorem dX8_readFact_85 : decode cX8_readFact 85 = .ok (.iconst 0, 1) := by decide +kernel
theorem dX8_readFact_86 : decode cX8_readFact 86 = .ok (.istore_n 1, 1) := by decide +kernel
theorem dX8_readFact_87 : decode cX8_readFact 87 = .ok (.aload_n 0, 1) := by decide +kernel
theorem dX8_readFact_88 : decode cX8_readFact 88 = .ok (.bipush 41, 2) := by decide +kernel
theorem dX8_readFact_90 : decode cX8_readFact 90 = .ok (.invokevirtual 433, 3) := by decide +kernel
theorem dX8_readFact_93 : decode cX8_readFact 93 = .ok (.aload_n 0, 1) := by decide +kernel
theorem dX8_readFact_94 : decode cX8_readFact 94 = .ok (.dup, 1) := by decide +kernel
theorem dX8_readFact_95 : decode cX8_readFact 95 = .ok (.getfield 348, 3) := by decide +kernel
theorem dX8_readFact_98 : decode cX8_readFact 98 = .ok (.iconst 1, 1) := by decide +kernel
theorem dX8_readFact_99 : decode cX8_readFact 99 = .ok (.isub, 1) := by decide +kernel
theorem dX8_readFact_100 : decode cX8_readFact 100 = .ok (.putfield 348, 3) := by decide +kernel
theorem dX8_readFact_103 : decode cX8_readFact 103 = .ok (.iload_n 1, 1) := by decide +kernel
theorem dX8_readFact_104 : decode cX8_readFact 104 = .ok (.ireturn, 1) := by decide +kernel
theorem dX8_readFact_105 : decode cX8_readFact 105 = .ok (.aload_n 0, 1) := by decide +kernel
theorem dX8_readFact_106 : decode cX8_readFact 106 = .ok (.invokevirtual 483, 3) := by decide +kernel
theorem dX8_readFact_109 : decode cX8_readFact 109 = .ok (.istore_n 1, 1) := by decide +kernel
theorem dX8_readFact_110 : decode cX8_readFact 110 = .ok (.aload_n 0, 1) := by decide +kernel
theorem dX8_readFact_111 : decode cX8_readFact 111 = .ok (.bipush 60, 2) := by decide +kernel
theorem dX8_readFact_113 : decode cX8_readFact 113 = .ok (.invokevirtual 366, 3) := by decide +kernel
theorem dX8_readFact_116 : decode cX8_readFact 116 = .ok (.ifCond .eq 7, 3) := by decide +kernel
theorem dX8_readFact_119 : decode cX8_readFact 119 = .ok (.iconst (-1), 1) := by decide +kernel
theorem dX8_readFact_120 : decode cX8_readFact 120 = .ok (.goto 30, 3) := by decide +kernel
theorem dX8_readFact_123 : decode cX8_readFact 123 = .ok (.aload_n 0, 1) := by decide +kernel
theorem dX8_readFact_124 : decode cX8_readFact 124 = .ok (.bipush 61, 2) := by decide +kernel
theorem dX8_readFact_126 : decode cX8_readFact 126 = .ok (.invokevirtual 366, 3) := by decide +kernel
theorem dX8_readFact_129 : decode cX8_readFact 129 = .ok (.ifCond .eq 7, 3) := by decide +kernel
theorem dX8_readFact_132 : decode cX8_readFact 132 = .ok (.iconst 0, 1) := by decide +kernel
theorem dX8_readFact_133 : decode cX8_readFact 133 = .ok (.goto 17, 3) := by decide +kernel
theorem dX8_readFact_136 : decode cX8_readFact 136 = .ok (.aload_n 0, 1) := by decide +kernel
theorem dX8_readFact_137 : decode cX8_readFact 137 = .ok (.bipush 62, 2) := by decide +kernel
theorem dX8_readFact_139 : decode cX8_readFact 139 = .ok (.invokevirtual 366, 3) := by decide +kernel
theorem dX8_readFact_142 : decode cX8_readFact 142 = .ok (.ifCond .eq 7, 3) := by decide +kernel
theorem dX8_readFact_145 : decode cX8_readFact 145 = .ok (.iconst 1, 1) := by decide +kernel
theorem dX8_readFact_146 : decode cX8_readFact 146 = .ok (.goto 4, 3) := by decide +kernel
theorem dX8_readFact_149 : decode cX8_readFact 149 = .ok (.iconst 2, 1) := by decide +kernel
theorem dX8_readFact_150 : decode cX8_readFact 150 = .ok (.istore_n 2, 1) := by decide +kernel
theorem dX8_readFact_151 : decode cX8_readFact 151 = .ok (.iload_n 2, 1) := by decide +kernel
theorem dX8_readFact_152 : decode cX8_readFact 152 = .ok (.iconst 2, 1) := by decide +kernel
theorem dX8_readFact_153 : decode cX8_readFact 153 = .ok (.if_icmp .ne 8, 3) := by decide +kernel
theorem dX8_readFact_156 : decode cX8_readFact 156 = .ok (.aload_n 0, 1) := by decide +kernel
theorem dX8_readFact_157 : decode cX8_readFact 157 = .ok (.iconst 1, 1) := by decide +kernel
theorem dX8_readFact_158 : decode cX8_readFact 158 = .ok (.invokevirtual 369, 3) := by decide +kernel
theorem dX8_readFact_161 : decode cX8_readFact 161 = .ok (.aload_n 0, 1) := by decide +kernel
theorem dX8_readFact_162 : decode cX8_readFact 162 = .ok (.invokevirtual 372, 3) := by decide +kernel
theorem dX8_readFact_165 : decode cX8_readFact 165 = .ok (.aload_n 0, 1) := by decide +kernel
theorem dX8_readFact_166 : decode cX8_readFact 166 = .ok (.invokevirtual 483, 3) := by decide +kernel
theorem dX8_readFact_169 : decode cX8_readFact 169 = .ok (.istore_n 3, 1) := by decide +kernel
theorem dX8_readFact_170 : decode cX8_readFact 170 = .ok (.iload_n 2, 1) := by decide +kernel
theorem dX8_readFact_171 : decode cX8_readFact 171 = .ok (.ifCond .ge 16, 3) := by decide +kernel
theorem dX8_readFact_174 : decode cX8_readFact 174 = .ok (.iload_n 1, 1) := by decide +kernel
theorem dX8_readFact_175 : decode cX8_readFact 175 = .ok (.iload_n 3, 1) := by decide +kernel
theorem dX8_readFact_176 : decode cX8_readFact 176 = .ok (.if_icmp .ge 7, 3) := by decide +kernel
theorem dX8_readFact_179 : decode cX8_readFact 179 = .ok (.iconst 1, 1) := by decide +kernel
theorem dX8_readFact_180 : decode cX8_readFact 180 = .ok (.goto 34, 3) := by decide +kernel
theorem dX8_readFact_183 : decode cX8_readFact 183 = .ok (.iconst 0, 1) := by decide +kernel
theorem dX8_readFact_184 : decode cX8_readFact 184 = .ok (.goto 30, 3) := by decide +kernel
theorem dX8_readFact_187 : decode cX8_readFact 187 = .ok (.iload_n 2, 1) := by decide +kernel
theorem dX8_readFact_188 : decode cX8_readFact 188 = .ok (.ifCond .ne 16, 3) := by decide +kernel
theorem dX8_readFact_191 : decode cX8_readFact 191 = .ok (.iload_n 1, 1) := by decide +kernel
theorem dX8_readFact_192 : decode cX8_readFact 192 = .ok (.iload_n 3, 1) := by decide +kernel
theorem dX8_readFact_193 : decode cX8_readFact 193 = .ok (.if_icmp .ne 7, 3) := by decide +kernel
theorem dX8_readFact_196 : decode cX8_readFact 196 = .ok (.iconst 1, 1) := by decide +kernel
theorem dX8_readFact_197 : decode cX8_readFact 197 = .ok (.goto 17, 3) := by decide +kernel
theorem dX8_readFact_200 : decode cX8_readFact 200 = .ok (.iconst 0, 1) := by decide +kernel
theorem dX8_readFact_201 : decode cX8_readFact 201 = .ok (.goto 13, 3) := by decide +kernel
theorem dX8_readFact_204 : decode cX8_readFact 204 = .ok (.iload_n 1, 1) := by decide +kernel
theorem dX8_readFact_205 : decode cX8_readFact 205 = .ok (.iload_n 3, 1) := by decide +kernel
theorem dX8_readFact_206 : decode cX8_readFact 206 = .ok (.if_icmp .le 7, 3) := by decide +kernel
theorem dX8_readFact_209 : decode cX8_readFact 209 = .ok (.iconst 1, 1) := by decide +kernel
theorem dX8_readFact_210 : decode cX8_readFact 210 = .ok (.goto 4, 3) := by decide +kernel
theorem dX8_readFact_213 : decode cX8_readFact 213 = .ok (.iconst 0, 1) := by decide +kernel
theorem dX8_readFact_214 : decode cX8_readFact 214 = .ok (.ireturn, 1) := by decide +kernel
theorem dX8_readBoth_0 : decode cX8_readBoth 0 = .ok (.aload_n 0, 1) := by decide +kernel
theorem dX8_readBoth_1 : decode cX8_readBoth 1 = .ok (.invokevirtual 477, 3) := by decide +kernel
theorem dX8_readBoth_4 : decode cX8_readBoth 4 = .ok (.istore_n 1, 1) := by decide +kernel
theorem dX8_readBoth_5 : decode cX8_readBoth 5 = .ok (.aload_n 0, 1) := by decide +kernel
theorem dX8_readBoth_6 : decode cX8_readBoth 6 = .ok (.ldc_w 486, 3) := by decide +kernel
theorem dX8_readBoth_9 : decode cX8_readBoth 9 = .ok (.invokevirtual 393, 3) := by decide +kernel
theorem dX8_readBoth_12 : decode cX8_readBoth 12 = .ok (.ifCond .eq 29, 3) := by decide +kernel
theorem dX8_readBoth_15 : decode cX8_readBoth 15 = .ok (.aload_n 0, 1) := by decide +kernel
theorem dX8_readBoth_16 : decode cX8_readBoth 16 = .ok (.invokevirtual 372, 3) := by decide +kernel
theorem dX8_readBoth_19 : decode cX8_readBoth 19 = .ok (.aload_n 0, 1) := by decide +kernel
theorem dX8_readBoth_20 : decode cX8_readBoth 20 = .ok (.invokevirtual 477, 3) := by decide +kernel
theorem dX8_readBoth_23 : decode cX8_readBoth 23 = .ok (.istore_n 2, 1) := by decide +kernel
theorem dX8_readBoth_24 : decode cX8_readBoth 24 = .ok (.iload_n 1, 1) := by decide +kernel
theorem dX8_readBoth_25 : decode cX8_readBoth 25 = .ok (.ifCond .eq 11, 3) := by decide +kernel
theorem dX8_readBoth_28 : decode cX8_readBoth 28 = .ok (.iload_n 2, 1) := by decide +kernel
theorem dX8_readBoth_29 : decode cX8_readBoth 29 = .ok (.ifCond .eq 7, 3) := by decide +kernel
theorem dX8_readBoth_32 : decode cX8_readBoth 32 = .ok (.iconst 1, 1) := by decide +kernel
theorem dX8_readBoth_33 : decode cX8_readBoth 33 = .ok (.goto 4, 3) := by decide +kernel
theorem dX8_readBoth_36 : decode cX8_readBoth 36 = .ok (.iconst 0, 1) := by decide +kernel
theorem dX8_readBoth_37 : decode cX8_readBoth 37 = .ok (.istore_n 1, 1) := by decide +kernel
theorem dX8_readBoth_38 : decode cX8_readBoth 38 = .ok (.goto (-33), 3) := by decide +kernel
theorem dX8_readBoth_41 : decode cX8_readBoth 41 = .ok (.iload_n 1, 1) := by decide +kernel
theorem dX8_readBoth_42 : decode cX8_readBoth 42 = .ok (.ireturn, 1) := by decide +kernel
theorem dX8_readTest_0 : decode cX8_readTest 0 = .ok (.aload_n 0, 1) := by decide +kernel
theorem dX8_readTest_1 : decode cX8_readTest 1 = .ok (.invokevirtual 488, 3) := by decide +kernel
theorem dX8_readTest_4 : decode cX8_readTest 4 = .ok (.istore_n 1, 1) := by decide +kernel
theorem dX8_readTest_5 : decode cX8_readTest 5 = .ok (.aload_n 0, 1) := by decide +kernel
theorem dX8_readTest_6 : decode cX8_readTest 6 = .ok (.ldc_w 491, 3) := by decide +kernel
theorem dX8_readTest_9 : decode cX8_readTest 9 = .ok (.invokevirtual 393, 3) := by decide +kernel
theorem dX8_readTest_12 : decode cX8_readTest 12 = .ok (.ifCond .eq 29, 3) := by decide +kernel
theorem dX8_readTest_15 : decode cX8_readTest 15 = .ok (.aload_n 0, 1) := by decide +kernel
theorem dX8_readTest_16 : decode cX8_readTest 16 = .ok (.invokevirtual 372, 3) := by decide +kernel
theorem dX8_readTest_19 : decode cX8_readTest 19 = .ok (.aload_n 0, 1) := by decide +kernel
theorem dX8_readTest_20 : decode cX8_readTest 20 = .ok (.invokevirtual 488, 3) := by decide +kernel
theorem dX8_readTest_23 : decode cX8_readTest 23 = .ok (.istore_n 2, 1) := by decide +kernel
theorem dX8_readTest_24 : decode cX8_readTest 24 = .ok (.iload_n 1, 1) := by decide +kernel
theorem dX8_readTest_25 : decode cX8_readTest 25 = .ok (.ifCond .ne 7, 3) := by decide +kernel
theorem dX8_readTest_28 : decode cX8_readTest 28 = .ok (.iload_n 2, 1) := by decide +kernel
theorem dX8_readTest_29 : decode cX8_readTest 29 = .ok (.ifCond .eq 7, 3) := by decide +kernel
theorem dX8_readTest_32 : decode cX8_readTest 32 = .ok (.iconst 1, 1) := by decide +kernel
theorem dX8_readTest_33 : decode cX8_readTest 33 = .ok (.goto 4, 3) := by decide +kernel
theorem dX8_readTest_36 : decode cX8_readTest 36 = .ok (.iconst 0, 1) := by decide +kernel
theorem dX8_readTest_37 : decode cX8_readTest 37 = .ok (.istore_n 1, 1) := by decide +kernel
theorem dX8_readTest_38 : decode cX8_readTest 38 = .ok (.goto (-33), 3) := by decide +kernel
theorem dX8_readTest_41 : decode cX8_readTest 41 = .ok (.iload_n 1, 1) := by decide +kernel
theorem dX8_readTest_42 : decode cX8_readTest 42 = .ok (.ireturn, 1) := by decide +kernel
theorem dX8_readQuestion_0 : decode cX8_readQuestion 0 = .ok (.aload_n 0, 1) := by decide +kernel
theorem dX8_readQuestion_1 : decode cX8_readQuestion 1 = .ok (.iload_n 2, 1) := by decide +kernel
theorem dX8_readQuestion_2 : decode cX8_readQuestion 2 = .ok (.putfield 466, 3) := by decide +kernel
theorem dX8_readQuestion_5 : decode cX8_readQuestion 5 = .ok (.aload_n 0, 1) := by decide +kernel
theorem dX8_readQuestion_6 : decode cX8_readQuestion 6 = .ok (.iload_n 1, 1) := by decide +kernel
theorem dX8_readQuestion_7 : decode cX8_readQuestion 7 = .ok (.invokevirtual 436, 3) := by decide +kernel
theorem dX8_readQuestion_10 : decode cX8_readQuestion 10 = .ok (.aload_n 0, 1) := by decide +kernel
theorem dX8_readQuestion_11 : decode cX8_readQuestion 11 = .ok (.ldc_w 493, 3) := by decide +kernel
theorem dX8_readQuestion_14 : decode cX8_readQuestion 14 = .ok (.invokevirtual 393, 3) := by decide +kernel
theorem dX8_readQuestion_17 : decode cX8_readQuestion 17 = .ok (.ifCond .ne 18, 3) := by decide +kernel
theorem dX8_readQuestion_20 : decode cX8_readQuestion 20 = .ok (.aload_n 0, 1) := by decide +kernel
theorem dX8_readQuestion_21 : decode cX8_readQuestion 21 = .ok (.ldc_w 495, 3) := by decide +kernel
theorem dX8_readQuestion_24 : decode cX8_readQuestion 24 = .ok (.invokevirtual 393, 3) := by decide +kernel
theorem dX8_readQuestion_27 : decode cX8_readQuestion 27 = .ok (.ifCond .ne 8, 3) := by decide +kernel
theorem dX8_readQuestion_30 : decode cX8_readQuestion 30 = .ok (.aload_n 0, 1) := by decide +kernel
theorem dX8_readQuestion_31 : decode cX8_readQuestion 31 = .ok (.iconst 1, 1) := by decide +kernel
theorem dX8_readQuestion_32 : decode cX8_readQuestion 32 = .ok (.invokevirtual 369, 3) := by decide +kernel
theorem dX8_readQuestion_35 : decode cX8_readQuestion 35 = .ok (.aload_n 0, 1) := by decide +kernel
theorem dX8_readQuestion_36 : decode cX8_readQuestion 36 = .ok (.invokevirtual 372, 3) := by decide +kernel
theorem dX8_readQuestion_39 : decode cX8_readQuestion 39 = .ok (.aload_n 0, 1) := by decide +kernel
theorem dX8_readQuestion_40 : decode cX8_readQuestion 40 = .ok (.invokevirtual 480, 3) := by decide +kernel
theorem dX8_readQuestion_43 : decode cX8_readQuestion 43 = .ok (.istore_n 3, 1) := by decide +kernel
theorem dX8_readQuestion_44 : decode cX8_readQuestion 44 = .ok (.aload_n 0, 1) := by decide +kernel
theorem dX8_readQuestion_45 : decode cX8_readQuestion 45 = .ok (.getfield 345, 3) := by decide +kernel
theorem dX8_readQuestion_48 : decode cX8_readQuestion 48 = .ok (.ifCond .ne 15, 3) := by decide +kernel
theorem dX8_readQuestion_51 : decode cX8_readQuestion 51 = .ok (.aload_n 0, 1) := by decide +kernel
theorem dX8_readQuestion_52 : decode cX8_readQuestion 52 = .ok (.getfield 333, 3) := by decide +kernel
theorem dX8_readQuestion_55 : decode cX8_readQuestion 55 = .ok (.ifCond .eq 8, 3) := by decide +kernel
theorem dX8_readQuestion_58 : decode cX8_readQuestion 58 = .ok (.aload_n 0, 1) := by decide +kernel
theorem dX8_readQuestion_59 : decode cX8_readQuestion 59 = .ok (.iconst 1, 1) := by decide +kernel
theorem dX8_readQuestion_60 : decode cX8_readQuestion 60 = .ok (.invokevirtual 369, 3) := by decide +kernel
theorem dX8_readQuestion_63 : decode cX8_readQuestion 63 = .ok (.iload_n 3, 1) := by decide +kernel
theorem dX8_readQuestion_64 : decode cX8_readQuestion 64 = .ok (.ireturn, 1) := by decide +kernel
theorem dX8_ask_0 : decode cX8_ask 0 = .ok (.aload_n 0, 1) := by decide +kernel
theorem dX8_ask_1 : decode cX8_ask 1 = .ok (.iload_n 1, 1) := by decide +kernel
theorem dX8_ask_2 : decode cX8_ask 2 = .ok (.iconst 0, 1) := by decide +kernel
theorem dX8_ask_3 : decode cX8_ask 3 = .ok (.aload_n 0, 1) := by decide +kernel
theorem dX8_ask_4 : decode cX8_ask 4 = .ok (.getfield 233, 3) := by decide +kernel
theorem dX8_ask_7 : decode cX8_ask 7 = .ok (.sipush 200, 3) := by decide +kernel
theorem dX8_ask_10 : decode cX8_ask 10 = .ok (.invokestatic 133, 3) := by decide +kernel
theorem dX8_ask_13 : decode cX8_ask 13 = .ok (.invokestatic 94, 3) := by decide +kernel
theorem dX8_ask_16 : decode cX8_ask 16 = .ok (.ifCond .eq 10, 3) := by decide +kernel
theorem dX8_ask_19 : decode cX8_ask 19 = .ok (.iload_n 2, 1) := by decide +kernel
theorem dX8_ask_20 : decode cX8_ask 20 = .ok (.invokestatic 252, 3) := by decide +kernel
theorem dX8_ask_23 : decode cX8_ask 23 = .ok (.ifCond .ne 7, 3) := by decide +kernel
theorem dX8_ask_26 : decode cX8_ask 26 = .ok (.iconst 1, 1) := by decide +kernel
theorem dX8_ask_27 : decode cX8_ask 27 = .ok (.goto 4, 3) := by decide +kernel
theorem dX8_ask_30 : decode cX8_ask 30 = .ok (.iconst 0, 1) := by decide +kernel
theorem dX8_ask_31 : decode cX8_ask 31 = .ok (.putfield 87, 3) := by decide +kernel
theorem dX8_ask_34 : decode cX8_ask 34 = .ok (.aload_n 0, 1) := by decide +kernel
theorem dX8_ask_35 : decode cX8_ask 35 = .ok (.getfield 87, 3) := by decide +kernel
theorem dX8_ask_38 : decode cX8_ask 38 = .ok (.ifCond .le 5, 3) := by decide +kernel
theorem dX8_ask_41 : decode cX8_ask 41 = .ok (.iconst 0, 1) := by decide +kernel
theorem dX8_ask_42 : decode cX8_ask 42 = .ok (.ireturn, 1) := by decide +kernel
theorem dX8_ask_43 : decode cX8_ask 43 = .ok (.aload_n 0, 1) := by decide +kernel
theorem dX8_ask_44 : decode cX8_ask 44 = .ok (.iload_n 2, 1) := by decide +kernel
theorem dX8_ask_45 : decode cX8_ask 45 = .ok (.putfield 460, 3) := by decide +kernel
theorem dX8_ask_48 : decode cX8_ask 48 = .ok (.aload_n 0, 1) := by decide +kernel
theorem dX8_ask_49 : decode cX8_ask 49 = .ok (.iload_n 1, 1) := by decide +kernel
theorem dX8_ask_50 : decode cX8_ask 50 = .ok (.invokevirtual 436, 3) := by decide +kernel
theorem dX8_ask_53 : decode cX8_ask 53 = .ok (.aload_n 0, 1) := by decide +kernel
theorem dX8_ask_54 : decode cX8_ask 54 = .ok (.ldc_w 495, 3) := by decide +kernel
theorem dX8_ask_57 : decode cX8_ask 57 = .ok (.invokevirtual 393, 3) := by decide +kernel
theorem dX8_ask_60 : decode cX8_ask 60 = .ok (.istore_n 3, 1) := by decide +kernel
theorem dX8_ask_61 : decode cX8_ask 61 = .ok (.aload_n 0, 1) := by decide +kernel
theorem dX8_ask_62 : decode cX8_ask 62 = .ok (.iload_n 1, 1) := by decide +kernel
theorem dX8_ask_63 : decode cX8_ask 63 = .ok (.iconst (-1), 1) := by decide +kernel
theorem dX8_ask_64 : decode cX8_ask 64 = .ok (.invokevirtual 497, 3) := by decide +kernel
theorem dX8_ask_67 : decode cX8_ask 67 = .ok (.istore 4, 2) := by decide +kernel
theorem dX8_ask_69 : decode cX8_ask 69 = .ok (.aload_n 0, 1) := by decide +kernel
theorem dX8_ask_70 : decode cX8_ask 70 = .ok (.invokevirtual 444, 3) := by decide +kernel
theorem dX8_ask_73 : decode cX8_ask 73 = .ok (.istore 5, 2) := by decide +kernel
theorem dX8_ask_75 : decode cX8_ask 75 = .ok (.iload 5, 2) := by decide +kernel
theorem dX8_ask_77 : decode cX8_ask 77 = .ok (.ifCond .eq 10, 3) := by decide +kernel
theorem dX8_ask_80 : decode cX8_ask 80 = .ok (.ldc_w 289, 3) := by decide +kernel
theorem dX8_ask_83 : decode cX8_ask 83 = .ok (.iload 5, 2) := by decide +kernel
theorem dX8_ask_85 : decode cX8_ask 85 = .ok (.isub, 1) := by decide +kernel
theorem dX8_ask_86 : decode cX8_ask 86 = .ok (.ireturn, 1) := by decide +kernel
theorem dX8_ask_87 : decode cX8_ask 87 = .ok (.iconst 0, 1) := by decide +kernel
theorem dX8_ask_88 : decode cX8_ask 88 = .ok (.istore 6, 2) := by decide +kernel
theorem dX8_ask_90 : decode cX8_ask 90 = .ok (.iconst 0, 1) := by decide +kernel
theorem dX8_ask_91 : decode cX8_ask 91 = .ok (.istore 7, 2) := by decide +kernel
theorem dX8_ask_93 : decode cX8_ask 93 = .ok (.iload 7, 2) := by decide +kernel
theorem dX8_ask_95 : decode cX8_ask 95 = .ok (.aload_n 0, 1) := by decide +kernel
theorem dX8_ask_96 : decode cX8_ask 96 = .ok (.invokevirtual 90, 3) := by decide +kernel
theorem dX8_ask_99 : decode cX8_ask 99 = .ok (.if_icmp .ge 32, 3) := by decide +kernel
theorem dX8_ask_102 : decode cX8_ask 102 = .ok (.aload_n 0, 1) := by decide +kernel
theorem dX8_ask_103 : decode cX8_ask 103 = .ok (.iload_n 1, 1) := by decide +kernel
theorem dX8_ask_104 : decode cX8_ask 104 = .ok (.iload 7, 2) := by decide +kernel
theorem dX8_ask_106 : decode cX8_ask 106 = .ok (.invokevirtual 497, 3) := by decide +kernel
theorem dX8_ask_109 : decode cX8_ask 109 = .ok (.ifCond .ne 6, 3) := by decide +kernel
theorem dX8_ask_112 : decode cX8_ask 112 = .ok (.goto 13, 3) := by decide +kernel
theorem dX8_ask_115 : decode cX8_ask 115 = .ok (.iload_n 3, 1) := by decide +kernel
theorem dX8_ask_116 : decode cX8_ask 116 = .ok (.ifCond .eq 6, 3) := by decide +kernel
theorem dX8_ask_119 : decode cX8_ask 119 = .ok (.iload 7, 2) := by decide +kernel
theorem dX8_ask_121 : decode cX8_ask 121 = .ok (.ireturn, 1) := by decide +kernel
theorem dX8_ask_122 : decode cX8_ask 122 = .ok (.iinc 6 1, 3) := by decide +kernel
theorem dX8_ask_125 : decode cX8_ask 125 = .ok (.iinc 7 1, 3) := by decide +kernel
theorem dX8_ask_128 : decode cX8_ask 128 = .ok (.goto (-35), 3) := by decide +kernel
theorem dX8_ask_131 : decode cX8_ask 131 = .ok (.iload_n 3, 1) := by decide +kernel
theorem dX8_ask_132 : decode cX8_ask 132 = .ok (.ifCond .eq 7, 3) := by decide +kernel
theorem dX8_ask_135 : decode cX8_ask 135 = .ok (.iconst (-1), 1) := by decide +kernel
theorem dX8_ask_136 : decode cX8_ask 136 = .ok (.goto 5, 3) := by decide +kernel
theorem dX8_ask_139 : decode cX8_ask 139 = .ok (.iload 6, 2) := by decide +kernel
theorem dX8_ask_141 : decode cX8_ask 141 = .ok (.ireturn, 1) := by decide +kernel
