theorem dX7_init_0 : decode cX7_init 0 = .ok (.aload_n 0, 1) := by decide +kernel
theorem dX7_init_1 : decode cX7_init 1 = .ok (.invokespecial 1, 3) := by decide +kernel
theorem dX7_init_4 : decode cX7_init 4 = .ok (.aload_n 0, 1) := by decide +kernel
theorem dX7_init_5 : decode cX7_init 5 = .ok (.new 7, 3) := by decide +kernel
theorem dX7_init_8 : decode cX7_init 8 = .ok (.dup, 1) := by decide +kernel
theorem dX7_init_9 : decode cX7_init 9 = .ok (.invokespecial 9, 3) := by decide +kernel
theorem dX7_init_12 : decode cX7_init 12 = .ok (.putfield 10, 3) := by decide +kernel
theorem dX7_init_15 : decode cX7_init 15 = .ok (.aload_n 0, 1) := by decide +kernel
theorem dX7_init_16 : decode cX7_init 16 = .ok (.new 16, 3) := by decide +kernel
theorem dX7_init_19 : decode cX7_init 19 = .ok (.dup, 1) := by decide +kernel
theorem dX7_init_20 : decode cX7_init 20 = .ok (.invokespecial 18, 3) := by decide +kernel
theorem dX7_init_23 : decode cX7_init 23 = .ok (.putfield 19, 3) := by decide +kernel
theorem dX7_init_26 : decode cX7_init 26 = .ok (.aload_n 0, 1) := by decide +kernel
theorem dX7_init_27 : decode cX7_init 27 = .ok (.new 16, 3) := by decide +kernel
theorem dX7_init_30 : decode cX7_init 30 = .ok (.dup, 1) := by decide +kernel
theorem dX7_init_31 : decode cX7_init 31 = .ok (.invokespecial 18, 3) := by decide +kernel
theorem dX7_init_34 : decode cX7_init 34 = .ok (.putfield 23, 3) := by decide +kernel
theorem dX7_init_37 : decode cX7_init 37 = .ok (.aload_n 0, 1) := by decide +kernel
theorem dX7_init_38 : decode cX7_init 38 = .ok (.new 16, 3) := by decide +kernel
theorem dX7_init_41 : decode cX7_init 41 = .ok (.dup, 1) := by decide +kernel
theorem dX7_init_42 : decode cX7_init 42 = .ok (.invokespecial 18, 3) := by decide +kernel
theorem dX7_init_45 : decode cX7_init 45 = .ok (.putfield 26, 3) := by decide +kernel
theorem dX7_init_48 : decode cX7_init 48 = .ok (.aload_n 0, 1) := by decide +kernel
theorem dX7_init_49 : decode cX7_init 49 = .ok (.aconst_null, 1) := by decide +kernel
theorem dX7_init_50 : decode cX7_init 50 = .ok (.putfield 29, 3) := by decide +kernel
theorem dX7_init_53 : decode cX7_init 53 = .ok (.aload_n 0, 1) := by decide +kernel
theorem dX7_init_54 : decode cX7_init 54 = .ok (.new 32, 3) := by decide +kernel
theorem dX7_init_57 : decode cX7_init 57 = .ok (.dup, 1) := by decide +kernel
theorem dX7_init_58 : decode cX7_init 58 = .ok (.invokespecial 34, 3) := by decide +kernel
theorem dX7_init_61 : decode cX7_init 61 = .ok (.putfield 35, 3) := by decide +kernel
theorem dX7_init_64 : decode cX7_init 64 = .ok (.aload_n 0, 1) := by decide +kernel
theorem dX7_init_65 : decode cX7_init 65 = .ok (.new 39, 3) := by decide +kernel
theorem dX7_init_68 : decode cX7_init 68 = .ok (.dup, 1) := by decide +kernel
theorem dX7_init_69 : decode cX7_init 69 = .ok (.invokespecial 41, 3) := by decide +kernel
theorem dX7_init_72 : decode cX7_init 72 = .ok (.putfield 42, 3) := by decide +kernel
theorem dX7_init_75 : decode cX7_init 75 = .ok (.aload_n 0, 1) := by decide +kernel
theorem dX7_init_76 : decode cX7_init 76 = .ok (.new 39, 3) := by decide +kernel
theorem dX7_init_79 : decode cX7_init 79 = .ok (.dup, 1) := by decide +kernel
theorem dX7_init_80 : decode cX7_init 80 = .ok (.invokespecial 41, 3) := by decide +kernel
theorem dX7_init_83 : decode cX7_init 83 = .ok (.putfield 46, 3) := by decide +kernel
theorem dX7_init_86 : decode cX7_init 86 = .ok (.aload_n 0, 1) := by decide +kernel
theorem dX7_init_87 : decode cX7_init 87 = .ok (.new 49, 3) := by decide +kernel
theorem dX7_init_90 : decode cX7_init 90 = .ok (.dup, 1) := by decide +kernel
theorem dX7_init_91 : decode cX7_init 91 = .ok (.invokespecial 51, 3) := by decide +kernel
theorem dX7_init_94 : decode cX7_init 94 = .ok (.putfield 52, 3) := by decide +kernel
theorem dX7_init_97 : decode cX7_init 97 = .ok (.aload_n 0, 1) := by decide +kernel
theorem dX7_init_98 : decode cX7_init 98 = .ok (.new 56, 3) := by decide +kernel
theorem dX7_init_101 : decode cX7_init 101 = .ok (.dup, 1) := by decide +kernel
theorem dX7_init_102 : decode cX7_init 102 = .ok (.aload_n 0, 1) := by decide +kernel
theorem dX7_init_103 : decode cX7_init 103 = .ok (.getfield 10, 3) := by decide +kernel
theorem dX7_init_106 : decode cX7_init 106 = .ok (.aload_n 0, 1) := by decide +kernel
theorem dX7_init_107 : decode cX7_init 107 = .ok (.getfield 26, 3) := by decide +kernel
theorem dX7_init_110 : decode cX7_init 110 = .ok (.invokespecial 58, 3) := by decide +kernel
theorem dX7_init_113 : decode cX7_init 113 = .ok (.putfield 61, 3) := by decide +kernel
theorem dX7_init_116 : decode cX7_init 116 = .ok (.aload_n 0, 1) := by decide +kernel
theorem dX7_init_117 : decode cX7_init 117 = .ok (.new 65, 3) := by decide +kernel
theorem dX7_init_120 : decode cX7_init 120 = .ok (.dup, 1) := by decide +kernel
theorem dX7_init_121 : decode cX7_init 121 = .ok (.aload_n 0, 1) := by decide +kernel
theorem dX7_init_122 : decode cX7_init 122 = .ok (.getfield 10, 3) := by decide +kernel
theorem dX7_init_125 : decode cX7_init 125 = .ok (.aload_n 0, 1) := by decide +kernel
theorem dX7_init_126 : decode cX7_init 126 = .ok (.getfield 19, 3) := by decide +kernel
theorem dX7_init_129 : decode cX7_init 129 = .ok (.aload_n 0, 1) := by decide +kernel
theorem dX7_init_130 : decode cX7_init 130 = .ok (.getfield 42, 3) := by decide +kernel
theorem dX7_init_133 : decode cX7_init 133 = .ok (.aload_n 0, 1) := by decide +kernel
theorem dX7_init_134 : decode cX7_init 134 = .ok (.getfield 52, 3) := by decide +kernel
theorem dX7_init_137 : decode cX7_init 137 = .ok (.invokespecial 67, 3) := by decide +kernel
theorem dX7_init_140 : decode cX7_init 140 = .ok (.putfield 70, 3) := by decide +kernel
theorem dX7_init_143 : decode cX7_init 143 = .ok (.aload_n 0, 1) := by decide +kernel
theorem dX7_init_144 : decode cX7_init 144 = .ok (.iconst (-1), 1) := by decide +kernel
theorem dX7_init_145 : decode cX7_init 145 = .ok (.putfield 74, 3) := by decide +kernel
theorem dX7_init_148 : decode cX7_init 148 = .ok (.aload_n 0, 1) := by decide +kernel
theorem dX7_init_149 : decode cX7_init 149 = .ok (.iconst 3, 1) := by decide +kernel
theorem dX7_init_150 : decode cX7_init 150 = .ok (.putfield 78, 3) := by decide +kernel
theorem dX7_init_153 : decode cX7_init 153 = .ok (.return_, 1) := by decide +kernel
theorem dX7_feed_0 : decode cX7_feed 0 = .ok (.aload_n 0, 1) := by decide +kernel
theorem dX7_feed_1 : decode cX7_feed 1 = .ok (.getfield 10, 3) := by decide +kernel
theorem dX7_feed_4 : decode cX7_feed 4 = .ok (.getfield 81, 3) := by decide +kernel
theorem dX7_feed_7 : decode cX7_feed 7 = .ok (.sipush 680, 3) := by decide +kernel
theorem dX7_feed_10 : decode cX7_feed 10 = .ok (.if_icmp .le 5, 3) := by decide +kernel
theorem dX7_feed_13 : decode cX7_feed 13 = .ok (.iconst (-1), 1) := by decide +kernel
theorem dX7_feed_14 : decode cX7_feed 14 = .ok (.ireturn, 1) := by decide +kernel
theorem dX7_feed_15 : decode cX7_feed 15 = .ok (.aload_n 0, 1) := by decide +kernel
theorem dX7_feed_16 : decode cX7_feed 16 = .ok (.getfield 10, 3) := by decide +kernel
theorem dX7_feed_19 : decode cX7_feed 19 = .ok (.iload_n 1, 1) := by decide +kernel
theorem dX7_feed_20 : decode cX7_feed 20 = .ok (.invokevirtual 84, 3) := by decide +kernel
theorem dX7_feed_23 : decode cX7_feed 23 = .ok (.aload_n 0, 1) := by decide +kernel
theorem dX7_feed_24 : decode cX7_feed 24 = .ok (.getfield 10, 3) := by decide +kernel
theorem dX7_feed_27 : decode cX7_feed 27 = .ok (.iload_n 2, 1) := by decide +kernel
theorem dX7_feed_28 : decode cX7_feed 28 = .ok (.invokevirtual 84, 3) := by decide +kernel
theorem dX7_feed_31 : decode cX7_feed 31 = .ok (.aload_n 0, 1) := by decide +kernel
theorem dX7_feed_32 : decode cX7_feed 32 = .ok (.getfield 10, 3) := by decide +kernel
theorem dX7_feed_35 : decode cX7_feed 35 = .ok (.iload_n 3, 1) := by decide +kernel
theorem dX7_feed_36 : decode cX7_feed 36 = .ok (.invokevirtual 84, 3) := by decide +kernel
theorem dX7_feed_39 : decode cX7_feed 39 = .ok (.aload_n 0, 1) := by decide +kernel
theorem dX7_feed_40 : decode cX7_feed 40 = .ok (.getfield 10, 3) := by decide +kernel
theorem dX7_feed_43 : decode cX7_feed 43 = .ok (.iload 4, 2) := by decide +kernel
theorem dX7_feed_45 : decode cX7_feed 45 = .ok (.invokevirtual 84, 3) := by decide +kernel
theorem dX7_feed_48 : decode cX7_feed 48 = .ok (.aload_n 0, 1) := by decide +kernel
theorem dX7_feed_49 : decode cX7_feed 49 = .ok (.getfield 10, 3) := by decide +kernel
theorem dX7_feed_52 : decode cX7_feed 52 = .ok (.iload 5, 2) := by decide +kernel
theorem dX7_feed_54 : decode cX7_feed 54 = .ok (.invokevirtual 84, 3) := by decide +kernel
theorem dX7_feed_57 : decode cX7_feed 57 = .ok (.aload_n 0, 1) := by decide +kernel
theorem dX7_feed_58 : decode cX7_feed 58 = .ok (.getfield 10, 3) := by decide +kernel
theorem dX7_feed_61 : decode cX7_feed 61 = .ok (.getfield 81, 3) := by decide +kernel
theorem dX7_feed_64 : decode cX7_feed 64 = .ok (.ireturn, 1) := by decide +kernel
theorem dX7_register_0 : decode cX7_register 0 = .ok (.aload_n 0, 1) := by decide +kernel
theorem dX7_register_1 : decode cX7_register 1 = .ok (.iload_n 1, 1) := by decide +kernel
theorem dX7_register_2 : decode cX7_register 2 = .ok (.invokevirtual 88, 3) := by decide +kernel
theorem dX7_register_5 : decode cX7_register 5 = .ok (.aload_n 0, 1) := by decide +kernel
theorem dX7_register_6 : decode cX7_register 6 = .ok (.getfield 61, 3) := by decide +kernel
theorem dX7_register_9 : decode cX7_register 9 = .ok (.iload_n 1, 1) := by decide +kernel
theorem dX7_register_10 : decode cX7_register 10 = .ok (.invokevirtual 91, 3) := by decide +kernel
theorem dX7_register_13 : decode cX7_register 13 = .ok (.istore_n 2, 1) := by decide +kernel
theorem dX7_register_14 : decode cX7_register 14 = .ok (.aload_n 0, 1) := by decide +kernel
theorem dX7_register_15 : decode cX7_register 15 = .ok (.aload_n 0, 1) := by decide +kernel
theorem dX7_register_16 : decode cX7_register 16 = .ok (.getfield 61, 3) := by decide +kernel
theorem dX7_register_19 : decode cX7_register 19 = .ok (.getfield 95, 3) := by decide +kernel
theorem dX7_register_22 : decode cX7_register 22 = .ok (.putfield 74, 3) := by decide +kernel
theorem dX7_register_25 : decode cX7_register 25 = .ok (.iload_n 2, 1) := by decide +kernel
theorem dX7_register_26 : decode cX7_register 26 = .ok (.ifCond .eq 8, 3) := by decide +kernel
theorem dX7_register_29 : decode cX7_register 29 = .ok (.bipush (-10), 2) := by decide +kernel
theorem dX7_register_31 : decode cX7_register 31 = .ok (.iload_n 2, 1) := by decide +kernel
theorem dX7_register_32 : decode cX7_register 32 = .ok (.isub, 1) := by decide +kernel
theorem dX7_register_33 : decode cX7_register 33 = .ok (.ireturn, 1) := by decide +kernel
theorem dX7_register_34 : decode cX7_register 34 = .ok (.aload_n 0, 1) := by decide +kernel
theorem dX7_register_35 : decode cX7_register 35 = .ok (.getfield 19, 3) := by decide +kernel
theorem dX7_register_38 : decode cX7_register 38 = .ok (.aload_n 0, 1) := by decide +kernel
theorem dX7_register_39 : decode cX7_register 39 = .ok (.getfield 26, 3) := by decide +kernel
theorem dX7_register_42 : decode cX7_register 42 = .ok (.invokevirtual 98, 3) := by decide +kernel
theorem dX7_register_45 : decode cX7_register 45 = .ok (.aload_n 0, 1) := by decide +kernel
theorem dX7_register_46 : decode cX7_register 46 = .ok (.getfield 35, 3) := by decide +kernel
theorem dX7_register_49 : decode cX7_register 49 = .ok (.invokevirtual 102, 3) := by decide +kernel
theorem dX7_register_52 : decode cX7_register 52 = .ok (.aload_n 0, 1) := by decide +kernel
theorem dX7_register_53 : decode cX7_register 53 = .ok (.iconst 3, 1) := by decide +kernel
theorem dX7_register_54 : decode cX7_register 54 = .ok (.putfield 78, 3) := by decide +kernel
theorem dX7_register_57 : decode cX7_register 57 = .ok (.aload_n 0, 1) := by decide +kernel
theorem dX7_register_58 : decode cX7_register 58 = .ok (.getfield 19, 3) := by decide +kernel
theorem dX7_register_61 : decode cX7_register 61 = .ok (.getfield 105, 3) := by decide +kernel
theorem dX7_register_64 : decode cX7_register 64 = .ok (.ireturn, 1) := by decide +kernel
theorem dX7_fault_0 : decode cX7_fault 0 = .ok (.aload_n 0, 1) := by decide +kernel
theorem dX7_fault_1 : decode cX7_fault 1 = .ok (.getfield 74, 3) := by decide +kernel
theorem dX7_fault_4 : decode cX7_fault 4 = .ok (.ireturn, 1) := by decide +kernel
theorem dX7_count_0 : decode cX7_count 0 = .ok (.iload_n 1, 1) := by decide +kernel
theorem dX7_count_1 : decode cX7_count 1 = .ok (.tableswitch 178 0 13 #[71, 79, 87, 95, 110, 130, 130, 130, 130, 130, 130, 142, 150, 158], 71) := by decide +kernel
theorem dX7_count_72 : decode cX7_count 72 = .ok (.aload_n 0, 1) := by decide +kernel
theorem dX7_count_73 : decode cX7_count 73 = .ok (.getfield 19, 3) := by decide +kernel
theorem dX7_count_76 : decode cX7_count 76 = .ok (.getfield 108, 3) := by decide +kernel
theorem dX7_count_79 : decode cX7_count 79 = .ok (.ireturn, 1) := by decide +kernel
theorem dX7_count_80 : decode cX7_count 80 = .ok (.aload_n 0, 1) := by decide +kernel
theorem dX7_count_81 : decode cX7_count 81 = .ok (.getfield 19, 3) := by decide +kernel
theorem dX7_count_84 : decode cX7_count 84 = .ok (.invokevirtual 111, 3) := by decide +kernel
theorem dX7_count_87 : decode cX7_count 87 = .ok (.ireturn, 1) := by decide +kernel
theorem dX7_count_88 : decode cX7_count 88 = .ok (.aload_n 0, 1) := by decide +kernel
theorem dX7_count_89 : decode cX7_count 89 = .ok (.getfield 19, 3) := by decide +kernel
theorem dX7_count_92 : decode cX7_count 92 = .ok (.getfield 105, 3) := by decide +kernel
theorem dX7_count_95 : decode cX7_count 95 = .ok (.ireturn, 1) := by decide +kernel
theorem dX7_count_96 : decode cX7_count 96 = .ok (.aload_n 0, 1) := by decide +kernel
theorem dX7_count_97 : decode cX7_count 97 = .ok (.getfield 19, 3) := by decide +kernel
theorem dX7_count_100 : decode cX7_count 100 = .ok (.getfield 115, 3) := by decide +kernel
theorem dX7_count_103 : decode cX7_count 103 = .ok (.bipush 10, 2) := by decide +kernel
theorem dX7_count_105 : decode cX7_count 105 = .ok (.invokestatic 119, 3) := by decide +kernel
theorem dX7_count_108 : decode cX7_count 108 = .ok (.iconst 2, 1) := by decide +kernel
theorem dX7_count_109 : decode cX7_count 109 = .ok (.idiv, 1) := by decide +kernel
theorem dX7_count_110 : decode cX7_count 110 = .ok (.ireturn, 1) := by decide +kernel
theorem dX7_count_111 : decode cX7_count 111 = .ok (.aload_n 0, 1) := by decide +kernel
theorem dX7_count_112 : decode cX7_count 112 = .ok (.getfield 19, 3) := by decide +kernel
theorem dX7_count_115 : decode cX7_count 115 = .ok (.getfield 123, 3) := by decide +kernel
theorem dX7_count_118 : decode cX7_count 118 = .ok (.aload_n 0, 1) := by decide +kernel
theorem dX7_count_119 : decode cX7_count 119 = .ok (.getfield 19, 3) := by decide +kernel
theorem dX7_count_122 : decode cX7_count 122 = .ok (.getfield 105, 3) := by decide +kernel
theorem dX7_count_125 : decode cX7_count 125 = .ok (.invokestatic 119, 3) := by decide +kernel
theorem dX7_count_128 : decode cX7_count 128 = .ok (.iconst 2, 1) := by decide +kernel
theorem dX7_count_129 : decode cX7_count 129 = .ok (.idiv, 1) := by decide +kernel
theorem dX7_count_130 : decode cX7_count 130 = .ok (.ireturn, 1) := by decide +kernel
theorem dX7_count_131 : decode cX7_count 131 = .ok (.aload_n 0, 1) := by decide +kernel
theorem dX7_count_132 : decode cX7_count 132 = .ok (.getfield 19, 3) := by decide +kernel
theorem dX7_count_135 : decode cX7_count 135 = .ok (.getfield 126, 3) := by decide +kernel
theorem dX7_count_138 : decode cX7_count 138 = .ok (.iload_n 1, 1) := by decide +kernel
theorem dX7_count_139 : decode cX7_count 139 = .ok (.iconst 5, 1) := by decide +kernel
theorem dX7_count_140 : decode cX7_count 140 = .ok (.isub, 1) := by decide +kernel
theorem dX7_count_141 : decode cX7_count 141 = .ok (.iaload, 1) := by decide +kernel
theorem dX7_count_142 : decode cX7_count 142 = .ok (.ireturn, 1) := by decide +kernel
theorem dX7_count_143 : decode cX7_count 143 = .ok (.aload_n 0, 1) := by decide +kernel
theorem dX7_count_144 : decode cX7_count 144 = .ok (.getfield 35, 3) := by decide +kernel
theorem dX7_count_147 : decode cX7_count 147 = .ok (.getfield 129, 3) := by decide +kernel
theorem dX7_count_150 : decode cX7_count 150 = .ok (.ireturn, 1) := by decide +kernel
theorem dX7_count_151 : decode cX7_count 151 = .ok (.aload_n 0, 1) := by decide +kernel
theorem dX7_count_152 : decode cX7_count 152 = .ok (.getfield 10, 3) := by decide +kernel
theorem dX7_count_155 : decode cX7_count 155 = .ok (.getfield 81, 3) := by decide +kernel
theorem dX7_count_158 : decode cX7_count 158 = .ok (.ireturn, 1) := by decide +kernel
theorem dX7_count_159 : decode cX7_count 159 = .ok (.aload_n 0, 1) := by decide +kernel
theorem dX7_count_160 : decode cX7_count 160 = .ok (.invokevirtual 130, 3) := by decide +kernel
theorem dX7_count_163 : decode cX7_count 163 = .ok (.getfield 134, 3) := by decide +kernel
theorem dX7_count_166 : decode cX7_count 166 = .ok (.aload_n 0, 1) := by decide +kernel
theorem dX7_count_167 : decode cX7_count 167 = .ok (.getfield 19, 3) := by decide +kernel
theorem dX7_count_170 : decode cX7_count 170 = .ok (.getfield 105, 3) := by decide +kernel
theorem dX7_count_173 : decode cX7_count 173 = .ok (.invokestatic 119, 3) := by decide +kernel
theorem dX7_count_176 : decode cX7_count 176 = .ok (.iconst 2, 1) := by decide +kernel
theorem dX7_count_177 : decode cX7_count 177 = .ok (.idiv, 1) := by decide +kernel
theorem dX7_count_178 : decode cX7_count 178 = .ok (.ireturn, 1) := by decide +kernel
theorem dX7_count_179 : decode cX7_count 179 = .ok (.new 137, 3) := by decide +kernel
theorem dX7_count_182 : decode cX7_count 182 = .ok (.dup, 1) := by decide +kernel
theorem dX7_count_183 : decode cX7_count 183 = .ok (.ldc 139, 2) := by decide +kernel
theorem dX7_count_185 : decode cX7_count 185 = .ok (.invokespecial 141, 3) := by decide +kernel
theorem dX7_count_188 : decode cX7_count 188 = .ok (.athrow, 1) := by decide +kernel
theorem dX7_mark_0 : decode cX7_mark 0 = .ok (.aload_n 0, 1) := by decide +kernel
theorem dX7_mark_1 : decode cX7_mark 1 = .ok (.iload_n 1, 1) := by decide +kernel
theorem dX7_mark_2 : decode cX7_mark 2 = .ok (.invokevirtual 144, 3) := by decide +kernel
theorem dX7_mark_5 : decode cX7_mark 5 = .ok (.iload_n 2, 1) := by decide +kernel
theorem dX7_mark_6 : decode cX7_mark 6 = .ok (.tableswitch 114 0 6 #[42, 52, 62, 72, 82, 92, 101], 42) := by decide +kernel
theorem dX7_mark_48 : decode cX7_mark 48 = .ok (.aload_n 0, 1) := by decide +kernel
theorem dX7_mark_49 : decode cX7_mark 49 = .ok (.getfield 19, 3) := by decide +kernel
theorem dX7_mark_52 : decode cX7_mark 52 = .ok (.getfield 147, 3) := by decide +kernel
theorem dX7_mark_55 : decode cX7_mark 55 = .ok (.iload_n 1, 1) := by decide +kernel
theorem dX7_mark_56 : decode cX7_mark 56 = .ok (.iaload, 1) := by decide +kernel
theorem dX7_mark_57 : decode cX7_mark 57 = .ok (.ireturn, 1) := by decide +kernel
theorem dX7_mark_58 : decode cX7_mark 58 = .ok (.aload_n 0, 1) := by decide +kernel
theorem dX7_mark_59 : decode cX7_mark 59 = .ok (.getfield 19, 3) := by decide +kernel
theorem dX7_mark_62 : decode cX7_mark 62 = .ok (.getfield 150, 3) := by decide +kernel
theorem dX7_mark_65 : decode cX7_mark 65 = .ok (.iload_n 1, 1) := by decide +kernel
theorem dX7_mark_66 : decode cX7_mark 66 = .ok (.iaload, 1) := by decide +kernel
theorem dX7_mark_67 : decode cX7_mark 67 = .ok (.ireturn, 1) := by decide +kernel
theorem dX7_mark_68 : decode cX7_mark 68 = .ok (.aload_n 0, 1) := by decide +kernel
theorem dX7_mark_69 : decode cX7_mark 69 = .ok (.getfield 19, 3) := by decide +kernel
theorem dX7_mark_72 : decode cX7_mark 72 = .ok (.getfield 153, 3) := by decide +kernel
theorem dX7_mark_75 : decode cX7_mark 75 = .ok (.iload_n 1, 1) := by decide +kernel
theorem dX7_mark_76 : decode cX7_mark 76 = .ok (.iaload, 1) := by decide +kernel
theorem dX7_mark_77 : decode cX7_mark 77 = .ok (.ireturn, 1) := by decide +kernel
theorem dX7_mark_78 : decode cX7_mark 78 = .ok (.aload_n 0, 1) := by decide +kernel
theorem dX7_mark_79 : decode cX7_mark 79 = .ok (.getfield 19, 3) := by decide +kernel
theorem dX7_mark_82 : decode cX7_mark 82 = .ok (.getfield 156, 3) := by decide +kernel
theorem dX7_mark_85 : decode cX7_mark 85 = .ok (.iload_n 1, 1) := by decide +kernel
theorem dX7_mark_86 : decode cX7_mark 86 = .ok (.iaload, 1) := by decide +kernel
theorem dX7_mark_87 : decode cX7_mark 87 = .ok (.ireturn, 1) := by decide +kernel
theorem dX7_mark_88 : decode cX7_mark 88 = .ok (.aload_n 0, 1) := by decide +kernel
theorem dX7_mark_89 : decode cX7_mark 89 = .ok (.invokevirtual 130, 3) := by decide +kernel
theorem dX7_mark_92 : decode cX7_mark 92 = .ok (.getfield 159, 3) := by decide +kernel
theorem dX7_mark_95 : decode cX7_mark 95 = .ok (.iload_n 1, 1) := by decide +kernel
theorem dX7_mark_96 : decode cX7_mark 96 = .ok (.iaload, 1) := by decide +kernel
theorem dX7_mark_97 : decode cX7_mark 97 = .ok (.ireturn, 1) := by decide +kernel
theorem dX7_mark_98 : decode cX7_mark 98 = .ok (.aload_n 0, 1) := by decide +kernel
theorem dX7_mark_99 : decode cX7_mark 99 = .ok (.invokevirtual 130, 3) := by decide +kernel
theorem dX7_mark_102 : decode cX7_mark 102 = .ok (.iload_n 1, 1) := by decide +kernel
theorem dX7_mark_103 : decode cX7_mark 103 = .ok (.invokevirtual 162, 3) := by decide +kernel
theorem dX7_mark_106 : decode cX7_mark 106 = .ok (.ireturn, 1) := by decide +kernel
theorem dX7_mark_107 : decode cX7_mark 107 = .ok (.aload_n 0, 1) := by decide +kernel
theorem dX7_mark_108 : decode cX7_mark 108 = .ok (.invokevirtual 130, 3) := by decide +kernel
theorem dX7_mark_111 : decode cX7_mark 111 = .ok (.aload_n 0, 1) := by decide +kernel
theorem dX7_mark_112 : decode cX7_mark 112 = .ok (.getfield 19, 3) := by decide +kernel
theorem dX7_mark_115 : decode cX7_mark 115 = .ok (.iload_n 1, 1) := by decide +kernel
theorem dX7_mark_116 : decode cX7_mark 116 = .ok (.invokevirtual 165, 3) := by decide +kernel
theorem dX7_mark_119 : decode cX7_mark 119 = .ok (.ireturn, 1) := by decide +kernel
theorem dX7_mark_120 : decode cX7_mark 120 = .ok (.new 137, 3) := by decide +kernel
theorem dX7_mark_123 : decode cX7_mark 123 = .ok (.dup, 1) := by decide +kernel
theorem dX7_mark_124 : decode cX7_mark 124 = .ok (.ldc 169, 2) := by decide +kernel
theorem dX7_mark_126 : decode cX7_mark 126 = .ok (.invokespecial 141, 3) := by decide +kernel
theorem dX7_mark_129 : decode cX7_mark 129 = .ok (.athrow, 1) := by decide +kernel
theorem dX7_letter_0 : decode cX7_letter 0 = .ok (.aload_n 0, 1) := by decide +kernel
theorem dX7_letter_1 : decode cX7_letter 1 = .ok (.iload_n 1, 1) := by decide +kernel
theorem dX7_letter_2 : decode cX7_letter 2 = .ok (.invokevirtual 144, 3) := by decide +kernel
theorem dX7_letter_5 : decode cX7_letter 5 = .ok (.iload_n 2, 1) := by decide +kernel
theorem dX7_letter_6 : decode cX7_letter 6 = .ok (.ifCond .ge 13, 3) := by decide +kernel
theorem dX7_letter_9 : decode cX7_letter 9 = .ok (.new 137, 3) := by decide +kernel
theorem dX7_letter_12 : decode cX7_letter 12 = .ok (.dup, 1) := by decide +kernel
theorem dX7_letter_13 : decode cX7_letter 13 = .ok (.ldc 171, 2) := by decide +kernel
theorem dX7_letter_15 : decode cX7_letter 15 = .ok (.invokespecial 141, 3) := by decide +kernel
theorem dX7_letter_18 : decode cX7_letter 18 = .ok (.athrow, 1) := by decide +kernel
theorem dX7_letter_19 : decode cX7_letter 19 = .ok (.iload_n 3, 1) := by decide +kernel
theorem dX7_letter_20 : decode cX7_letter 20 = .ok (.ifCond .eq 37, 3) := by decide +kernel
theorem dX7_letter_23 : decode cX7_letter 23 = .ok (.aload_n 0, 1) := by decide +kernel
theorem dX7_letter_24 : decode cX7_letter 24 = .ok (.invokevirtual 130, 3) := by decide +kernel
theorem dX7_letter_27 : decode cX7_letter 27 = .ok (.astore 4, 2) := by decide +kernel
theorem dX7_letter_29 : decode cX7_letter 29 = .ok (.iload_n 2, 1) := by decide +kernel
theorem dX7_letter_30 : decode cX7_letter 30 = .ok (.aload 4, 2) := by decide +kernel
theorem dX7_letter_32 : decode cX7_letter 32 = .ok (.getfield 159, 3) := by decide +kernel
theorem dX7_letter_35 : decode cX7_letter 35 = .ok (.iload_n 1, 1) := by decide +kernel
theorem dX7_letter_36 : decode cX7_letter 36 = .ok (.iaload, 1) := by decide +kernel
theorem dX7_letter_37 : decode cX7_letter 37 = .ok (.if_icmp .ge 18, 3) := by decide +kernel
theorem dX7_letter_40 : decode cX7_letter 40 = .ok (.aload 4, 2) := by decide +kernel
theorem dX7_letter_42 : decode cX7_letter 42 = .ok (.getfield 173, 3) := by decide +kernel
theorem dX7_letter_45 : decode cX7_letter 45 = .ok (.iload_n 1, 1) := by decide +kernel
theorem dX7_letter_46 : decode cX7_letter 46 = .ok (.bipush 20, 2) := by decide +kernel
theorem dX7_letter_48 : decode cX7_letter 48 = .ok (.imul, 1) := by decide +kernel
theorem dX7_letter_49 : decode cX7_letter 49 = .ok (.iload_n 2, 1) := by decide +kernel
theorem dX7_letter_50 : decode cX7_letter 50 = .ok (.iadd, 1) := by decide +kernel
theorem dX7_letter_51 : decode cX7_letter 51 = .ok (.baload, 1) := by decide +kernel
theorem dX7_letter_52 : decode cX7_letter 52 = .ok (.goto 4, 3) := by decide +kernel
theorem dX7_letter_55 : decode cX7_letter 55 = .ok (.iconst (-1), 1) := by decide +kernel
theorem dX7_letter_56 : decode cX7_letter 56 = .ok (.ireturn, 1) := by decide +kernel
theorem dX7_letter_57 : decode cX7_letter 57 = .ok (.iload_n 2, 1) := by decide +kernel
theorem dX7_letter_58 : decode cX7_letter 58 = .ok (.aload_n 0, 1) := by decide +kernel
theorem dX7_letter_59 : decode cX7_letter 59 = .ok (.getfield 19, 3) := by decide +kernel
theorem dX7_letter_62 : decode cX7_letter 62 = .ok (.getfield 156, 3) := by decide +kernel
theorem dX7_letter_65 : decode cX7_letter 65 = .ok (.iload_n 1, 1) := by decide +kernel
theorem dX7_letter_66 : decode cX7_letter 66 = .ok (.iaload, 1) := by decide +kernel
theorem dX7_letter_67 : decode cX7_letter 67 = .ok (.if_icmp .ge 22, 3) := by decide +kernel
theorem dX7_letter_70 : decode cX7_letter 70 = .ok (.aload_n 0, 1) := by decide +kernel
theorem dX7_letter_71 : decode cX7_letter 71 = .ok (.getfield 19, 3) := by decide +kernel
theorem dX7_letter_74 : decode cX7_letter 74 = .ok (.getfield 177, 3) := by decide +kernel
theorem dX7_letter_77 : decode cX7_letter 77 = .ok (.iload_n 1, 1) := by decide +kernel
theorem dX7_letter_78 : decode cX7_letter 78 = .ok (.bipush 10, 2) := by decide +kernel
theorem dX7_letter_80 : decode cX7_letter 80 = .ok (.imul, 1) := by decide +kernel
theorem dX7_letter_81 : decode cX7_letter 81 = .ok (.iload_n 2, 1) := by decide +kernel
theorem dX7_letter_82 : decode cX7_letter 82 = .ok (.iadd, 1) := by decide +kernel
theorem dX7_letter_83 : decode cX7_letter 83 = .ok (.baload, 1) := by decide +kernel
theorem dX7_letter_84 : decode cX7_letter 84 = .ok (.iconst 1, 1) := by decide +kernel
theorem dX7_letter_85 : decode cX7_letter 85 = .ok (.iadd, 1) := by decide +kernel
theorem dX7_letter_86 : decode cX7_letter 86 = .ok (.goto 4, 3) := by decide +kernel
theorem dX7_letter_89 : decode cX7_letter 89 = .ok (.iconst (-1), 1) := by decide +kernel
theorem dX7_letter_90 : decode cX7_letter 90 = .ok (.ireturn, 1) := by decide +kernel
theorem dX7_used_0 : decode cX7_used 0 = .ok (.aload_n 0, 1) := by decide +kernel
theorem dX7_used_1 : decode cX7_used 1 = .ok (.iload_n 1, 1) := by decide +kernel
theorem dX7_used_2 : decode cX7_used 2 = .ok (.invokevirtual 144, 3) := by decide +kernel
theorem dX7_used_5 : decode cX7_used 5 = .ok (.iload_n 2, 1) := by decide +kernel
theorem dX7_used_6 : decode cX7_used 6 = .ok (.ifCond .lt 16, 3) := by decide +kernel
theorem dX7_used_9 : decode cX7_used 9 = .ok (.iload_n 2, 1) := by decide +kernel
theorem dX7_used_10 : decode cX7_used 10 = .ok (.aload_n 0, 1) := by decide +kernel
theorem dX7_used_11 : decode cX7_used 11 = .ok (.getfield 19, 3) := by decide +kernel
theorem dX7_used_14 : decode cX7_used 14 = .ok (.getfield 153, 3) := by decide +kernel
theorem dX7_used_17 : decode cX7_used 17 = .ok (.iload_n 1, 1) := by decide +kernel
theorem dX7_used_18 : decode cX7_used 18 = .ok (.iaload, 1) := by decide +kernel
theorem dX7_used_19 : decode cX7_used 19 = .ok (.if_icmp .lt 13, 3) := by decide +kernel
theorem dX7_used_22 : decode cX7_used 22 = .ok (.new 137, 3) := by decide +kernel
theorem dX7_used_25 : decode cX7_used 25 = .ok (.dup, 1) := by decide +kernel
theorem dX7_used_26 : decode cX7_used 26 = .ok (.ldc 180, 2) := by decide +kernel
theorem dX7_used_28 : decode cX7_used 28 = .ok (.invokespecial 141, 3) := by decide +kernel
theorem dX7_used_31 : decode cX7_used 31 = .ok (.athrow, 1) := by decide +kernel
theorem dX7_used_32 : decode cX7_used 32 = .ok (.iload_n 3, 1) := by decide +kernel
theorem dX7_used_33 : decode cX7_used 33 = .ok (.iconst 2, 1) := by decide +kernel
theorem dX7_used_34 : decode cX7_used 34 = .ok (.invokestatic 182, 3) := by decide +kernel
theorem dX7_used_37 : decode cX7_used 37 = .ok (.aload_n 0, 1) := by decide +kernel
theorem dX7_used_38 : decode cX7_used 38 = .ok (.getfield 19, 3) := by decide +kernel
theorem dX7_used_41 : decode cX7_used 41 = .ok (.getfield 186, 3) := by decide +kernel
theorem dX7_used_44 : decode cX7_used 44 = .ok (.aload_n 0, 1) := by decide +kernel
theorem dX7_used_45 : decode cX7_used 45 = .ok (.getfield 19, 3) := by decide +kernel
theorem dX7_used_48 : decode cX7_used 48 = .ok (.iload_n 1, 1) := by decide +kernel
theorem dX7_used_49 : decode cX7_used 49 = .ok (.iload_n 2, 1) := by decide +kernel
theorem dX7_used_50 : decode cX7_used 50 = .ok (.invokevirtual 189, 3) := by decide +kernel
theorem dX7_used_53 : decode cX7_used 53 = .ok (.iload_n 3, 1) := by decide +kernel
theorem dX7_used_54 : decode cX7_used 54 = .ok (.iadd, 1) := by decide +kernel
theorem dX7_used_55 : decode cX7_used 55 = .ok (.iaload, 1) := by decide +kernel
theorem dX7_used_56 : decode cX7_used 56 = .ok (.ireturn, 1) := by decide +kernel
theorem dX7_two_0 : decode cX7_two 0 = .ok (.aload_n 0, 1) := by decide +kernel
theorem dX7_two_1 : decode cX7_two 1 = .ok (.iload_n 1, 1) := by decide +kernel
theorem dX7_two_2 : decode cX7_two 2 = .ok (.iload_n 2, 1) := by decide +kernel
theorem dX7_two_3 : decode cX7_two 3 = .ok (.invokevirtual 193, 3) := by decide +kernel
theorem dX7_two_6 : decode cX7_two 6 = .ok (.iload_n 3, 1) := by decide +kernel
theorem dX7_two_7 : decode cX7_two 7 = .ok (.bipush 6, 2) := by decide +kernel
theorem dX7_two_9 : decode cX7_two 9 = .ok (.invokestatic 182, 3) := by decide +kernel
theorem dX7_two_12 : decode cX7_two 12 = .ok (.aload_n 0, 1) := by decide +kernel
theorem dX7_two_13 : decode cX7_two 13 = .ok (.invokevirtual 130, 3) := by decide +kernel
theorem dX7_two_16 : decode cX7_two 16 = .ok (.astore 4, 2) := by decide +kernel
theorem dX7_two_18 : decode cX7_two 18 = .ok (.iload_n 3, 1) := by decide +kernel
theorem dX7_two_19 : decode cX7_two 19 = .ok (.tableswitch 117 0 5 #[37, 49, 61, 73, 85, 105], 37) := by decide +kernel
theorem dX7_two_56 : decode cX7_two 56 = .ok (.aload 4, 2) := by decide +kernel
theorem dX7_two_58 : decode cX7_two 58 = .ok (.getfield 196, 3) := by decide +kernel
theorem dX7_two_61 : decode cX7_two 61 = .ok (.iload_n 1, 1) := by decide +kernel
theorem dX7_two_62 : decode cX7_two 62 = .ok (.iload_n 2, 1) := by decide +kernel
theorem dX7_two_63 : decode cX7_two 63 = .ok (.invokestatic 199, 3) := by decide +kernel
theorem dX7_two_66 : decode cX7_two 66 = .ok (.iaload, 1) := by decide +kernel
theorem dX7_two_67 : decode cX7_two 67 = .ok (.ireturn, 1) := by decide +kernel
theorem dX7_two_68 : decode cX7_two 68 = .ok (.aload 4, 2) := by decide +kernel
theorem dX7_two_70 : decode cX7_two 70 = .ok (.getfield 202, 3) := by decide +kernel
theorem dX7_two_73 : decode cX7_two 73 = .ok (.iload_n 1, 1) := by decide +kernel
theorem dX7_two_74 : decode cX7_two 74 = .ok (.iload_n 2, 1) := by decide +kernel
theorem dX7_two_75 : decode cX7_two 75 = .ok (.invokestatic 199, 3) := by decide +kernel
theorem dX7_two_78 : decode cX7_two 78 = .ok (.iaload, 1) := by decide +kernel
theorem dX7_two_79 : decode cX7_two 79 = .ok (.ireturn, 1) := by decide +kernel
theorem dX7_two_80 : decode cX7_two 80 = .ok (.aload 4, 2) := by decide +kernel
theorem dX7_two_82 : decode cX7_two 82 = .ok (.aload_n 0, 1) := by decide +kernel
theorem dX7_two_83 : decode cX7_two 83 = .ok (.getfield 19, 3) := by decide +kernel
theorem dX7_two_86 : decode cX7_two 86 = .ok (.iload_n 1, 1) := by decide +kernel
theorem dX7_two_87 : decode cX7_two 87 = .ok (.iload_n 2, 1) := by decide +kernel
theorem dX7_two_88 : decode cX7_two 88 = .ok (.invokevirtual 205, 3) := by decide +kernel
theorem dX7_two_91 : decode cX7_two 91 = .ok (.ireturn, 1) := by decide +kernel
theorem dX7_two_92 : decode cX7_two 92 = .ok (.aload 4, 2) := by decide +kernel
theorem dX7_two_94 : decode cX7_two 94 = .ok (.getfield 209, 3) := by decide +kernel
theorem dX7_two_97 : decode cX7_two 97 = .ok (.iload_n 1, 1) := by decide +kernel
theorem dX7_two_98 : decode cX7_two 98 = .ok (.iload_n 2, 1) := by decide +kernel
theorem dX7_two_99 : decode cX7_two 99 = .ok (.invokestatic 199, 3) := by decide +kernel
theorem dX7_two_102 : decode cX7_two 102 = .ok (.iaload, 1) := by decide +kernel
theorem dX7_two_103 : decode cX7_two 103 = .ok (.ireturn, 1) := by decide +kernel
theorem dX7_two_104 : decode cX7_two 104 = .ok (.aload 4, 2) := by decide +kernel
theorem dX7_two_106 : decode cX7_two 106 = .ok (.aload_n 0, 1) := by decide +kernel
theorem dX7_two_107 : decode cX7_two 107 = .ok (.getfield 19, 3) := by decide +kernel
theorem dX7_two_110 : decode cX7_two 110 = .ok (.iload_n 1, 1) := by decide +kernel
theorem dX7_two_111 : decode cX7_two 111 = .ok (.iload_n 2, 1) := by decide +kernel
theorem dX7_two_112 : decode cX7_two 112 = .ok (.invokevirtual 212, 3) := by decide +kernel
theorem dX7_two_115 : decode cX7_two 115 = .ok (.ifCond .eq 7, 3) := by decide +kernel
theorem dX7_two_118 : decode cX7_two 118 = .ok (.iconst 1, 1) := by decide +kernel
theorem dX7_two_119 : decode cX7_two 119 = .ok (.goto 4, 3) := by decide +kernel
theorem dX7_two_122 : decode cX7_two 122 = .ok (.iconst 0, 1) := by decide +kernel
theorem dX7_two_123 : decode cX7_two 123 = .ok (.ireturn, 1) := by decide +kernel
theorem dX7_two_124 : decode cX7_two 124 = .ok (.aload 4, 2) := by decide +kernel
theorem dX7_two_126 : decode cX7_two 126 = .ok (.getfield 134, 3) := by decide +kernel
theorem dX7_two_129 : decode cX7_two 129 = .ok (.iload_n 1, 1) := by decide +kernel
theorem dX7_two_130 : decode cX7_two 130 = .ok (.iaload, 1) := by decide +kernel
theorem dX7_two_131 : decode cX7_two 131 = .ok (.iload_n 2, 1) := by decide +kernel
theorem dX7_two_132 : decode cX7_two 132 = .ok (.ishr, 1) := by decide +kernel
theorem dX7_two_133 : decode cX7_two 133 = .ok (.iconst 1, 1) := by decide +kernel
theorem dX7_two_134 : decode cX7_two 134 = .ok (.iand, 1) := by decide +kernel
theorem dX7_two_135 : decode cX7_two 135 = .ok (.ireturn, 1) := by decide +kernel
theorem dX7_two_136 : decode cX7_two 136 = .ok (.aload_n 0, 1) := by decide +kernel
theorem dX7_two_137 : decode cX7_two 137 = .ok (.getfield 19, 3) := by decide +kernel
theorem dX7_two_140 : decode cX7_two 140 = .ok (.getfield 123, 3) := by decide +kernel
theorem dX7_two_143 : decode cX7_two 143 = .ok (.iload_n 1, 1) := by decide +kernel
theorem dX7_two_144 : decode cX7_two 144 = .ok (.iaload, 1) := by decide +kernel
theorem dX7_two_145 : decode cX7_two 145 = .ok (.iload_n 2, 1) := by decide +kernel
theorem dX7_two_146 : decode cX7_two 146 = .ok (.ishr, 1) := by decide +kernel
theorem dX7_two_147 : decode cX7_two 147 = .ok (.iconst 1, 1) := by decide +kernel
theorem dX7_two_148 : decode cX7_two 148 = .ok (.iand, 1) := by decide +kernel
theorem dX7_two_149 : decode cX7_two 149 = .ok (.ireturn, 1) := by decide +kernel
theorem dX7_steps_0 : decode cX7_steps 0 = .ok (.iload_n 1, 1) := by decide +kernel
theorem dX7_steps_1 : decode cX7_steps 1 = .ok (.invokestatic 216, 3) := by decide +kernel
theorem dX7_steps_4 : decode cX7_steps 4 = .ok (.ifCond .eq 10, 3) := by decide +kernel
theorem dX7_steps_7 : decode cX7_steps 7 = .ok (.iload_n 2, 1) := by decide +kernel
theorem dX7_steps_8 : decode cX7_steps 8 = .ok (.invokestatic 216, 3) := by decide +kernel
theorem dX7_steps_11 : decode cX7_steps 11 = .ok (.ifCond .ne 13, 3) := by decide +kernel
theorem dX7_steps_14 : decode cX7_steps 14 = .ok (.new 137, 3) := by decide +kernel
theorem dX7_steps_17 : decode cX7_steps 17 = .ok (.dup, 1) := by decide +kernel
theorem dX7_steps_18 : decode cX7_steps 18 = .ok (.ldc 220, 2) := by decide +kernel
theorem dX7_steps_20 : decode cX7_steps 20 = .ok (.invokespecial 141, 3) := by decide +kernel
theorem dX7_steps_23 : decode cX7_steps 23 = .ok (.athrow, 1) := by decide +kernel
theorem dX7_steps_24 : decode cX7_steps 24 = .ok (.aload_n 0, 1) := by decide +kernel
theorem dX7_steps_25 : decode cX7_steps 25 = .ok (.getfield 19, 3) := by decide +kernel
theorem dX7_steps_28 : decode cX7_steps 28 = .ok (.iconst 1, 1) := by decide +kernel
theorem dX7_steps_29 : decode cX7_steps 29 = .ok (.iload_n 1, 1) := by decide +kernel
theorem dX7_steps_30 : decode cX7_steps 30 = .ok (.ishl, 1) := by decide +kernel
theorem dX7_steps_31 : decode cX7_steps 31 = .ok (.iconst 1, 1) := by decide +kernel
theorem dX7_steps_32 : decode cX7_steps 32 = .ok (.iload_n 2, 1) := by decide +kernel
theorem dX7_steps_33 : decode cX7_steps 33 = .ok (.ishl, 1) := by decide +kernel
theorem dX7_steps_34 : decode cX7_steps 34 = .ok (.invokevirtual 222, 3) := by decide +kernel
theorem dX7_steps_37 : decode cX7_steps 37 = .ok (.ireturn, 1) := by decide +kernel
theorem dX7_here_0 : decode cX7_here 0 = .ok (.aload_n 0, 1) := by decide +kernel
theorem dX7_here_1 : decode cX7_here 1 = .ok (.iload_n 1, 1) := by decide +kernel
theorem dX7_here_2 : decode cX7_here 2 = .ok (.invokevirtual 144, 3) := by decide +kernel
theorem dX7_here_5 : decode cX7_here 5 = .ok (.aload_n 0, 1) := by decide +kernel
theorem dX7_here_6 : decode cX7_here 6 = .ok (.iload_n 2, 1) := by decide +kernel
theorem dX7_here_7 : decode cX7_here 7 = .ok (.invokevirtual 225, 3) := by decide +kernel
theorem dX7_here_10 : decode cX7_here 10 = .ok (.iload 4, 2) := by decide +kernel
theorem dX7_here_12 : decode cX7_here 12 = .ok (.iconst 3, 1) := by decide +kernel
theorem dX7_here_13 : decode cX7_here 13 = .ok (.invokestatic 182, 3) := by decide +kernel
theorem dX7_here_16 : decode cX7_here 16 = .ok (.iload_n 3, 1) := by decide +kernel
theorem dX7_here_17 : decode cX7_here 17 = .ok (.invokestatic 228, 3) := by decide +kernel
theorem dX7_here_20 : decode cX7_here 20 = .ok (.iload 4, 2) := by decide +kernel
theorem dX7_here_22 : decode cX7_here 22 = .ok (.ifCond .ne 14, 3) := by decide +kernel
theorem dX7_here_25 : decode cX7_here 25 = .ok (.aload_n 0, 1) := by decide +kernel
theorem dX7_here_26 : decode cX7_here 26 = .ok (.getfield 19, 3) := by decide +kernel
theorem dX7_here_29 : decode cX7_here 29 = .ok (.iload_n 1, 1) := by decide +kernel
theorem dX7_here_30 : decode cX7_here 30 = .ok (.iload_n 2, 1) := by decide +kernel
theorem dX7_here_31 : decode cX7_here 31 = .ok (.iload_n 3, 1) := by decide +kernel
theorem dX7_here_32 : decode cX7_here 32 = .ok (.invokevirtual 231, 3) := by decide +kernel
theorem dX7_here_35 : decode cX7_here 35 = .ok (.ireturn, 1) := by decide +kernel
theorem dX7_here_36 : decode cX7_here 36 = .ok (.iload 4, 2) := by decide +kernel
theorem dX7_here_38 : decode cX7_here 38 = .ok (.iconst 1, 1) := by decide +kernel
theorem dX7_here_39 : decode cX7_here 39 = .ok (.if_icmp .ne 14, 3) := by decide +kernel
theorem dX7_here_42 : decode cX7_here 42 = .ok (.aload_n 0, 1) := by decide +kernel
theorem dX7_here_43 : decode cX7_here 43 = .ok (.getfield 19, 3) := by decide +kernel
theorem dX7_here_46 : decode cX7_here 46 = .ok (.iload_n 1, 1) := by decide +kernel
theorem dX7_here_47 : decode cX7_here 47 = .ok (.iload_n 2, 1) := by decide +kernel
theorem dX7_here_48 : decode cX7_here 48 = .ok (.iload_n 3, 1) := by decide +kernel
theorem dX7_here_49 : decode cX7_here 49 = .ok (.invokevirtual 235, 3) := by decide +kernel
theorem dX7_here_52 : decode cX7_here 52 = .ok (.ireturn, 1) := by decide +kernel
theorem dX7_here_53 : decode cX7_here 53 = .ok (.aload_n 0, 1) := by decide +kernel
theorem dX7_here_54 : decode cX7_here 54 = .ok (.invokevirtual 130, 3) := by decide +kernel
theorem dX7_here_57 : decode cX7_here 57 = .ok (.astore 5, 2) := by decide +kernel
theorem dX7_here_59 : decode cX7_here 59 = .ok (.aload_n 0, 1) := by decide +kernel
theorem dX7_here_60 : decode cX7_here 60 = .ok (.getfield 52, 3) := by decide +kernel
theorem dX7_here_63 : decode cX7_here 63 = .ok (.aload_n 0, 1) := by decide +kernel
theorem dX7_here_64 : decode cX7_here 64 = .ok (.getfield 19, 3) := by decide +kernel
theorem dX7_here_67 : decode cX7_here 67 = .ok (.iload_n 2, 1) := by decide +kernel
theorem dX7_here_68 : decode cX7_here 68 = .ok (.iload_n 3, 1) := by decide +kernel
theorem dX7_here_69 : decode cX7_here 69 = .ok (.aload 5, 2) := by decide +kernel
theorem dX7_here_71 : decode cX7_here 71 = .ok (.aload_n 0, 1) := by decide +kernel
theorem dX7_here_72 : decode cX7_here 72 = .ok (.getfield 19, 3) := by decide +kernel
theorem dX7_here_75 : decode cX7_here 75 = .ok (.iload_n 1, 1) := by decide +kernel
theorem dX7_here_76 : decode cX7_here 76 = .ok (.invokevirtual 238, 3) := by decide +kernel
theorem dX7_here_79 : decode cX7_here 79 = .ok (.invokevirtual 241, 3) := by decide +kernel
theorem dX7_here_82 : decode cX7_here 82 = .ok (.aload_n 0, 1) := by decide +kernel
theorem dX7_here_83 : decode cX7_here 83 = .ok (.getfield 52, 3) := by decide +kernel
theorem dX7_here_86 : decode cX7_here 86 = .ok (.aload_n 0, 1) := by decide +kernel
theorem dX7_here_87 : decode cX7_here 87 = .ok (.getfield 19, 3) := by decide +kernel
theorem dX7_here_90 : decode cX7_here 90 = .ok (.aload 5, 2) := by decide +kernel
theorem dX7_here_92 : decode cX7_here 92 = .ok (.iload_n 2, 1) := by decide +kernel
theorem dX7_here_93 : decode cX7_here 93 = .ok (.invokevirtual 245, 3) := by decide +kernel
theorem dX7_here_96 : decode cX7_here 96 = .ok (.iload 4, 2) := by decide +kernel
theorem dX7_here_98 : decode cX7_here 98 = .ok (.iconst 2, 1) := by decide +kernel
theorem dX7_here_99 : decode cX7_here 99 = .ok (.if_icmp .ne 15, 3) := by decide +kernel
theorem dX7_here_102 : decode cX7_here 102 = .ok (.aload_n 0, 1) := by decide +kernel
theorem dX7_here_103 : decode cX7_here 103 = .ok (.getfield 52, 3) := by decide +kernel
theorem dX7_here_106 : decode cX7_here 106 = .ok (.getfield 249, 3) := by decide +kernel
theorem dX7_here_109 : decode cX7_here 109 = .ok (.iload_n 1, 1) := by decide +kernel
theorem dX7_here_110 : decode cX7_here 110 = .ok (.iaload, 1) := by decide +kernel
theorem dX7_here_111 : decode cX7_here 111 = .ok (.goto 14, 3) := by decide +kernel
theorem dX7_here_114 : decode cX7_here 114 = .ok (.aload_n 0, 1) := by decide +kernel
theorem dX7_here_115 : decode cX7_here 115 = .ok (.getfield 52, 3) := by decide +kernel
theorem dX7_here_118 : decode cX7_here 118 = .ok (.getfield 252, 3) := by decide +kernel
theorem dX7_here_121 : decode cX7_here 121 = .ok (.iload_n 1, 1) := by decide +kernel
theorem dX7_here_122 : decode cX7_here 122 = .ok (.ishr, 1) := by decide +kernel
theorem dX7_here_123 : decode cX7_here 123 = .ok (.iconst 1, 1) := by decide +kernel
theorem dX7_here_124 : decode cX7_here 124 = .ok (.iand, 1) := by decide +kernel
theorem dX7_here_125 : decode cX7_here 125 = .ok (.ireturn, 1) := by decide +kernel
theorem dX7_halves_0 : decode cX7_halves 0 = .ok (.aload_n 0, 1) := by decide +kernel
theorem dX7_halves_1 : decode cX7_halves 1 = .ok (.iload_n 1, 1) := by decide +kernel
theorem dX7_halves_2 : decode cX7_halves 2 = .ok (.invokevirtual 144, 3) := by decide +kernel
theorem dX7_halves_5 : decode cX7_halves 5 = .ok (.iload_n 3, 1) := by decide +kernel
theorem dX7_halves_6 : decode cX7_halves 6 = .ok (.iconst 2, 1) := by decide +kernel
theorem dX7_halves_7 : decode cX7_halves 7 = .ok (.invokestatic 182, 3) := by decide +kernel
theorem dX7_halves_10 : decode cX7_halves 10 = .ok (.iload_n 2, 1) := by decide +kernel
theorem dX7_halves_11 : decode cX7_halves 11 = .ok (.invokestatic 228, 3) := by decide +kernel
theorem dX7_halves_14 : decode cX7_halves 14 = .ok (.aload_n 0, 1) := by decide +kernel
theorem dX7_halves_15 : decode cX7_halves 15 = .ok (.invokevirtual 130, 3) := by decide +kernel
theorem dX7_halves_18 : decode cX7_halves 18 = .ok (.astore 4, 2) := by decide +kernel
theorem dX7_halves_20 : decode cX7_halves 20 = .ok (.aload_n 0, 1) := by decide +kernel
theorem dX7_halves_21 : decode cX7_halves 21 = .ok (.getfield 52, 3) := by decide +kernel
theorem dX7_halves_24 : decode cX7_halves 24 = .ok (.aload_n 0, 1) := by decide +kernel
theorem dX7_halves_25 : decode cX7_halves 25 = .ok (.getfield 19, 3) := by decide +kernel
theorem dX7_halves_28 : decode cX7_halves 28 = .ok (.aload 4, 2) := by decide +kernel
theorem dX7_halves_30 : decode cX7_halves 30 = .ok (.iload_n 2, 1) := by decide +kernel
theorem dX7_halves_31 : decode cX7_halves 31 = .ok (.aload 4, 2) := by decide +kernel
theorem dX7_halves_33 : decode cX7_halves 33 = .ok (.aload_n 0, 1) := by decide +kernel
theorem dX7_halves_34 : decode cX7_halves 34 = .ok (.getfield 19, 3) := by decide +kernel
theorem dX7_halves_37 : decode cX7_halves 37 = .ok (.iload_n 1, 1) := by decide +kernel
theorem dX7_halves_38 : decode cX7_halves 38 = .ok (.invokevirtual 238, 3) := by decide +kernel
theorem dX7_halves_41 : decode cX7_halves 41 = .ok (.invokevirtual 255, 3) := by decide +kernel
theorem dX7_halves_44 : decode cX7_halves 44 = .ok (.iload_n 3, 1) := by decide +kernel
theorem dX7_halves_45 : decode cX7_halves 45 = .ok (.ifCond .ne 13, 3) := by decide +kernel
theorem dX7_halves_48 : decode cX7_halves 48 = .ok (.aload_n 0, 1) := by decide +kernel
theorem dX7_halves_49 : decode cX7_halves 49 = .ok (.getfield 52, 3) := by decide +kernel
theorem dX7_halves_52 : decode cX7_halves 52 = .ok (.getfield 259, 3) := by decide +kernel
theorem dX7_halves_55 : decode cX7_halves 55 = .ok (.iload_n 1, 1) := by decide +kernel
theorem dX7_halves_56 : decode cX7_halves 56 = .ok (.iaload, 1) := by decide +kernel
theorem dX7_halves_57 : decode cX7_halves 57 = .ok (.ireturn, 1) := by decide +kernel
theorem dX7_halves_58 : decode cX7_halves 58 = .ok (.iload_n 3, 1) := by decide +kernel
theorem dX7_halves_59 : decode cX7_halves 59 = .ok (.iconst 1, 1) := by decide +kernel
theorem dX7_halves_60 : decode cX7_halves 60 = .ok (.if_icmp .ne 15, 3) := by decide +kernel
theorem dX7_halves_63 : decode cX7_halves 63 = .ok (.aload_n 0, 1) := by decide +kernel
theorem dX7_halves_64 : decode cX7_halves 64 = .ok (.getfield 52, 3) := by decide +kernel
theorem dX7_halves_67 : decode cX7_halves 67 = .ok (.getfield 262, 3) := by decide +kernel
theorem dX7_halves_70 : decode cX7_halves 70 = .ok (.iload_n 1, 1) := by decide +kernel
theorem dX7_halves_71 : decode cX7_halves 71 = .ok (.iaload, 1) := by decide +kernel
theorem dX7_halves_72 : decode cX7_halves 72 = .ok (.goto 11, 3) := by decide +kernel
theorem dX7_halves_75 : decode cX7_halves 75 = .ok (.aload_n 0, 1) := by decide +kernel
theorem dX7_halves_76 : decode cX7_halves 76 = .ok (.getfield 52, 3) := by decide +kernel
theorem dX7_halves_79 : decode cX7_halves 79 = .ok (.iload_n 1, 1) := by decide +kernel
theorem dX7_halves_80 : decode cX7_halves 80 = .ok (.invokevirtual 265, 3) := by decide +kernel
theorem dX7_halves_83 : decode cX7_halves 83 = .ok (.ireturn, 1) := by decide +kernel
theorem dX7_holders_0 : decode cX7_holders 0 = .ok (.aload_n 0, 1) := by decide +kernel
theorem dX7_holders_1 : decode cX7_holders 1 = .ok (.iload_n 1, 1) := by decide +kernel
theorem dX7_holders_2 : decode cX7_holders 2 = .ok (.invokevirtual 225, 3) := by decide +kernel
theorem dX7_holders_5 : decode cX7_holders 5 = .ok (.iload_n 2, 1) := by decide +kernel
theorem dX7_holders_6 : decode cX7_holders 6 = .ok (.invokestatic 228, 3) := by decide +kernel
theorem dX7_holders_9 : decode cX7_holders 9 = .ok (.aload_n 0, 1) := by decide +kernel
theorem dX7_holders_10 : decode cX7_holders 10 = .ok (.getfield 52, 3) := by decide +kernel
theorem dX7_holders_13 : decode cX7_holders 13 = .ok (.aload_n 0, 1) := by decide +kernel
theorem dX7_holders_14 : decode cX7_holders 14 = .ok (.getfield 19, 3) := by decide +kernel
theorem dX7_holders_17 : decode cX7_holders 17 = .ok (.iload_n 1, 1) := by decide +kernel
theorem dX7_holders_18 : decode cX7_holders 18 = .ok (.iload_n 2, 1) := by decide +kernel
theorem dX7_holders_19 : decode cX7_holders 19 = .ok (.aload_n 0, 1) := by decide +kernel
theorem dX7_holders_20 : decode cX7_holders 20 = .ok (.getfield 19, 3) := by decide +kernel
theorem dX7_holders_23 : decode cX7_holders 23 = .ok (.invokevirtual 268, 3) := by decide +kernel
theorem dX7_holders_26 : decode cX7_holders 26 = .ok (.invokevirtual 241, 3) := by decide +kernel
theorem dX7_holders_29 : decode cX7_holders 29 = .ok (.aload_n 0, 1) := by decide +kernel
theorem dX7_holders_30 : decode cX7_holders 30 = .ok (.getfield 52, 3) := by decide +kernel
theorem dX7_holders_33 : decode cX7_holders 33 = .ok (.aload_n 0, 1) := by decide +kernel
theorem dX7_holders_34 : decode cX7_holders 34 = .ok (.getfield 19, 3) := by decide +kernel
theorem dX7_holders_37 : decode cX7_holders 37 = .ok (.aload_n 0, 1) := by decide +kernel
theorem dX7_holders_38 : decode cX7_holders 38 = .ok (.invokevirtual 130, 3) := by decide +kernel
theorem dX7_holders_41 : decode cX7_holders 41 = .ok (.iload_n 1, 1) := by decide +kernel
theorem dX7_holders_42 : decode cX7_holders 42 = .ok (.invokevirtual 245, 3) := by decide +kernel
theorem dX7_holders_45 : decode cX7_holders 45 = .ok (.aload_n 0, 1) := by decide +kernel
theorem dX7_holders_46 : decode cX7_holders 46 = .ok (.getfield 52, 3) := by decide +kernel
theorem dX7_holders_49 : decode cX7_holders 49 = .ok (.getfield 252, 3) := by decide +kernel
theorem dX7_holders_52 : decode cX7_holders 52 = .ok (.ireturn, 1) := by decide +kernel
theorem dX7_shared_0 : decode cX7_shared 0 = .ok (.iload_n 1, 1) := by decide +kernel
theorem dX7_shared_1 : decode cX7_shared 1 = .ok (.invokestatic 228, 3) := by decide +kernel
theorem dX7_shared_4 : decode cX7_shared 4 = .ok (.aload_n 0, 1) := by decide +kernel
theorem dX7_shared_5 : decode cX7_shared 5 = .ok (.invokevirtual 130, 3) := by decide +kernel
theorem dX7_shared_8 : decode cX7_shared 8 = .ok (.astore_n 2, 1) := by decide +kernel
theorem dX7_shared_9 : decode cX7_shared 9 = .ok (.aload_n 0, 1) := by decide +kernel
theorem dX7_shared_10 : decode cX7_shared 10 = .ok (.getfield 52, 3) := by decide +kernel
theorem dX7_shared_13 : decode cX7_shared 13 = .ok (.aload_n 0, 1) := by decide +kernel
theorem dX7_shared_14 : decode cX7_shared 14 = .ok (.getfield 19, 3) := by decide +kernel
theorem dX7_shared_17 : decode cX7_shared 17 = .ok (.aload_n 2, 1) := by decide +kernel
theorem dX7_shared_18 : decode cX7_shared 18 = .ok (.iload_n 1, 1) := by decide +kernel
theorem dX7_shared_19 : decode cX7_shared 19 = .ok (.aload_n 0, 1) := by decide +kernel
theorem dX7_shared_20 : decode cX7_shared 20 = .ok (.getfield 19, 3) := by decide +kernel
theorem dX7_shared_23 : decode cX7_shared 23 = .ok (.invokevirtual 268, 3) := by decide +kernel
theorem dX7_shared_26 : decode cX7_shared 26 = .ok (.invokevirtual 255, 3) := by decide +kernel
theorem dX7_shared_29 : decode cX7_shared 29 = .ok (.iconst 0, 1) := by decide +kernel
theorem dX7_shared_30 : decode cX7_shared 30 = .ok (.istore_n 3, 1) := by decide +kernel
theorem dX7_shared_31 : decode cX7_shared 31 = .ok (.iconst 0, 1) := by decide +kernel
theorem dX7_shared_32 : decode cX7_shared 32 = .ok (.istore 4, 2) := by decide +kernel
theorem dX7_shared_34 : decode cX7_shared 34 = .ok (.iload 4, 2) := by decide +kernel
theorem dX7_shared_36 : decode cX7_shared 36 = .ok (.aload_n 0, 1) := by decide +kernel
theorem dX7_shared_37 : decode cX7_shared 37 = .ok (.getfield 19, 3) := by decide +kernel
theorem dX7_shared_40 : decode cX7_shared 40 = .ok (.getfield 108, 3) := by decide +kernel
theorem dX7_shared_43 : decode cX7_shared 43 = .ok (.if_icmp .ge 26, 3) := by decide +kernel
theorem dX7_shared_46 : decode cX7_shared 46 = .ok (.aload_n 0, 1) := by decide +kernel
theorem dX7_shared_47 : decode cX7_shared 47 = .ok (.aload_n 2, 1) := by decide +kernel
theorem dX7_shared_48 : decode cX7_shared 48 = .ok (.iload 4, 2) := by decide +kernel
theorem dX7_shared_50 : decode cX7_shared 50 = .ok (.invokevirtual 271, 3) := by decide +kernel
theorem dX7_shared_53 : decode cX7_shared 53 = .ok (.ifCond .eq 10, 3) := by decide +kernel
theorem dX7_shared_56 : decode cX7_shared 56 = .ok (.iload_n 3, 1) := by decide +kernel
theorem dX7_shared_57 : decode cX7_shared 57 = .ok (.iconst 1, 1) := by decide +kernel
theorem dX7_shared_58 : decode cX7_shared 58 = .ok (.iload 4, 2) := by decide +kernel
theorem dX7_shared_60 : decode cX7_shared 60 = .ok (.ishl, 1) := by decide +kernel
theorem dX7_shared_61 : decode cX7_shared 61 = .ok (.ior, 1) := by decide +kernel
theorem dX7_shared_62 : decode cX7_shared 62 = .ok (.istore_n 3, 1) := by decide +kernel
theorem dX7_shared_63 : decode cX7_shared 63 = .ok (.iinc 4 1, 3) := by decide +kernel
theorem dX7_shared_66 : decode cX7_shared 66 = .ok (.goto (-32), 3) := by decide +kernel
theorem dX7_shared_69 : decode cX7_shared 69 = .ok (.iload_n 3, 1) := by decide +kernel
theorem dX7_shared_70 : decode cX7_shared 70 = .ok (.ireturn, 1) := by decide +kernel
theorem dX7_refused_0 : decode cX7_refused 0 = .ok (.iload_n 2, 1) := by decide +kernel
theorem dX7_refused_1 : decode cX7_refused 1 = .ok (.iconst 1, 1) := by decide +kernel
theorem dX7_refused_2 : decode cX7_refused 2 = .ok (.invokestatic 182, 3) := by decide +kernel
theorem dX7_refused_5 : decode cX7_refused 5 = .ok (.iload_n 1, 1) := by decide +kernel
theorem dX7_refused_6 : decode cX7_refused 6 = .ok (.invokestatic 228, 3) := by decide +kernel
theorem dX7_refused_9 : decode cX7_refused 9 = .ok (.aload_n 0, 1) := by decide +kernel
theorem dX7_refused_10 : decode cX7_refused 10 = .ok (.getfield 52, 3) := by decide +kernel
theorem dX7_refused_13 : decode cX7_refused 13 = .ok (.aload_n 0, 1) := by decide +kernel
theorem dX7_refused_14 : decode cX7_refused 14 = .ok (.getfield 19, 3) := by decide +kernel
theorem dX7_refused_17 : decode cX7_refused 17 = .ok (.aload_n 0, 1) := by decide +kernel
theorem dX7_refused_18 : decode cX7_refused 18 = .ok (.invokevirtual 130, 3) := by decide +kernel
theorem dX7_refused_21 : decode cX7_refused 21 = .ok (.iload_n 1, 1) := by decide +kernel
theorem dX7_refused_22 : decode cX7_refused 22 = .ok (.aload_n 0, 1) := by decide +kernel
theorem dX7_refused_23 : decode cX7_refused 23 = .ok (.getfield 19, 3) := by decide +kernel
theorem dX7_refused_26 : decode cX7_refused 26 = .ok (.invokevirtual 268, 3) := by decide +kernel
theorem dX7_refused_29 : decode cX7_refused 29 = .ok (.invokevirtual 255, 3) := by decide +kernel
theorem dX7_refused_32 : decode cX7_refused 32 = .ok (.iconst 0, 1) := by decide +kernel
theorem dX7_refused_33 : decode cX7_refused 33 = .ok (.istore_n 3, 1) := by decide +kernel
theorem dX7_refused_34 : decode cX7_refused 34 = .ok (.iconst (-1), 1) := by decide +kernel
theorem dX7_refused_35 : decode cX7_refused 35 = .ok (.istore 4, 2) := by decide +kernel
theorem dX7_refused_37 : decode cX7_refused 37 = .ok (.iconst 0, 1) := by decide +kernel
theorem dX7_refused_38 : decode cX7_refused 38 = .ok (.istore 5, 2) := by decide +kernel
theorem dX7_refused_40 : decode cX7_refused 40 = .ok (.iload 5, 2) := by decide +kernel
theorem dX7_refused_42 : decode cX7_refused 42 = .ok (.aload_n 0, 1) := by decide +kernel
theorem dX7_refused_43 : decode cX7_refused 43 = .ok (.getfield 19, 3) := by decide +kernel
theorem dX7_refused_46 : decode cX7_refused 46 = .ok (.getfield 105, 3) := by decide +kernel
theorem dX7_refused_49 : decode cX7_refused 49 = .ok (.if_icmp .ge 75, 3) := by decide +kernel
theorem dX7_refused_52 : decode cX7_refused 52 = .ok (.aload_n 0, 1) := by decide +kernel
theorem dX7_refused_53 : decode cX7_refused 53 = .ok (.getfield 52, 3) := by decide +kernel
theorem dX7_refused_56 : decode cX7_refused 56 = .ok (.getfield 259, 3) := by decide +kernel
theorem dX7_refused_59 : decode cX7_refused 59 = .ok (.iload 5, 2) := by decide +kernel
theorem dX7_refused_61 : decode cX7_refused 61 = .ok (.iaload, 1) := by decide +kernel
theorem dX7_refused_62 : decode cX7_refused 62 = .ok (.ifCond .eq 56, 3) := by decide +kernel
theorem dX7_refused_65 : decode cX7_refused 65 = .ok (.aload_n 0, 1) := by decide +kernel
theorem dX7_refused_66 : decode cX7_refused 66 = .ok (.getfield 52, 3) := by decide +kernel
theorem dX7_refused_69 : decode cX7_refused 69 = .ok (.getfield 262, 3) := by decide +kernel
theorem dX7_refused_72 : decode cX7_refused 72 = .ok (.iload 5, 2) := by decide +kernel
theorem dX7_refused_74 : decode cX7_refused 74 = .ok (.iaload, 1) := by decide +kernel
theorem dX7_refused_75 : decode cX7_refused 75 = .ok (.ifCond .ne 43, 3) := by decide +kernel
theorem dX7_refused_78 : decode cX7_refused 78 = .ok (.iload_n 3, 1) := by decide +kernel
theorem dX7_refused_79 : decode cX7_refused 79 = .ok (.iconst 1, 1) := by decide +kernel
theorem dX7_refused_80 : decode cX7_refused 80 = .ok (.iload 5, 2) := by decide +kernel
theorem dX7_refused_82 : decode cX7_refused 82 = .ok (.ishl, 1) := by decide +kernel
theorem dX7_refused_83 : decode cX7_refused 83 = .ok (.ior, 1) := by decide +kernel
theorem dX7_refused_84 : decode cX7_refused 84 = .ok (.istore_n 3, 1) := by decide +kernel
theorem dX7_refused_85 : decode cX7_refused 85 = .ok (.iload 4, 2) := by decide +kernel
theorem dX7_refused_87 : decode cX7_refused 87 = .ok (.iconst (-1), 1) := by decide +kernel
theorem dX7_refused_88 : decode cX7_refused 88 = .ok (.if_icmp .eq 26, 3) := by decide +kernel
theorem dX7_refused_91 : decode cX7_refused 91 = .ok (.aload_n 0, 1) := by decide +kernel
theorem dX7_refused_92 : decode cX7_refused 92 = .ok (.getfield 19, 3) := by decide +kernel
theorem dX7_refused_95 : decode cX7_refused 95 = .ok (.getfield 147, 3) := by decide +kernel
theorem dX7_refused_98 : decode cX7_refused 98 = .ok (.iload 5, 2) := by decide +kernel
theorem dX7_refused_100 : decode cX7_refused 100 = .ok (.iaload, 1) := by decide +kernel
theorem dX7_refused_101 : decode cX7_refused 101 = .ok (.aload_n 0, 1) := by decide +kernel
theorem dX7_refused_102 : decode cX7_refused 102 = .ok (.getfield 19, 3) := by decide +kernel
theorem dX7_refused_105 : decode cX7_refused 105 = .ok (.getfield 147, 3) := by decide +kernel
theorem dX7_refused_108 : decode cX7_refused 108 = .ok (.iload 4, 2) := by decide +kernel
theorem dX7_refused_110 : decode cX7_refused 110 = .ok (.iaload, 1) := by decide +kernel
theorem dX7_refused_111 : decode cX7_refused 111 = .ok (.if_icmp .ge 7, 3) := by decide +kernel
theorem dX7_refused_114 : decode cX7_refused 114 = .ok (.iload 5, 2) := by decide +kernel
theorem dX7_refused_116 : decode cX7_refused 116 = .ok (.istore 4, 2) := by decide +kernel
theorem dX7_refused_118 : decode cX7_refused 118 = .ok (.iinc 5 1, 3) := by decide +kernel
theorem dX7_refused_121 : decode cX7_refused 121 = .ok (.goto (-81), 3) := by decide +kernel
theorem dX7_refused_124 : decode cX7_refused 124 = .ok (.iload_n 2, 1) := by decide +kernel
theorem dX7_refused_125 : decode cX7_refused 125 = .ok (.ifCond .ne 7, 3) := by decide +kernel
theorem dX7_refused_128 : decode cX7_refused 128 = .ok (.iload_n 3, 1) := by decide +kernel
theorem dX7_refused_129 : decode cX7_refused 129 = .ok (.goto 5, 3) := by decide +kernel
theorem dX7_refused_132 : decode cX7_refused 132 = .ok (.iload 4, 2) := by decide +kernel
theorem dX7_refused_134 : decode cX7_refused 134 = .ok (.ireturn, 1) := by decide +kernel
theorem dX7_firstDay_0 : decode cX7_firstDay 0 = .ok (.aload_n 0, 1) := by decide +kernel
theorem dX7_firstDay_1 : decode cX7_firstDay 1 = .ok (.iload_n 1, 1) := by decide +kernel
theorem dX7_firstDay_2 : decode cX7_firstDay 2 = .ok (.invokevirtual 144, 3) := by decide +kernel
theorem dX7_firstDay_5 : decode cX7_firstDay 5 = .ok (.aload_n 0, 1) := by decide +kernel
theorem dX7_firstDay_6 : decode cX7_firstDay 6 = .ok (.iload_n 2, 1) := by decide +kernel
theorem dX7_firstDay_7 : decode cX7_firstDay 7 = .ok (.invokevirtual 225, 3) := by decide +kernel
theorem dX7_firstDay_10 : decode cX7_firstDay 10 = .ok (.aload_n 0, 1) := by decide +kernel
theorem dX7_firstDay_11 : decode cX7_firstDay 11 = .ok (.invokevirtual 130, 3) := by decide +kernel
theorem dX7_firstDay_14 : decode cX7_firstDay 14 = .ok (.astore_n 3, 1) := by decide +kernel
theorem dX7_firstDay_15 : decode cX7_firstDay 15 = .ok (.aload_n 3, 1) := by decide +kernel
theorem dX7_firstDay_16 : decode cX7_firstDay 16 = .ok (.aload_n 0, 1) := by decide +kernel
theorem dX7_firstDay_17 : decode cX7_firstDay 17 = .ok (.getfield 19, 3) := by decide +kernel
theorem dX7_firstDay_20 : decode cX7_firstDay 20 = .ok (.iload_n 1, 1) := by decide +kernel
theorem dX7_firstDay_21 : decode cX7_firstDay 21 = .ok (.invokevirtual 238, 3) := by decide +kernel
theorem dX7_firstDay_24 : decode cX7_firstDay 24 = .ok (.istore 4, 2) := by decide +kernel
theorem dX7_firstDay_26 : decode cX7_firstDay 26 = .ok (.iconst 0, 1) := by decide +kernel
theorem dX7_firstDay_27 : decode cX7_firstDay 27 = .ok (.istore 5, 2) := by decide +kernel
theorem dX7_firstDay_29 : decode cX7_firstDay 29 = .ok (.iconst 0, 1) := by decide +kernel
theorem dX7_firstDay_30 : decode cX7_firstDay 30 = .ok (.istore 6, 2) := by decide +kernel
theorem dX7_firstDay_32 : decode cX7_firstDay 32 = .ok (.iload 6, 2) := by decide +kernel
theorem dX7_firstDay_34 : decode cX7_firstDay 34 = .ok (.sipush 9999, 3) := by decide +kernel
theorem dX7_firstDay_37 : decode cX7_firstDay 37 = .ok (.if_icmp .gt 77, 3) := by decide +kernel
theorem dX7_firstDay_40 : decode cX7_firstDay 40 = .ok (.iload 5, 2) := by decide +kernel
theorem dX7_firstDay_42 : decode cX7_firstDay 42 = .ok (.sipush 9999, 3) := by decide +kernel
theorem dX7_firstDay_45 : decode cX7_firstDay 45 = .ok (.if_icmp .gt 69, 3) := by decide +kernel
theorem dX7_firstDay_48 : decode cX7_firstDay 48 = .ok (.aload_n 0, 1) := by decide +kernel
theorem dX7_firstDay_49 : decode cX7_firstDay 49 = .ok (.getfield 52, 3) := by decide +kernel
theorem dX7_firstDay_52 : decode cX7_firstDay 52 = .ok (.aload_n 0, 1) := by decide +kernel
theorem dX7_firstDay_53 : decode cX7_firstDay 53 = .ok (.getfield 19, 3) := by decide +kernel
theorem dX7_firstDay_56 : decode cX7_firstDay 56 = .ok (.iload_n 2, 1) := by decide +kernel
theorem dX7_firstDay_57 : decode cX7_firstDay 57 = .ok (.iload 5, 2) := by decide +kernel
theorem dX7_firstDay_59 : decode cX7_firstDay 59 = .ok (.iload 4, 2) := by decide +kernel
theorem dX7_firstDay_61 : decode cX7_firstDay 61 = .ok (.invokevirtual 241, 3) := by decide +kernel
theorem dX7_firstDay_64 : decode cX7_firstDay 64 = .ok (.aload_n 0, 1) := by decide +kernel
theorem dX7_firstDay_65 : decode cX7_firstDay 65 = .ok (.getfield 52, 3) := by decide +kernel
theorem dX7_firstDay_68 : decode cX7_firstDay 68 = .ok (.aload_n 0, 1) := by decide +kernel
theorem dX7_firstDay_69 : decode cX7_firstDay 69 = .ok (.getfield 19, 3) := by decide +kernel
theorem dX7_firstDay_72 : decode cX7_firstDay 72 = .ok (.aload_n 3, 1) := by decide +kernel
theorem dX7_firstDay_73 : decode cX7_firstDay 73 = .ok (.iload_n 2, 1) := by decide +kernel
theorem dX7_firstDay_74 : decode cX7_firstDay 74 = .ok (.invokevirtual 245, 3) := by decide +kernel
theorem dX7_firstDay_77 : decode cX7_firstDay 77 = .ok (.iload_n 1, 1) := by decide +kernel
theorem dX7_firstDay_78 : decode cX7_firstDay 78 = .ok (.aload_n 0, 1) := by decide +kernel
theorem dX7_firstDay_79 : decode cX7_firstDay 79 = .ok (.getfield 52, 3) := by decide +kernel
theorem dX7_firstDay_82 : decode cX7_firstDay 82 = .ok (.getfield 252, 3) := by decide +kernel
theorem dX7_firstDay_85 : decode cX7_firstDay 85 = .ok (.invokestatic 275, 3) := by decide +kernel
theorem dX7_firstDay_88 : decode cX7_firstDay 88 = .ok (.ifCond .eq 6, 3) := by decide +kernel
theorem dX7_firstDay_91 : decode cX7_firstDay 91 = .ok (.iload 5, 2) := by decide +kernel
theorem dX7_firstDay_93 : decode cX7_firstDay 93 = .ok (.ireturn, 1) := by decide +kernel
theorem dX7_firstDay_94 : decode cX7_firstDay 94 = .ok (.aload_n 0, 1) := by decide +kernel
theorem dX7_firstDay_95 : decode cX7_firstDay 95 = .ok (.getfield 19, 3) := by decide +kernel
theorem dX7_firstDay_98 : decode cX7_firstDay 98 = .ok (.iload_n 2, 1) := by decide +kernel
theorem dX7_firstDay_99 : decode cX7_firstDay 99 = .ok (.iload 5, 2) := by decide +kernel
theorem dX7_firstDay_101 : decode cX7_firstDay 101 = .ok (.iload 4, 2) := by decide +kernel
theorem dX7_firstDay_103 : decode cX7_firstDay 103 = .ok (.invokevirtual 279, 3) := by decide +kernel
theorem dX7_firstDay_106 : decode cX7_firstDay 106 = .ok (.istore 5, 2) := by decide +kernel
theorem dX7_firstDay_108 : decode cX7_firstDay 108 = .ok (.iinc 6 1, 3) := by decide +kernel
theorem dX7_firstDay_111 : decode cX7_firstDay 111 = .ok (.goto (-79), 3) := by decide +kernel
theorem dX7_firstDay_114 : decode cX7_firstDay 114 = .ok (.iconst (-1), 1) := by decide +kernel
theorem dX7_firstDay_115 : decode cX7_firstDay 115 = .ok (.ireturn, 1) := by decide +kernel
theorem dX7_would_0 : decode cX7_would 0 = .ok (.iload 4, 2) := by decide +kernel
theorem dX7_would_2 : decode cX7_would 2 = .ok (.iconst 3, 1) := by decide +kernel
theorem dX7_would_3 : decode cX7_would 3 = .ok (.invokestatic 182, 3) := by decide +kernel
theorem dX7_would_6 : decode cX7_would 6 = .ok (.aload_n 0, 1) := by decide +kernel
theorem dX7_would_7 : decode cX7_would 7 = .ok (.iload_n 1, 1) := by decide +kernel
theorem dX7_would_8 : decode cX7_would 8 = .ok (.iload_n 2, 1) := by decide +kernel
theorem dX7_would_9 : decode cX7_would 9 = .ok (.iload_n 3, 1) := by decide +kernel
theorem dX7_would_10 : decode cX7_would 10 = .ok (.invokevirtual 282, 3) := by decide +kernel
theorem dX7_would_13 : decode cX7_would 13 = .ok (.aload_n 0, 1) := by decide +kernel
theorem dX7_would_14 : decode cX7_would 14 = .ok (.getfield 10, 3) := by decide +kernel
theorem dX7_would_17 : decode cX7_would 17 = .ok (.iload_n 1, 1) := by decide +kernel
theorem dX7_would_18 : decode cX7_would 18 = .ok (.invokevirtual 286, 3) := by decide +kernel
theorem dX7_would_21 : decode cX7_would 21 = .ok (.ifCond .ne 7, 3) := by decide +kernel
theorem dX7_would_24 : decode cX7_would 24 = .ok (.ldc_w 289, 3) := by decide +kernel
theorem dX7_would_27 : decode cX7_would 27 = .ok (.ireturn, 1) := by decide +kernel
theorem dX7_would_28 : decode cX7_would 28 = .ok (.aload_n 0, 1) := by decide +kernel
theorem dX7_would_29 : decode cX7_would 29 = .ok (.aload_n 0, 1) := by decide +kernel
theorem dX7_would_30 : decode cX7_would 30 = .ok (.invokevirtual 130, 3) := by decide +kernel
theorem dX7_would_33 : decode cX7_would 33 = .ok (.iload_n 1, 1) := by decide +kernel
theorem dX7_would_34 : decode cX7_would 34 = .ok (.iload_n 2, 1) := by decide +kernel
theorem dX7_would_35 : decode cX7_would 35 = .ok (.iload_n 3, 1) := by decide +kernel
theorem dX7_would_36 : decode cX7_would 36 = .ok (.invokevirtual 290, 3) := by decide +kernel
theorem dX7_would_39 : decode cX7_would 39 = .ok (.istore 5, 2) := by decide +kernel
theorem dX7_would_41 : decode cX7_would 41 = .ok (.iload 4, 2) := by decide +kernel
theorem dX7_would_43 : decode cX7_would 43 = .ok (.iconst 2, 1) := by decide +kernel
theorem dX7_would_44 : decode cX7_would 44 = .ok (.if_icmp .ne 13, 3) := by decide +kernel
theorem dX7_would_47 : decode cX7_would 47 = .ok (.aload_n 0, 1) := by decide +kernel
theorem dX7_would_48 : decode cX7_would 48 = .ok (.getfield 46, 3) := by decide +kernel
theorem dX7_would_51 : decode cX7_would 51 = .ok (.iload 5, 2) := by decide +kernel
theorem dX7_would_53 : decode cX7_would 53 = .ok (.invokevirtual 162, 3) := by decide +kernel
theorem dX7_would_56 : decode cX7_would 56 = .ok (.ireturn, 1) := by decide +kernel
theorem dX7_would_57 : decode cX7_would 57 = .ok (.iload 4, 2) := by decide +kernel
theorem dX7_would_59 : decode cX7_would 59 = .ok (.iconst 3, 1) := by decide +kernel
theorem dX7_would_60 : decode cX7_would 60 = .ok (.if_icmp .ne 11, 3) := by decide +kernel
theorem dX7_would_63 : decode cX7_would 63 = .ok (.aload_n 0, 1) := by decide +kernel
theorem dX7_would_64 : decode cX7_would 64 = .ok (.iload 5, 2) := by decide +kernel
theorem dX7_would_66 : decode cX7_would 66 = .ok (.iload_n 3, 1) := by decide +kernel
theorem dX7_would_67 : decode cX7_would 67 = .ok (.invokevirtual 294, 3) := by decide +kernel
theorem dX7_would_70 : decode cX7_would 70 = .ok (.ireturn, 1) := by decide +kernel
theorem dX7_would_71 : decode cX7_would 71 = .ok (.aload_n 0, 1) := by decide +kernel
theorem dX7_would_72 : decode cX7_would 72 = .ok (.getfield 52, 3) := by decide +kernel
theorem dX7_would_75 : decode cX7_would 75 = .ok (.aload_n 0, 1) := by decide +kernel
theorem dX7_would_76 : decode cX7_would 76 = .ok (.getfield 23, 3) := by decide +kernel
theorem dX7_would_79 : decode cX7_would 79 = .ok (.aload_n 0, 1) := by decide +kernel
theorem dX7_would_80 : decode cX7_would 80 = .ok (.getfield 46, 3) := by decide +kernel
theorem dX7_would_83 : decode cX7_would 83 = .ok (.iload_n 3, 1) := by decide +kernel
theorem dX7_would_84 : decode cX7_would 84 = .ok (.aload_n 0, 1) := by decide +kernel
theorem dX7_would_85 : decode cX7_would 85 = .ok (.getfield 46, 3) := by decide +kernel
theorem dX7_would_88 : decode cX7_would 88 = .ok (.aload_n 0, 1) := by decide +kernel
theorem dX7_would_89 : decode cX7_would 89 = .ok (.getfield 23, 3) := by decide +kernel
theorem dX7_would_92 : decode cX7_would 92 = .ok (.iload 5, 2) := by decide +kernel
theorem dX7_would_94 : decode cX7_would 94 = .ok (.invokevirtual 238, 3) := by decide +kernel
theorem dX7_would_97 : decode cX7_would 97 = .ok (.invokevirtual 255, 3) := by decide +kernel
theorem dX7_would_100 : decode cX7_would 100 = .ok (.iload 4, 2) := by decide +kernel
theorem dX7_would_102 : decode cX7_would 102 = .ok (.ifCond .ne 16, 3) := by decide +kernel
theorem dX7_would_105 : decode cX7_would 105 = .ok (.aload_n 0, 1) := by decide +kernel
theorem dX7_would_106 : decode cX7_would 106 = .ok (.getfield 52, 3) := by decide +kernel
theorem dX7_would_109 : decode cX7_would 109 = .ok (.getfield 262, 3) := by decide +kernel
theorem dX7_would_112 : decode cX7_would 112 = .ok (.iload 5, 2) := by decide +kernel
theorem dX7_would_114 : decode cX7_would 114 = .ok (.iaload, 1) := by decide +kernel
theorem dX7_would_115 : decode cX7_would 115 = .ok (.goto 13, 3) := by decide +kernel
theorem dX7_would_118 : decode cX7_would 118 = .ok (.aload_n 0, 1) := by decide +kernel
theorem dX7_would_119 : decode cX7_would 119 = .ok (.getfield 52, 3) := by decide +kernel
theorem dX7_would_122 : decode cX7_would 122 = .ok (.getfield 297, 3) := by decide +kernel
theorem dX7_would_125 : decode cX7_would 125 = .ok (.iload 5, 2) := by decide +kernel
theorem dX7_would_127 : decode cX7_would 127 = .ok (.iaload, 1) := by decide +kernel
theorem dX7_would_128 : decode cX7_would 128 = .ok (.ireturn, 1) := by decide +kernel
theorem dX7_free_0 : decode cX7_free 0 = .ok (.aload_n 0, 1) := by decide +kernel
theorem dX7_free_1 : decode cX7_free 1 = .ok (.iload_n 1, 1) := by decide +kernel
theorem dX7_free_2 : decode cX7_free 2 = .ok (.iconst 0, 1) := by decide +kernel
theorem dX7_free_3 : decode cX7_free 3 = .ok (.iload_n 2, 1) := by decide +kernel
theorem dX7_free_4 : decode cX7_free 4 = .ok (.invokevirtual 282, 3) := by decide +kernel
theorem dX7_free_7 : decode cX7_free 7 = .ok (.aload_n 0, 1) := by decide +kernel
theorem dX7_free_8 : decode cX7_free 8 = .ok (.getfield 10, 3) := by decide +kernel
theorem dX7_free_11 : decode cX7_free 11 = .ok (.iload_n 1, 1) := by decide +kernel
theorem dX7_free_12 : decode cX7_free 12 = .ok (.invokevirtual 286, 3) := by decide +kernel
theorem dX7_free_15 : decode cX7_free 15 = .ok (.ifCond .ne 7, 3) := by decide +kernel
theorem dX7_free_18 : decode cX7_free 18 = .ok (.ldc_w 289, 3) := by decide +kernel
theorem dX7_free_21 : decode cX7_free 21 = .ok (.ireturn, 1) := by decide +kernel
theorem dX7_free_22 : decode cX7_free 22 = .ok (.aload_n 0, 1) := by decide +kernel
theorem dX7_free_23 : decode cX7_free 23 = .ok (.aload_n 0, 1) := by decide +kernel
theorem dX7_free_24 : decode cX7_free 24 = .ok (.invokevirtual 130, 3) := by decide +kernel
theorem dX7_free_27 : decode cX7_free 27 = .ok (.iload_n 1, 1) := by decide +kernel
theorem dX7_free_28 : decode cX7_free 28 = .ok (.iconst 0, 1) := by decide +kernel
theorem dX7_free_29 : decode cX7_free 29 = .ok (.iload_n 2, 1) := by decide +kernel
theorem dX7_free_30 : decode cX7_free 30 = .ok (.invokevirtual 290, 3) := by decide +kernel
theorem dX7_free_33 : decode cX7_free 33 = .ok (.istore_n 3, 1) := by decide +kernel
theorem dX7_free_34 : decode cX7_free 34 = .ok (.aload_n 0, 1) := by decide +kernel
theorem dX7_free_35 : decode cX7_free 35 = .ok (.getfield 52, 3) := by decide +kernel
theorem dX7_free_38 : decode cX7_free 38 = .ok (.aload_n 0, 1) := by decide +kernel
theorem dX7_free_39 : decode cX7_free 39 = .ok (.getfield 23, 3) := by decide +kernel
theorem dX7_free_42 : decode cX7_free 42 = .ok (.iload_n 2, 1) := by decide +kernel
theorem dX7_free_43 : decode cX7_free 43 = .ok (.invokevirtual 300, 3) := by decide +kernel
theorem dX7_free_46 : decode cX7_free 46 = .ok (.iconst 0, 1) := by decide +kernel
theorem dX7_free_47 : decode cX7_free 47 = .ok (.istore 4, 2) := by decide +kernel
theorem dX7_free_49 : decode cX7_free 49 = .ok (.iconst 0, 1) := by decide +kernel
theorem dX7_free_50 : decode cX7_free 50 = .ok (.istore 5, 2) := by decide +kernel
theorem dX7_free_52 : decode cX7_free 52 = .ok (.iload 5, 2) := by decide +kernel
theorem dX7_free_54 : decode cX7_free 54 = .ok (.bipush 10, 2) := by decide +kernel
theorem dX7_free_56 : decode cX7_free 56 = .ok (.if_icmp .ge 69, 3) := by decide +kernel
theorem dX7_free_59 : decode cX7_free 59 = .ok (.aload_n 0, 1) := by decide +kernel
theorem dX7_free_60 : decode cX7_free 60 = .ok (.getfield 23, 3) := by decide +kernel
theorem dX7_free_63 : decode cX7_free 63 = .ok (.getfield 150, 3) := by decide +kernel
theorem dX7_free_66 : decode cX7_free 66 = .ok (.iload_n 3, 1) := by decide +kernel
theorem dX7_free_67 : decode cX7_free 67 = .ok (.iconst 1, 1) := by decide +kernel
theorem dX7_free_68 : decode cX7_free 68 = .ok (.iload 5, 2) := by decide +kernel
theorem dX7_free_70 : decode cX7_free 70 = .ok (.ishl, 1) := by decide +kernel
theorem dX7_free_71 : decode cX7_free 71 = .ok (.iastore, 1) := by decide +kernel
theorem dX7_free_72 : decode cX7_free 72 = .ok (.aload_n 0, 1) := by decide +kernel
theorem dX7_free_73 : decode cX7_free 73 = .ok (.getfield 46, 3) := by decide +kernel
theorem dX7_free_76 : decode cX7_free 76 = .ok (.aload_n 0, 1) := by decide +kernel
theorem dX7_free_77 : decode cX7_free 77 = .ok (.getfield 23, 3) := by decide +kernel
theorem dX7_free_80 : decode cX7_free 80 = .ok (.iload_n 3, 1) := by decide +kernel
theorem dX7_free_81 : decode cX7_free 81 = .ok (.invokevirtual 304, 3) := by decide +kernel
theorem dX7_free_84 : decode cX7_free 84 = .ok (.aload_n 0, 1) := by decide +kernel
theorem dX7_free_85 : decode cX7_free 85 = .ok (.getfield 46, 3) := by decide +kernel
theorem dX7_free_88 : decode cX7_free 88 = .ok (.aload_n 0, 1) := by decide +kernel
theorem dX7_free_89 : decode cX7_free 89 = .ok (.getfield 23, 3) := by decide +kernel
theorem dX7_free_92 : decode cX7_free 92 = .ok (.invokevirtual 307, 3) := by decide +kernel
theorem dX7_free_95 : decode cX7_free 95 = .ok (.aload_n 0, 1) := by decide +kernel
theorem dX7_free_96 : decode cX7_free 96 = .ok (.iload_n 3, 1) := by decide +kernel
theorem dX7_free_97 : decode cX7_free 97 = .ok (.aload_n 0, 1) := by decide +kernel
theorem dX7_free_98 : decode cX7_free 98 = .ok (.getfield 23, 3) := by decide +kernel
theorem dX7_free_101 : decode cX7_free 101 = .ok (.invokevirtual 310, 3) := by decide +kernel
theorem dX7_free_104 : decode cX7_free 104 = .ok (.invokevirtual 313, 3) := by decide +kernel
theorem dX7_free_107 : decode cX7_free 107 = .ok (.ifCond .eq 12, 3) := by decide +kernel
theorem dX7_free_110 : decode cX7_free 110 = .ok (.iload 4, 2) := by decide +kernel
theorem dX7_free_112 : decode cX7_free 112 = .ok (.iconst 1, 1) := by decide +kernel
theorem dX7_free_113 : decode cX7_free 113 = .ok (.iload 5, 2) := by decide +kernel
theorem dX7_free_115 : decode cX7_free 115 = .ok (.ishl, 1) := by decide +kernel
theorem dX7_free_116 : decode cX7_free 116 = .ok (.ior, 1) := by decide +kernel
theorem dX7_free_117 : decode cX7_free 117 = .ok (.istore 4, 2) := by decide +kernel
theorem dX7_free_119 : decode cX7_free 119 = .ok (.iinc 5 1, 3) := by decide +kernel
theorem dX7_free_122 : decode cX7_free 122 = .ok (.goto (-70), 3) := by decide +kernel
theorem dX7_free_125 : decode cX7_free 125 = .ok (.iload 4, 2) := by decide +kernel
theorem dX7_free_127 : decode cX7_free 127 = .ok (.ireturn, 1) := by decide +kernel
theorem dX7_letterFor_0 : decode cX7_letterFor 0 = .ok (.aload_n 0, 1) := by decide +kernel
theorem dX7_letterFor_1 : decode cX7_letterFor 1 = .ok (.iload_n 1, 1) := by decide +kernel
theorem dX7_letterFor_2 : decode cX7_letterFor 2 = .ok (.invokevirtual 144, 3) := by decide +kernel
theorem dX7_letterFor_5 : decode cX7_letterFor 5 = .ok (.iload_n 2, 1) := by decide +kernel
theorem dX7_letterFor_6 : decode cX7_letterFor 6 = .ok (.invokestatic 228, 3) := by decide +kernel
theorem dX7_letterFor_9 : decode cX7_letterFor 9 = .ok (.aload_n 0, 1) := by decide +kernel
theorem dX7_letterFor_10 : decode cX7_letterFor 10 = .ok (.getfield 23, 3) := by decide +kernel
theorem dX7_letterFor_13 : decode cX7_letterFor 13 = .ok (.aload_n 0, 1) := by decide +kernel
theorem dX7_letterFor_14 : decode cX7_letterFor 14 = .ok (.getfield 19, 3) := by decide +kernel
theorem dX7_letterFor_17 : decode cX7_letterFor 17 = .ok (.invokevirtual 98, 3) := by decide +kernel
theorem dX7_letterFor_20 : decode cX7_letterFor 20 = .ok (.aload_n 0, 1) := by decide +kernel
theorem dX7_letterFor_21 : decode cX7_letterFor 21 = .ok (.getfield 46, 3) := by decide +kernel
theorem dX7_letterFor_24 : decode cX7_letterFor 24 = .ok (.aload_n 0, 1) := by decide +kernel
theorem dX7_letterFor_25 : decode cX7_letterFor 25 = .ok (.invokevirtual 130, 3) := by decide +kernel
theorem dX7_letterFor_28 : decode cX7_letterFor 28 = .ok (.invokevirtual 316, 3) := by decide +kernel
theorem dX7_letterFor_31 : decode cX7_letterFor 31 = .ok (.aload_n 0, 1) := by decide +kernel
theorem dX7_letterFor_32 : decode cX7_letterFor 32 = .ok (.getfield 52, 3) := by decide +kernel
theorem dX7_letterFor_35 : decode cX7_letterFor 35 = .ok (.aload_n 0, 1) := by decide +kernel
theorem dX7_letterFor_36 : decode cX7_letterFor 36 = .ok (.getfield 23, 3) := by decide +kernel
theorem dX7_letterFor_39 : decode cX7_letterFor 39 = .ok (.iload_n 2, 1) := by decide +kernel
theorem dX7_letterFor_40 : decode cX7_letterFor 40 = .ok (.invokevirtual 300, 3) := by decide +kernel
theorem dX7_letterFor_43 : decode cX7_letterFor 43 = .ok (.aload_n 0, 1) := by decide +kernel
theorem dX7_letterFor_44 : decode cX7_letterFor 44 = .ok (.getfield 19, 3) := by decide +kernel
theorem dX7_letterFor_47 : decode cX7_letterFor 47 = .ok (.iload_n 1, 1) := by decide +kernel
theorem dX7_letterFor_48 : decode cX7_letterFor 48 = .ok (.iload_n 2, 1) := by decide +kernel
theorem dX7_letterFor_49 : decode cX7_letterFor 49 = .ok (.invokevirtual 319, 3) := by decide +kernel
theorem dX7_letterFor_52 : decode cX7_letterFor 52 = .ok (.istore_n 3, 1) := by decide +kernel
theorem dX7_letterFor_53 : decode cX7_letterFor 53 = .ok (.aload_n 0, 1) := by decide +kernel
theorem dX7_letterFor_54 : decode cX7_letterFor 54 = .ok (.iload_n 1, 1) := by decide +kernel
theorem dX7_letterFor_55 : decode cX7_letterFor 55 = .ok (.iload_n 3, 1) := by decide +kernel
theorem dX7_letterFor_56 : decode cX7_letterFor 56 = .ok (.invokevirtual 313, 3) := by decide +kernel
theorem dX7_letterFor_59 : decode cX7_letterFor 59 = .ok (.ifCond .eq 5, 3) := by decide +kernel
theorem dX7_letterFor_62 : decode cX7_letterFor 62 = .ok (.iconst (-1), 1) := by decide +kernel
theorem dX7_letterFor_63 : decode cX7_letterFor 63 = .ok (.ireturn, 1) := by decide +kernel
theorem dX7_letterFor_64 : decode cX7_letterFor 64 = .ok (.iconst 0, 1) := by decide +kernel
theorem dX7_letterFor_65 : decode cX7_letterFor 65 = .ok (.istore 4, 2) := by decide +kernel
theorem dX7_letterFor_67 : decode cX7_letterFor 67 = .ok (.iload 4, 2) := by decide +kernel
theorem dX7_letterFor_69 : decode cX7_letterFor 69 = .ok (.aload_n 0, 1) := by decide +kernel
theorem dX7_letterFor_70 : decode cX7_letterFor 70 = .ok (.getfield 19, 3) := by decide +kernel
theorem dX7_letterFor_73 : decode cX7_letterFor 73 = .ok (.getfield 156, 3) := by decide +kernel
theorem dX7_letterFor_76 : decode cX7_letterFor 76 = .ok (.iload_n 1, 1) := by decide +kernel
theorem dX7_letterFor_77 : decode cX7_letterFor 77 = .ok (.iaload, 1) := by decide +kernel
theorem dX7_letterFor_78 : decode cX7_letterFor 78 = .ok (.if_icmp .ge 34, 3) := by decide +kernel
theorem dX7_letterFor_81 : decode cX7_letterFor 81 = .ok (.aload_n 0, 1) := by decide +kernel
theorem dX7_letterFor_82 : decode cX7_letterFor 82 = .ok (.iload_n 1, 1) := by decide +kernel
theorem dX7_letterFor_83 : decode cX7_letterFor 83 = .ok (.iload 4, 2) := by decide +kernel
theorem dX7_letterFor_85 : decode cX7_letterFor 85 = .ok (.iload_n 3, 1) := by decide +kernel
theorem dX7_letterFor_86 : decode cX7_letterFor 86 = .ok (.invokevirtual 322, 3) := by decide +kernel
theorem dX7_letterFor_89 : decode cX7_letterFor 89 = .ok (.istore 5, 2) := by decide +kernel
theorem dX7_letterFor_91 : decode cX7_letterFor 91 = .ok (.iload 5, 2) := by decide +kernel
theorem dX7_letterFor_93 : decode cX7_letterFor 93 = .ok (.iconst (-1), 1) := by decide +kernel
theorem dX7_letterFor_94 : decode cX7_letterFor 94 = .ok (.if_icmp .eq 12, 3) := by decide +kernel
theorem dX7_letterFor_97 : decode cX7_letterFor 97 = .ok (.bipush 26, 2) := by decide +kernel
theorem dX7_letterFor_99 : decode cX7_letterFor 99 = .ok (.iload 4, 2) := by decide +kernel
theorem dX7_letterFor_101 : decode cX7_letterFor 101 = .ok (.imul, 1) := by decide +kernel
theorem dX7_letterFor_102 : decode cX7_letterFor 102 = .ok (.iload 5, 2) := by decide +kernel
theorem dX7_letterFor_104 : decode cX7_letterFor 104 = .ok (.iadd, 1) := by decide +kernel
theorem dX7_letterFor_105 : decode cX7_letterFor 105 = .ok (.ireturn, 1) := by decide +kernel
theorem dX7_letterFor_106 : decode cX7_letterFor 106 = .ok (.iinc 4 1, 3) := by decide +kernel
theorem dX7_letterFor_109 : decode cX7_letterFor 109 = .ok (.goto (-42), 3) := by decide +kernel
theorem dX7_letterFor_112 : decode cX7_letterFor 112 = .ok (.iconst (-1), 1) := by decide +kernel
theorem dX7_letterFor_113 : decode cX7_letterFor 113 = .ok (.ireturn, 1) := by decide +kernel
theorem dX7_group_0 : decode cX7_group 0 = .ok (.aload_n 0, 1) := by decide +kernel
theorem dX7_group_1 : decode cX7_group 1 = .ok (.iload_n 1, 1) := by decide +kernel
theorem dX7_group_2 : decode cX7_group 2 = .ok (.invokevirtual 144, 3) := by decide +kernel
theorem dX7_group_5 : decode cX7_group 5 = .ok (.aload_n 0, 1) := by decide +kernel
theorem dX7_group_6 : decode cX7_group 6 = .ok (.invokevirtual 130, 3) := by decide +kernel
theorem dX7_group_9 : decode cX7_group 9 = .ok (.aload_n 0, 1) := by decide +kernel
theorem dX7_group_10 : decode cX7_group 10 = .ok (.getfield 19, 3) := by decide +kernel
theorem dX7_group_13 : decode cX7_group 13 = .ok (.iload_n 1, 1) := by decide +kernel
theorem dX7_group_14 : decode cX7_group 14 = .ok (.invokevirtual 238, 3) := by decide +kernel
theorem dX7_group_17 : decode cX7_group 17 = .ok (.ireturn, 1) := by decide +kernel
theorem dX7_ranked_0 : decode cX7_ranked 0 = .ok (.aload_n 0, 1) := by decide +kernel
theorem dX7_ranked_1 : decode cX7_ranked 1 = .ok (.iload_n 1, 1) := by decide +kernel
theorem dX7_ranked_2 : decode cX7_ranked 2 = .ok (.invokevirtual 225, 3) := by decide +kernel
theorem dX7_ranked_5 : decode cX7_ranked 5 = .ok (.iload_n 2, 1) := by decide +kernel
theorem dX7_ranked_6 : decode cX7_ranked 6 = .ok (.invokestatic 228, 3) := by decide +kernel
theorem dX7_ranked_9 : decode cX7_ranked 9 = .ok (.aload_n 0, 1) := by decide +kernel
theorem dX7_ranked_10 : decode cX7_ranked 10 = .ok (.getfield 52, 3) := by decide +kernel
theorem dX7_ranked_13 : decode cX7_ranked 13 = .ok (.aload_n 0, 1) := by decide +kernel
theorem dX7_ranked_14 : decode cX7_ranked 14 = .ok (.getfield 19, 3) := by decide +kernel
theorem dX7_ranked_17 : decode cX7_ranked 17 = .ok (.iload_n 1, 1) := by decide +kernel
theorem dX7_ranked_18 : decode cX7_ranked 18 = .ok (.iload_n 2, 1) := by decide +kernel
theorem dX7_ranked_19 : decode cX7_ranked 19 = .ok (.aload_n 0, 1) := by decide +kernel
theorem dX7_ranked_20 : decode cX7_ranked 20 = .ok (.getfield 19, 3) := by decide +kernel
theorem dX7_ranked_23 : decode cX7_ranked 23 = .ok (.invokevirtual 268, 3) := by decide +kernel
theorem dX7_ranked_26 : decode cX7_ranked 26 = .ok (.invokevirtual 241, 3) := by decide +kernel
theorem dX7_ranked_29 : decode cX7_ranked 29 = .ok (.iload_n 3, 1) := by decide +kernel
theorem dX7_ranked_30 : decode cX7_ranked 30 = .ok (.ifCond .lt 16, 3) := by decide +kernel
theorem dX7_ranked_33 : decode cX7_ranked 33 = .ok (.iload_n 3, 1) := by decide +kernel
theorem dX7_ranked_34 : decode cX7_ranked 34 = .ok (.aload_n 0, 1) := by decide +kernel
theorem dX7_ranked_35 : decode cX7_ranked 35 = .ok (.getfield 52, 3) := by decide +kernel
theorem dX7_ranked_38 : decode cX7_ranked 38 = .ok (.getfield 325, 3) := by decide +kernel
theorem dX7_ranked_41 : decode cX7_ranked 41 = .ok (.iload_n 1, 1) := by decide +kernel
theorem dX7_ranked_42 : decode cX7_ranked 42 = .ok (.iaload, 1) := by decide +kernel
theorem dX7_ranked_43 : decode cX7_ranked 43 = .ok (.if_icmp .lt 14, 3) := by decide +kernel
theorem dX7_ranked_46 : decode cX7_ranked 46 = .ok (.new 137, 3) := by decide +kernel
theorem dX7_ranked_49 : decode cX7_ranked 49 = .ok (.dup, 1) := by decide +kernel
theorem dX7_ranked_50 : decode cX7_ranked 50 = .ok (.ldc_w 328, 3) := by decide +kernel
theorem dX7_ranked_53 : decode cX7_ranked 53 = .ok (.invokespecial 141, 3) := by decide +kernel
theorem dX7_ranked_56 : decode cX7_ranked 56 = .ok (.athrow, 1) := by decide +kernel
theorem dX7_ranked_57 : decode cX7_ranked 57 = .ok (.aload_n 0, 1) := by decide +kernel
theorem dX7_ranked_58 : decode cX7_ranked 58 = .ok (.getfield 52, 3) := by decide +kernel
theorem dX7_ranked_61 : decode cX7_ranked 61 = .ok (.iload_n 1, 1) := by decide +kernel
theorem dX7_ranked_62 : decode cX7_ranked 62 = .ok (.iload_n 3, 1) := by decide +kernel
theorem dX7_ranked_63 : decode cX7_ranked 63 = .ok (.invokevirtual 330, 3) := by decide +kernel
theorem dX7_ranked_66 : decode cX7_ranked 66 = .ok (.ireturn, 1) := by decide +kernel
theorem dX7_file_0 : decode cX7_file 0 = .ok (.aload_n 0, 1) := by decide +kernel
theorem dX7_file_1 : decode cX7_file 1 = .ok (.iload_n 1, 1) := by decide +kernel
theorem dX7_file_2 : decode cX7_file 2 = .ok (.iload_n 2, 1) := by decide +kernel
theorem dX7_file_3 : decode cX7_file 3 = .ok (.iload_n 3, 1) := by decide +kernel
theorem dX7_file_4 : decode cX7_file 4 = .ok (.invokevirtual 282, 3) := by decide +kernel
theorem dX7_file_7 : decode cX7_file 7 = .ok (.aload_n 0, 1) := by decide +kernel
theorem dX7_file_8 : decode cX7_file 8 = .ok (.getfield 10, 3) := by decide +kernel
theorem dX7_file_11 : decode cX7_file 11 = .ok (.iload_n 1, 1) := by decide +kernel
theorem dX7_file_12 : decode cX7_file 12 = .ok (.invokevirtual 286, 3) := by decide +kernel
theorem dX7_file_15 : decode cX7_file 15 = .ok (.ifCond .ne 7, 3) := by decide +kernel
theorem dX7_file_18 : decode cX7_file 18 = .ok (.ldc_w 289, 3) := by decide +kernel
theorem dX7_file_21 : decode cX7_file 21 = .ok (.ireturn, 1) := by decide +kernel
theorem dX7_file_22 : decode cX7_file 22 = .ok (.aload_n 0, 1) := by decide +kernel
theorem dX7_file_23 : decode cX7_file 23 = .ok (.getfield 19, 3) := by decide +kernel
theorem dX7_file_26 : decode cX7_file 26 = .ok (.getfield 105, 3) := by decide +kernel
theorem dX7_file_29 : decode cX7_file 29 = .ok (.bipush 12, 2) := by decide +kernel
theorem dX7_file_31 : decode cX7_file 31 = .ok (.if_icmp .lt 5, 3) := by decide +kernel
theorem dX7_file_34 : decode cX7_file 34 = .ok (.iconst (-1), 1) := by decide +kernel
theorem dX7_file_35 : decode cX7_file 35 = .ok (.ireturn, 1) := by decide +kernel
theorem dX7_file_36 : decode cX7_file 36 = .ok (.aload_n 0, 1) := by decide +kernel
theorem dX7_file_37 : decode cX7_file 37 = .ok (.getfield 35, 3) := by decide +kernel
theorem dX7_file_40 : decode cX7_file 40 = .ok (.aload_n 0, 1) := by decide +kernel
theorem dX7_file_41 : decode cX7_file 41 = .ok (.getfield 19, 3) := by decide +kernel
theorem dX7_file_44 : decode cX7_file 44 = .ok (.invokevirtual 333, 3) := by decide +kernel
theorem dX7_file_47 : decode cX7_file 47 = .ok (.aload_n 0, 1) := by decide +kernel
theorem dX7_file_48 : decode cX7_file 48 = .ok (.iconst 3, 1) := by decide +kernel
theorem dX7_file_49 : decode cX7_file 49 = .ok (.putfield 78, 3) := by decide +kernel
theorem dX7_file_52 : decode cX7_file 52 = .ok (.aload_n 0, 1) := by decide +kernel
theorem dX7_file_53 : decode cX7_file 53 = .ok (.getfield 19, 3) := by decide +kernel
theorem dX7_file_56 : decode cX7_file 56 = .ok (.aload_n 0, 1) := by decide +kernel
theorem dX7_file_57 : decode cX7_file 57 = .ok (.getfield 10, 3) := by decide +kernel
theorem dX7_file_60 : decode cX7_file 60 = .ok (.getfield 336, 3) := by decide +kernel
theorem dX7_file_63 : decode cX7_file 63 = .ok (.iconst 0, 1) := by decide +kernel
theorem dX7_file_64 : decode cX7_file 64 = .ok (.iload_n 1, 1) := by decide +kernel
theorem dX7_file_65 : decode cX7_file 65 = .ok (.iload_n 3, 1) := by decide +kernel
theorem dX7_file_66 : decode cX7_file 66 = .ok (.invokevirtual 339, 3) := by decide +kernel
theorem dX7_file_69 : decode cX7_file 69 = .ok (.istore 4, 2) := by decide +kernel
theorem dX7_file_71 : decode cX7_file 71 = .ok (.aload_n 0, 1) := by decide +kernel
theorem dX7_file_72 : decode cX7_file 72 = .ok (.getfield 19, 3) := by decide +kernel
theorem dX7_file_75 : decode cX7_file 75 = .ok (.getfield 150, 3) := by decide +kernel
theorem dX7_file_78 : decode cX7_file 78 = .ok (.iload 4, 2) := by decide +kernel
theorem dX7_file_80 : decode cX7_file 80 = .ok (.iload_n 2, 1) := by decide +kernel
theorem dX7_file_81 : decode cX7_file 81 = .ok (.iastore, 1) := by decide +kernel
theorem dX7_file_82 : decode cX7_file 82 = .ok (.iload 4, 2) := by decide +kernel
theorem dX7_file_84 : decode cX7_file 84 = .ok (.ireturn, 1) := by decide +kernel
theorem dX7_use_0 : decode cX7_use 0 = .ok (.aload_n 0, 1) := by decide +kernel
theorem dX7_use_1 : decode cX7_use 1 = .ok (.iload_n 1, 1) := by decide +kernel
theorem dX7_use_2 : decode cX7_use 2 = .ok (.invokevirtual 144, 3) := by decide +kernel
theorem dX7_use_5 : decode cX7_use 5 = .ok (.aload_n 0, 1) := by decide +kernel
theorem dX7_use_6 : decode cX7_use 6 = .ok (.iload_n 2, 1) := by decide +kernel
theorem dX7_use_7 : decode cX7_use 7 = .ok (.invokevirtual 225, 3) := by decide +kernel
theorem dX7_use_10 : decode cX7_use 10 = .ok (.iload_n 3, 1) := by decide +kernel
theorem dX7_use_11 : decode cX7_use 11 = .ok (.invokestatic 343, 3) := by decide +kernel
theorem dX7_use_14 : decode cX7_use 14 = .ok (.ifCond .eq 17, 3) := by decide +kernel
theorem dX7_use_17 : decode cX7_use 17 = .ok (.iload 4, 2) := by decide +kernel
theorem dX7_use_19 : decode cX7_use 19 = .ok (.invokestatic 343, 3) := by decide +kernel
theorem dX7_use_22 : decode cX7_use 22 = .ok (.ifCond .eq 9, 3) := by decide +kernel
theorem dX7_use_25 : decode cX7_use 25 = .ok (.iload 4, 2) := by decide +kernel
theorem dX7_use_27 : decode cX7_use 27 = .ok (.iload_n 3, 1) := by decide +kernel
theorem dX7_use_28 : decode cX7_use 28 = .ok (.if_icmp .ge 14, 3) := by decide +kernel
theorem dX7_use_31 : decode cX7_use 31 = .ok (.new 346, 3) := by decide +kernel
theorem dX7_use_34 : decode cX7_use 34 = .ok (.dup, 1) := by decide +kernel
theorem dX7_use_35 : decode cX7_use 35 = .ok (.ldc_w 348, 3) := by decide +kernel
theorem dX7_use_38 : decode cX7_use 38 = .ok (.invokespecial 350, 3) := by decide +kernel
theorem dX7_use_41 : decode cX7_use 41 = .ok (.athrow, 1) := by decide +kernel
theorem dX7_use_42 : decode cX7_use 42 = .ok (.aload_n 0, 1) := by decide +kernel
theorem dX7_use_43 : decode cX7_use 43 = .ok (.getfield 19, 3) := by decide +kernel
theorem dX7_use_46 : decode cX7_use 46 = .ok (.getfield 153, 3) := by decide +kernel
theorem dX7_use_49 : decode cX7_use 49 = .ok (.iload_n 1, 1) := by decide +kernel
theorem dX7_use_50 : decode cX7_use 50 = .ok (.iaload, 1) := by decide +kernel
theorem dX7_use_51 : decode cX7_use 51 = .ok (.bipush 12, 2) := by decide +kernel
theorem dX7_use_53 : decode cX7_use 53 = .ok (.if_icmp .lt 5, 3) := by decide +kernel
theorem dX7_use_56 : decode cX7_use 56 = .ok (.iconst (-1), 1) := by decide +kernel
theorem dX7_use_57 : decode cX7_use 57 = .ok (.ireturn, 1) := by decide +kernel
theorem dX7_use_58 : decode cX7_use 58 = .ok (.aload_n 0, 1) := by decide +kernel
theorem dX7_use_59 : decode cX7_use 59 = .ok (.getfield 35, 3) := by decide +kernel
theorem dX7_use_62 : decode cX7_use 62 = .ok (.aload_n 0, 1) := by decide +kernel
theorem dX7_use_63 : decode cX7_use 63 = .ok (.getfield 19, 3) := by decide +kernel
theorem dX7_use_66 : decode cX7_use 66 = .ok (.invokevirtual 333, 3) := by decide +kernel
theorem dX7_use_69 : decode cX7_use 69 = .ok (.aload_n 0, 1) := by decide +kernel
theorem dX7_use_70 : decode cX7_use 70 = .ok (.getfield 19, 3) := by decide +kernel
theorem dX7_use_73 : decode cX7_use 73 = .ok (.iload_n 1, 1) := by decide +kernel
theorem dX7_use_74 : decode cX7_use 74 = .ok (.iload_n 2, 1) := by decide +kernel
theorem dX7_use_75 : decode cX7_use 75 = .ok (.iload_n 3, 1) := by decide +kernel
theorem dX7_use_76 : decode cX7_use 76 = .ok (.iload 4, 2) := by decide +kernel
theorem dX7_use_78 : decode cX7_use 78 = .ok (.invokevirtual 351, 3) := by decide +kernel
theorem dX7_use_81 : decode cX7_use 81 = .ok (.ireturn, 1) := by decide +kernel
theorem dX7_consent_0 : decode cX7_consent 0 = .ok (.aload_n 0, 1) := by decide +kernel
theorem dX7_consent_1 : decode cX7_consent 1 = .ok (.iload_n 1, 1) := by decide +kernel
theorem dX7_consent_2 : decode cX7_consent 2 = .ok (.iload_n 2, 1) := by decide +kernel
theorem dX7_consent_3 : decode cX7_consent 3 = .ok (.invokevirtual 193, 3) := by decide +kernel
theorem dX7_consent_6 : decode cX7_consent 6 = .ok (.aload_n 0, 1) := by decide +kernel
theorem dX7_consent_7 : decode cX7_consent 7 = .ok (.getfield 35, 3) := by decide +kernel
theorem dX7_consent_10 : decode cX7_consent 10 = .ok (.aload_n 0, 1) := by decide +kernel
theorem dX7_consent_11 : decode cX7_consent 11 = .ok (.getfield 19, 3) := by decide +kernel
theorem dX7_consent_14 : decode cX7_consent 14 = .ok (.invokevirtual 333, 3) := by decide +kernel
theorem dX7_consent_17 : decode cX7_consent 17 = .ok (.aload_n 0, 1) := by decide +kernel
theorem dX7_consent_18 : decode cX7_consent 18 = .ok (.getfield 19, 3) := by decide +kernel
theorem dX7_consent_21 : decode cX7_consent 21 = .ok (.getfield 123, 3) := by decide +kernel
theorem dX7_consent_24 : decode cX7_consent 24 = .ok (.iload_n 1, 1) := by decide +kernel
theorem dX7_consent_25 : decode cX7_consent 25 = .ok (.iload_n 2, 1) := by decide +kernel
theorem dX7_consent_26 : decode cX7_consent 26 = .ok (.iload_n 3, 1) := by decide +kernel
theorem dX7_consent_27 : decode cX7_consent 27 = .ok (.invokestatic 355, 3) := by decide +kernel
theorem dX7_consent_30 : decode cX7_consent 30 = .ok (.ireturn, 1) := by decide +kernel
theorem dX7_drop_0 : decode cX7_drop 0 = .ok (.aload_n 0, 1) := by decide +kernel
theorem dX7_drop_1 : decode cX7_drop 1 = .ok (.iload_n 1, 1) := by decide +kernel
theorem dX7_drop_2 : decode cX7_drop 2 = .ok (.invokevirtual 144, 3) := by decide +kernel
theorem dX7_drop_5 : decode cX7_drop 5 = .ok (.aload_n 0, 1) := by decide +kernel
theorem dX7_drop_6 : decode cX7_drop 6 = .ok (.getfield 35, 3) := by decide +kernel
theorem dX7_drop_9 : decode cX7_drop 9 = .ok (.aload_n 0, 1) := by decide +kernel
theorem dX7_drop_10 : decode cX7_drop 10 = .ok (.getfield 19, 3) := by decide +kernel
theorem dX7_drop_13 : decode cX7_drop 13 = .ok (.invokevirtual 333, 3) := by decide +kernel
theorem dX7_drop_16 : decode cX7_drop 16 = .ok (.aload_n 0, 1) := by decide +kernel
theorem dX7_drop_17 : decode cX7_drop 17 = .ok (.iconst 3, 1) := by decide +kernel
theorem dX7_drop_18 : decode cX7_drop 18 = .ok (.putfield 78, 3) := by decide +kernel
theorem dX7_drop_21 : decode cX7_drop 21 = .ok (.aload_n 0, 1) := by decide +kernel
theorem dX7_drop_22 : decode cX7_drop 22 = .ok (.getfield 19, 3) := by decide +kernel
theorem dX7_drop_25 : decode cX7_drop 25 = .ok (.iload_n 1, 1) := by decide +kernel
theorem dX7_drop_26 : decode cX7_drop 26 = .ok (.invokevirtual 359, 3) := by decide +kernel
theorem dX7_drop_29 : decode cX7_drop 29 = .ok (.aload_n 0, 1) := by decide +kernel
theorem dX7_drop_30 : decode cX7_drop 30 = .ok (.getfield 19, 3) := by decide +kernel
theorem dX7_drop_33 : decode cX7_drop 33 = .ok (.getfield 105, 3) := by decide +kernel
theorem dX7_drop_36 : decode cX7_drop 36 = .ok (.ireturn, 1) := by decide +kernel
theorem dX7_rule_0 : decode cX7_rule 0 = .ok (.iload_n 1, 1) := by decide +kernel
theorem dX7_rule_1 : decode cX7_rule 1 = .ok (.iconst 5, 1) := by decide +kernel
theorem dX7_rule_2 : decode cX7_rule 2 = .ok (.invokestatic 182, 3) := by decide +kernel
theorem dX7_rule_5 : decode cX7_rule 5 = .ok (.iload_n 2, 1) := by decide +kernel
theorem dX7_rule_6 : decode cX7_rule 6 = .ok (.ifCond .lt 12, 3) := by decide +kernel
theorem dX7_rule_9 : decode cX7_rule 9 = .ok (.iload_n 2, 1) := by decide +kernel
theorem dX7_rule_10 : decode cX7_rule 10 = .ok (.getstatic 362, 3) := by decide +kernel
theorem dX7_rule_13 : decode cX7_rule 13 = .ok (.iload_n 1, 1) := by decide +kernel
theorem dX7_rule_14 : decode cX7_rule 14 = .ok (.iaload, 1) := by decide +kernel
theorem dX7_rule_15 : decode cX7_rule 15 = .ok (.if_icmp .le 14, 3) := by decide +kernel
theorem dX7_rule_18 : decode cX7_rule 18 = .ok (.new 346, 3) := by decide +kernel
theorem dX7_rule_21 : decode cX7_rule 21 = .ok (.dup, 1) := by decide +kernel
theorem dX7_rule_22 : decode cX7_rule 22 = .ok (.ldc_w 365, 3) := by decide +kernel
theorem dX7_rule_25 : decode cX7_rule 25 = .ok (.invokespecial 350, 3) := by decide +kernel
theorem dX7_rule_28 : decode cX7_rule 28 = .ok (.athrow, 1) := by decide +kernel
theorem dX7_rule_29 : decode cX7_rule 29 = .ok (.aload_n 0, 1) := by decide +kernel
theorem dX7_rule_30 : decode cX7_rule 30 = .ok (.getfield 35, 3) := by decide +kernel
theorem dX7_rule_33 : decode cX7_rule 33 = .ok (.aload_n 0, 1) := by decide +kernel
theorem dX7_rule_34 : decode cX7_rule 34 = .ok (.getfield 19, 3) := by decide +kernel
theorem dX7_rule_37 : decode cX7_rule 37 = .ok (.invokevirtual 333, 3) := by decide +kernel
theorem dX7_rule_40 : decode cX7_rule 40 = .ok (.aload_n 0, 1) := by decide +kernel
theorem dX7_rule_41 : decode cX7_rule 41 = .ok (.aload_n 0, 1) := by decide +kernel
theorem dX7_rule_42 : decode cX7_rule 42 = .ok (.getfield 78, 3) := by decide +kernel
theorem dX7_rule_45 : decode cX7_rule 45 = .ok (.iconst 1, 1) := by decide +kernel
theorem dX7_rule_46 : decode cX7_rule 46 = .ok (.invokestatic 367, 3) := by decide +kernel
theorem dX7_rule_49 : decode cX7_rule 49 = .ok (.putfield 78, 3) := by decide +kernel
theorem dX7_rule_52 : decode cX7_rule 52 = .ok (.aload_n 0, 1) := by decide +kernel
theorem dX7_rule_53 : decode cX7_rule 53 = .ok (.getfield 19, 3) := by decide +kernel
theorem dX7_rule_56 : decode cX7_rule 56 = .ok (.getfield 126, 3) := by decide +kernel
theorem dX7_rule_59 : decode cX7_rule 59 = .ok (.iload_n 1, 1) := by decide +kernel
theorem dX7_rule_60 : decode cX7_rule 60 = .ok (.iaload, 1) := by decide +kernel
theorem dX7_rule_61 : decode cX7_rule 61 = .ok (.istore_n 3, 1) := by decide +kernel
theorem dX7_rule_62 : decode cX7_rule 62 = .ok (.aload_n 0, 1) := by decide +kernel
theorem dX7_rule_63 : decode cX7_rule 63 = .ok (.getfield 19, 3) := by decide +kernel
theorem dX7_rule_66 : decode cX7_rule 66 = .ok (.getfield 126, 3) := by decide +kernel
theorem dX7_rule_69 : decode cX7_rule 69 = .ok (.iload_n 1, 1) := by decide +kernel
theorem dX7_rule_70 : decode cX7_rule 70 = .ok (.iload_n 2, 1) := by decide +kernel
theorem dX7_rule_71 : decode cX7_rule 71 = .ok (.iastore, 1) := by decide +kernel
theorem dX7_rule_72 : decode cX7_rule 72 = .ok (.iload_n 3, 1) := by decide +kernel
theorem dX7_rule_73 : decode cX7_rule 73 = .ok (.ireturn, 1) := by decide +kernel
theorem dX7_near_0 : decode cX7_near 0 = .ok (.iload_n 1, 1) := by decide +kernel
theorem dX7_near_1 : decode cX7_near 1 = .ok (.invokestatic 216, 3) := by decide +kernel
theorem dX7_near_4 : decode cX7_near 4 = .ok (.ifCond .eq 15, 3) := by decide +kernel
theorem dX7_near_7 : decode cX7_near 7 = .ok (.iload_n 2, 1) := by decide +kernel
theorem dX7_near_8 : decode cX7_near 8 = .ok (.invokestatic 216, 3) := by decide +kernel
theorem dX7_near_11 : decode cX7_near 11 = .ok (.ifCond .eq 8, 3) := by decide +kernel
theorem dX7_near_14 : decode cX7_near 14 = .ok (.iload_n 1, 1) := by decide +kernel
theorem dX7_near_15 : decode cX7_near 15 = .ok (.iload_n 2, 1) := by decide +kernel
theorem dX7_near_16 : decode cX7_near 16 = .ok (.if_icmp .ne 13, 3) := by decide +kernel
theorem dX7_near_19 : decode cX7_near 19 = .ok (.new 137, 3) := by decide +kernel
theorem dX7_near_22 : decode cX7_near 22 = .ok (.dup, 1) := by decide +kernel
theorem dX7_near_23 : decode cX7_near 23 = .ok (.ldc 220, 2) := by decide +kernel
theorem dX7_near_25 : decode cX7_near 25 = .ok (.invokespecial 141, 3) := by decide +kernel
theorem dX7_near_28 : decode cX7_near 28 = .ok (.athrow, 1) := by decide +kernel
theorem dX7_near_29 : decode cX7_near 29 = .ok (.aload_n 0, 1) := by decide +kernel
theorem dX7_near_30 : decode cX7_near 30 = .ok (.getfield 35, 3) := by decide +kernel
theorem dX7_near_33 : decode cX7_near 33 = .ok (.aload_n 0, 1) := by decide +kernel
theorem dX7_near_34 : decode cX7_near 34 = .ok (.getfield 19, 3) := by decide +kernel
theorem dX7_near_37 : decode cX7_near 37 = .ok (.invokevirtual 333, 3) := by decide +kernel
theorem dX7_near_40 : decode cX7_near 40 = .ok (.aload_n 0, 1) := by decide +kernel
theorem dX7_near_41 : decode cX7_near 41 = .ok (.aload_n 0, 1) := by decide +kernel
theorem dX7_near_42 : decode cX7_near 42 = .ok (.getfield 78, 3) := by decide +kernel
theorem dX7_near_45 : decode cX7_near 45 = .ok (.iconst 2, 1) := by decide +kernel
theorem dX7_near_46 : decode cX7_near 46 = .ok (.invokestatic 367, 3) := by decide +kernel
theorem dX7_near_49 : decode cX7_near 49 = .ok (.putfield 78, 3) := by decide +kernel
theorem dX7_near_52 : decode cX7_near 52 = .ok (.aload_n 0, 1) := by decide +kernel
theorem dX7_near_53 : decode cX7_near 53 = .ok (.getfield 19, 3) := by decide +kernel
theorem dX7_near_56 : decode cX7_near 56 = .ok (.getfield 115, 3) := by decide +kernel
theorem dX7_near_59 : decode cX7_near 59 = .ok (.iload_n 1, 1) := by decide +kernel
theorem dX7_near_60 : decode cX7_near 60 = .ok (.iload_n 2, 1) := by decide +kernel
theorem dX7_near_61 : decode cX7_near 61 = .ok (.iload_n 3, 1) := by decide +kernel
theorem dX7_near_62 : decode cX7_near 62 = .ok (.invokestatic 355, 3) := by decide +kernel
theorem dX7_near_65 : decode cX7_near 65 = .ok (.ireturn, 1) := by decide +kernel
theorem dX7_undo_0 : decode cX7_undo 0 = .ok (.aload_n 0, 1) := by decide +kernel
theorem dX7_undo_1 : decode cX7_undo 1 = .ok (.getfield 35, 3) := by decide +kernel
theorem dX7_undo_4 : decode cX7_undo 4 = .ok (.getfield 129, 3) := by decide +kernel
theorem dX7_undo_7 : decode cX7_undo 7 = .ok (.ifCond .ne 5, 3) := by decide +kernel
theorem dX7_undo_10 : decode cX7_undo 10 = .ok (.iconst (-1), 1) := by decide +kernel
theorem dX7_undo_11 : decode cX7_undo 11 = .ok (.ireturn, 1) := by decide +kernel
theorem dX7_undo_12 : decode cX7_undo 12 = .ok (.aload_n 0, 1) := by decide +kernel
theorem dX7_undo_13 : decode cX7_undo 13 = .ok (.getfield 35, 3) := by decide +kernel
theorem dX7_undo_16 : decode cX7_undo 16 = .ok (.aload_n 0, 1) := by decide +kernel
theorem dX7_undo_17 : decode cX7_undo 17 = .ok (.getfield 19, 3) := by decide +kernel
theorem dX7_undo_20 : decode cX7_undo 20 = .ok (.invokevirtual 372, 3) := by decide +kernel
theorem dX7_undo_23 : decode cX7_undo 23 = .ok (.aload_n 0, 1) := by decide +kernel
theorem dX7_undo_24 : decode cX7_undo 24 = .ok (.iconst 3, 1) := by decide +kernel
theorem dX7_undo_25 : decode cX7_undo 25 = .ok (.putfield 78, 3) := by decide +kernel
theorem dX7_undo_28 : decode cX7_undo 28 = .ok (.aload_n 0, 1) := by decide +kernel
theorem dX7_undo_29 : decode cX7_undo 29 = .ok (.getfield 35, 3) := by decide +kernel
theorem dX7_undo_32 : decode cX7_undo 32 = .ok (.getfield 129, 3) := by decide +kernel
theorem dX7_undo_35 : decode cX7_undo 35 = .ok (.ireturn, 1) := by decide +kernel
theorem dX7_image_0 : decode cX7_image 0 = .ok (.aload_n 0, 1) := by decide +kernel
theorem dX7_image_1 : decode cX7_image 1 = .ok (.getfield 29, 3) := by decide +kernel
theorem dX7_image_4 : decode cX7_image 4 = .ok (.ifnonnull 14, 3) := by decide +kernel
theorem dX7_image_7 : decode cX7_image 7 = .ok (.aload_n 0, 1) := by decide +kernel
theorem dX7_image_8 : decode cX7_image 8 = .ok (.new 16, 3) := by decide +kernel
theorem dX7_image_11 : decode cX7_image 11 = .ok (.dup, 1) := by decide +kernel
theorem dX7_image_12 : decode cX7_image 12 = .ok (.invokespecial 18, 3) := by decide +kernel
theorem dX7_image_15 : decode cX7_image 15 = .ok (.putfield 29, 3) := by decide +kernel
theorem dX7_image_18 : decode cX7_image 18 = .ok (.aload_n 0, 1) := by decide +kernel
theorem dX7_image_19 : decode cX7_image 19 = .ok (.getfield 29, 3) := by decide +kernel
theorem dX7_image_22 : decode cX7_image 22 = .ok (.aload_n 0, 1) := by decide +kernel
theorem dX7_image_23 : decode cX7_image 23 = .ok (.getfield 19, 3) := by decide +kernel
theorem dX7_image_26 : decode cX7_image 26 = .ok (.invokevirtual 98, 3) := by decide +kernel
theorem dX7_image_29 : decode cX7_image 29 = .ok (.return_, 1) := by decide +kernel
theorem dX7_back_0 : decode cX7_back 0 = .ok (.aload_n 0, 1) := by decide +kernel
theorem dX7_back_1 : decode cX7_back 1 = .ok (.getfield 29, 3) := by decide +kernel
theorem dX7_back_4 : decode cX7_back 4 = .ok (.ifnonnull 5, 3) := by decide +kernel
theorem dX7_back_7 : decode cX7_back 7 = .ok (.iconst 0, 1) := by decide +kernel
theorem dX7_back_8 : decode cX7_back 8 = .ok (.ireturn, 1) := by decide +kernel
theorem dX7_back_9 : decode cX7_back 9 = .ok (.aload_n 0, 1) := by decide +kernel
theorem dX7_back_10 : decode cX7_back 10 = .ok (.getfield 19, 3) := by decide +kernel
theorem dX7_back_13 : decode cX7_back 13 = .ok (.aload_n 0, 1) := by decide +kernel
theorem dX7_back_14 : decode cX7_back 14 = .ok (.getfield 29, 3) := by decide +kernel
theorem dX7_back_17 : decode cX7_back 17 = .ok (.invokevirtual 98, 3) := by decide +kernel
theorem dX7_back_20 : decode cX7_back 20 = .ok (.aload_n 0, 1) := by decide +kernel
theorem dX7_back_21 : decode cX7_back 21 = .ok (.getfield 35, 3) := by decide +kernel
theorem dX7_back_24 : decode cX7_back 24 = .ok (.invokevirtual 102, 3) := by decide +kernel
theorem dX7_back_27 : decode cX7_back 27 = .ok (.aload_n 0, 1) := by decide +kernel
theorem dX7_back_28 : decode cX7_back 28 = .ok (.iconst 3, 1) := by decide +kernel
theorem dX7_back_29 : decode cX7_back 29 = .ok (.putfield 78, 3) := by decide +kernel
theorem dX7_back_32 : decode cX7_back 32 = .ok (.iconst 1, 1) := by decide +kernel
theorem dX7_back_33 : decode cX7_back 33 = .ok (.ireturn, 1) := by decide +kernel
theorem dX7_ask_0 : decode cX7_ask 0 = .ok (.aload_n 0, 1) := by decide +kernel
theorem dX7_ask_1 : decode cX7_ask 1 = .ok (.iload_n 1, 1) := by decide +kernel
theorem dX7_ask_2 : decode cX7_ask 2 = .ok (.invokevirtual 88, 3) := by decide +kernel
theorem dX7_ask_5 : decode cX7_ask 5 = .ok (.iload_n 2, 1) := by decide +kernel
theorem dX7_ask_6 : decode cX7_ask 6 = .ok (.invokestatic 228, 3) := by decide +kernel
theorem dX7_ask_9 : decode cX7_ask 9 = .ok (.iload_n 1, 1) := by decide +kernel
theorem dX7_ask_10 : decode cX7_ask 10 = .ok (.sipush 200, 3) := by decide +kernel
theorem dX7_ask_13 : decode cX7_ask 13 = .ok (.if_icmp .le 14, 3) := by decide +kernel
theorem dX7_ask_16 : decode cX7_ask 16 = .ok (.new 346, 3) := by decide +kernel
theorem dX7_ask_19 : decode cX7_ask 19 = .ok (.dup, 1) := by decide +kernel
theorem dX7_ask_20 : decode cX7_ask 20 = .ok (.ldc_w 375, 3) := by decide +kernel
theorem dX7_ask_23 : decode cX7_ask 23 = .ok (.invokespecial 350, 3) := by decide +kernel
theorem dX7_ask_26 : decode cX7_ask 26 = .ok (.athrow, 1) := by decide +kernel
theorem dX7_ask_27 : decode cX7_ask 27 = .ok (.aload_n 0, 1) := by decide +kernel
theorem dX7_ask_28 : decode cX7_ask 28 = .ok (.getfield 52, 3) := by decide +kernel
theorem dX7_ask_31 : decode cX7_ask 31 = .ok (.aload_n 0, 1) := by decide +kernel
theorem dX7_ask_32 : decode cX7_ask 32 = .ok (.getfield 19, 3) := by decide +kernel
theorem dX7_ask_35 : decode cX7_ask 35 = .ok (.aload_n 0, 1) := by decide +kernel
theorem dX7_ask_36 : decode cX7_ask 36 = .ok (.invokevirtual 130, 3) := by decide +kernel
theorem dX7_ask_39 : decode cX7_ask 39 = .ok (.iload_n 2, 1) := by decide +kernel
theorem dX7_ask_40 : decode cX7_ask 40 = .ok (.aload_n 0, 1) := by decide +kernel
theorem dX7_ask_41 : decode cX7_ask 41 = .ok (.getfield 19, 3) := by decide +kernel
theorem dX7_ask_44 : decode cX7_ask 44 = .ok (.invokevirtual 268, 3) := by decide +kernel
theorem dX7_ask_47 : decode cX7_ask 47 = .ok (.invokevirtual 255, 3) := by decide +kernel
theorem dX7_ask_50 : decode cX7_ask 50 = .ok (.aload_n 0, 1) := by decide +kernel
theorem dX7_ask_51 : decode cX7_ask 51 = .ok (.getfield 70, 3) := by decide +kernel
theorem dX7_ask_54 : decode cX7_ask 54 = .ok (.iload_n 1, 1) := by decide +kernel
theorem dX7_ask_55 : decode cX7_ask 55 = .ok (.invokevirtual 377, 3) := by decide +kernel
theorem dX7_ask_58 : decode cX7_ask 58 = .ok (.istore_n 3, 1) := by decide +kernel
theorem dX7_ask_59 : decode cX7_ask 59 = .ok (.aload_n 0, 1) := by decide +kernel
theorem dX7_ask_60 : decode cX7_ask 60 = .ok (.aload_n 0, 1) := by decide +kernel
theorem dX7_ask_61 : decode cX7_ask 61 = .ok (.getfield 70, 3) := by decide +kernel
theorem dX7_ask_64 : decode cX7_ask 64 = .ok (.getfield 378, 3) := by decide +kernel
theorem dX7_ask_67 : decode cX7_ask 67 = .ok (.putfield 74, 3) := by decide +kernel
theorem dX7_ask_70 : decode cX7_ask 70 = .ok (.iload_n 3, 1) := by decide +kernel
theorem dX7_ask_71 : decode cX7_ask 71 = .ok (.ifCond .eq 11, 3) := by decide +kernel
theorem dX7_ask_74 : decode cX7_ask 74 = .ok (.ldc_w 289, 3) := by decide +kernel
theorem dX7_ask_77 : decode cX7_ask 77 = .ok (.iload_n 3, 1) := by decide +kernel
theorem dX7_ask_78 : decode cX7_ask 78 = .ok (.isub, 1) := by decide +kernel
theorem dX7_ask_79 : decode cX7_ask 79 = .ok (.goto 10, 3) := by decide +kernel
theorem dX7_ask_82 : decode cX7_ask 82 = .ok (.aload_n 0, 1) := by decide +kernel
theorem dX7_ask_83 : decode cX7_ask 83 = .ok (.getfield 70, 3) := by decide +kernel
theorem dX7_ask_86 : decode cX7_ask 86 = .ok (.getfield 379, 3) := by decide +kernel
theorem dX7_ask_89 : decode cX7_ask 89 = .ok (.ireturn, 1) := by decide +kernel
theorem dX7_isDay_0 : decode cX7_isDay 0 = .ok (.iload_n 0, 1) := by decide +kernel
theorem dX7_isDay_1 : decode cX7_isDay 1 = .ok (.ifCond .lt 14, 3) := by decide +kernel
theorem dX7_isDay_4 : decode cX7_isDay 4 = .ok (.iload_n 0, 1) := by decide +kernel
theorem dX7_isDay_5 : decode cX7_isDay 5 = .ok (.sipush 9999, 3) := by decide +kernel
theorem dX7_isDay_8 : decode cX7_isDay 8 = .ok (.if_icmp .gt 7, 3) := by decide +kernel
theorem dX7_isDay_11 : decode cX7_isDay 11 = .ok (.iconst 1, 1) := by decide +kernel
theorem dX7_isDay_12 : decode cX7_isDay 12 = .ok (.goto 4, 3) := by decide +kernel
theorem dX7_isDay_15 : decode cX7_isDay 15 = .ok (.iconst 0, 1) := by decide +kernel
theorem dX7_isDay_16 : decode cX7_isDay 16 = .ok (.ireturn, 1) := by decide +kernel
theorem dX7_isClass_0 : decode cX7_isClass 0 = .ok (.iload_n 0, 1) := by decide +kernel
theorem dX7_isClass_1 : decode cX7_isClass 1 = .ok (.ifCond .lt 13, 3) := by decide +kernel
theorem dX7_isClass_4 : decode cX7_isClass 4 = .ok (.iload_n 0, 1) := by decide +kernel
theorem dX7_isClass_5 : decode cX7_isClass 5 = .ok (.bipush 10, 2) := by decide +kernel
theorem dX7_isClass_7 : decode cX7_isClass 7 = .ok (.if_icmp .ge 7, 3) := by decide +kernel
theorem dX7_isClass_10 : decode cX7_isClass 10 = .ok (.iconst 1, 1) := by decide +kernel
theorem dX7_isClass_11 : decode cX7_isClass 11 = .ok (.goto 4, 3) := by decide +kernel
theorem dX7_isClass_14 : decode cX7_isClass 14 = .ok (.iconst 0, 1) := by decide +kernel
theorem dX7_isClass_15 : decode cX7_isClass 15 = .ok (.ireturn, 1) := by decide +kernel
theorem dX7_isIn_0 : decode cX7_isIn 0 = .ok (.iload_n 1, 1) := by decide +kernel
theorem dX7_isIn_1 : decode cX7_isIn 1 = .ok (.iload_n 0, 1) := by decide +kernel
theorem dX7_isIn_2 : decode cX7_isIn 2 = .ok (.ishr, 1) := by decide +kernel
theorem dX7_isIn_3 : decode cX7_isIn 3 = .ok (.iconst 1, 1) := by decide +kernel
theorem dX7_isIn_4 : decode cX7_isIn 4 = .ok (.iand, 1) := by decide +kernel
theorem dX7_isIn_5 : decode cX7_isIn 5 = .ok (.ifCond .eq 7, 3) := by decide +kernel
theorem dX7_isIn_8 : decode cX7_isIn 8 = .ok (.iconst 1, 1) := by decide +kernel
theorem dX7_isIn_9 : decode cX7_isIn 9 = .ok (.goto 4, 3) := by decide +kernel
theorem dX7_isIn_12 : decode cX7_isIn 12 = .ok (.iconst 0, 1) := by decide +kernel
theorem dX7_isIn_13 : decode cX7_isIn 13 = .ok (.ireturn, 1) := by decide +kernel
theorem dX7_bitsIn_0 : decode cX7_bitsIn 0 = .ok (.iconst 0, 1) := by decide +kernel
theorem dX7_bitsIn_1 : decode cX7_bitsIn 1 = .ok (.istore_n 2, 1) := by decide +kernel
theorem dX7_bitsIn_2 : decode cX7_bitsIn 2 = .ok (.iconst 0, 1) := by decide +kernel
theorem dX7_bitsIn_3 : decode cX7_bitsIn 3 = .ok (.istore_n 3, 1) := by decide +kernel
theorem dX7_bitsIn_4 : decode cX7_bitsIn 4 = .ok (.iload_n 3, 1) := by decide +kernel
theorem dX7_bitsIn_5 : decode cX7_bitsIn 5 = .ok (.iload_n 1, 1) := by decide +kernel
theorem dX7_bitsIn_6 : decode cX7_bitsIn 6 = .ok (.if_icmp .ge 18, 3) := by decide +kernel
theorem dX7_bitsIn_9 : decode cX7_bitsIn 9 = .ok (.iload_n 2, 1) := by decide +kernel
theorem dX7_bitsIn_10 : decode cX7_bitsIn 10 = .ok (.aload_n 0, 1) := by decide +kernel
theorem dX7_bitsIn_11 : decode cX7_bitsIn 11 = .ok (.iload_n 3, 1) := by decide +kernel
theorem dX7_bitsIn_12 : decode cX7_bitsIn 12 = .ok (.iaload, 1) := by decide +kernel
theorem dX7_bitsIn_13 : decode cX7_bitsIn 13 = .ok (.invokestatic 382, 3) := by decide +kernel
theorem dX7_bitsIn_16 : decode cX7_bitsIn 16 = .ok (.iadd, 1) := by decide +kernel
theorem dX7_bitsIn_17 : decode cX7_bitsIn 17 = .ok (.istore_n 2, 1) := by decide +kernel
theorem dX7_bitsIn_18 : decode cX7_bitsIn 18 = .ok (.iinc 3 1, 3) := by decide +kernel
theorem dX7_bitsIn_21 : decode cX7_bitsIn 21 = .ok (.goto (-17), 3) := by decide +kernel
theorem dX7_bitsIn_24 : decode cX7_bitsIn 24 = .ok (.iload_n 2, 1) := by decide +kernel
theorem dX7_bitsIn_25 : decode cX7_bitsIn 25 = .ok (.ireturn, 1) := by decide +kernel
theorem dX7_setCouple_0 : decode cX7_setCouple 0 = .ok (.iload_n 2, 1) := by decide +kernel
theorem dX7_setCouple_1 : decode cX7_setCouple 1 = .ok (.aload_n 0, 1) := by decide +kernel
theorem dX7_setCouple_2 : decode cX7_setCouple 2 = .ok (.iload_n 1, 1) := by decide +kernel
theorem dX7_setCouple_3 : decode cX7_setCouple 3 = .ok (.iaload, 1) := by decide +kernel
theorem dX7_setCouple_4 : decode cX7_setCouple 4 = .ok (.invokestatic 275, 3) := by decide +kernel
theorem dX7_setCouple_7 : decode cX7_setCouple 7 = .ok (.istore 4, 2) := by decide +kernel
theorem dX7_setCouple_9 : decode cX7_setCouple 9 = .ok (.iload_n 3, 1) := by decide +kernel
theorem dX7_setCouple_10 : decode cX7_setCouple 10 = .ok (.ifCond .eq 24, 3) := by decide +kernel
theorem dX7_setCouple_13 : decode cX7_setCouple 13 = .ok (.aload_n 0, 1) := by decide +kernel
theorem dX7_setCouple_14 : decode cX7_setCouple 14 = .ok (.iload_n 1, 1) := by decide +kernel
theorem dX7_setCouple_15 : decode cX7_setCouple 15 = .ok (.dup2, 1) := by decide +kernel
theorem dX7_setCouple_16 : decode cX7_setCouple 16 = .ok (.iaload, 1) := by decide +kernel
theorem dX7_setCouple_17 : decode cX7_setCouple 17 = .ok (.iconst 1, 1) := by decide +kernel
theorem dX7_setCouple_18 : decode cX7_setCouple 18 = .ok (.iload_n 2, 1) := by decide +kernel
theorem dX7_setCouple_19 : decode cX7_setCouple 19 = .ok (.ishl, 1) := by decide +kernel
theorem dX7_setCouple_20 : decode cX7_setCouple 20 = .ok (.ior, 1) := by decide +kernel
theorem dX7_setCouple_21 : decode cX7_setCouple 21 = .ok (.iastore, 1) := by decide +kernel
theorem dX7_setCouple_22 : decode cX7_setCouple 22 = .ok (.aload_n 0, 1) := by decide +kernel
theorem dX7_setCouple_23 : decode cX7_setCouple 23 = .ok (.iload_n 2, 1) := by decide +kernel
theorem dX7_setCouple_24 : decode cX7_setCouple 24 = .ok (.dup2, 1) := by decide +kernel
theorem dX7_setCouple_25 : decode cX7_setCouple 25 = .ok (.iaload, 1) := by decide +kernel
theorem dX7_setCouple_26 : decode cX7_setCouple 26 = .ok (.iconst 1, 1) := by decide +kernel
theorem dX7_setCouple_27 : decode cX7_setCouple 27 = .ok (.iload_n 1, 1) := by decide +kernel
theorem dX7_setCouple_28 : decode cX7_setCouple 28 = .ok (.ishl, 1) := by decide +kernel
theorem dX7_setCouple_29 : decode cX7_setCouple 29 = .ok (.ior, 1) := by decide +kernel
theorem dX7_setCouple_30 : decode cX7_setCouple 30 = .ok (.iastore, 1) := by decide +kernel
theorem dX7_setCouple_31 : decode cX7_setCouple 31 = .ok (.goto 25, 3) := by decide +kernel
theorem dX7_setCouple_34 : decode cX7_setCouple 34 = .ok (.aload_n 0, 1) := by decide +kernel
theorem dX7_setCouple_35 : decode cX7_setCouple 35 = .ok (.iload_n 1, 1) := by decide +kernel
theorem dX7_setCouple_36 : decode cX7_setCouple 36 = .ok (.dup2, 1) := by decide +kernel
theorem dX7_setCouple_37 : decode cX7_setCouple 37 = .ok (.iaload, 1) := by decide +kernel
theorem dX7_setCouple_38 : decode cX7_setCouple 38 = .ok (.iconst 1, 1) := by decide +kernel
theorem dX7_setCouple_39 : decode cX7_setCouple 39 = .ok (.iload_n 2, 1) := by decide +kernel
theorem dX7_setCouple_40 : decode cX7_setCouple 40 = .ok (.ishl, 1) := by decide +kernel
theorem dX7_setCouple_41 : decode cX7_setCouple 41 = .ok (.iconst (-1), 1) := by decide +kernel
theorem dX7_setCouple_42 : decode cX7_setCouple 42 = .ok (.ixor, 1) := by decide +kernel
theorem dX7_setCouple_43 : decode cX7_setCouple 43 = .ok (.iand, 1) := by decide +kernel
theorem dX7_setCouple_44 : decode cX7_setCouple 44 = .ok (.iastore, 1) := by decide +kernel
theorem dX7_setCouple_45 : decode cX7_setCouple 45 = .ok (.aload_n 0, 1) := by decide +kernel
theorem dX7_setCouple_46 : decode cX7_setCouple 46 = .ok (.iload_n 2, 1) := by decide +kernel
theorem dX7_setCouple_47 : decode cX7_setCouple 47 = .ok (.dup2, 1) := by decide +kernel
theorem dX7_setCouple_48 : decode cX7_setCouple 48 = .ok (.iaload, 1) := by decide +kernel
theorem dX7_setCouple_49 : decode cX7_setCouple 49 = .ok (.iconst 1, 1) := by decide +kernel
theorem dX7_setCouple_50 : decode cX7_setCouple 50 = .ok (.iload_n 1, 1) := by decide +kernel
theorem dX7_setCouple_51 : decode cX7_setCouple 51 = .ok (.ishl, 1) := by decide +kernel
theorem dX7_setCouple_52 : decode cX7_setCouple 52 = .ok (.iconst (-1), 1) := by decide +kernel
theorem dX7_setCouple_53 : decode cX7_setCouple 53 = .ok (.ixor, 1) := by decide +kernel
theorem dX7_setCouple_54 : decode cX7_setCouple 54 = .ok (.iand, 1) := by decide +kernel
theorem dX7_setCouple_55 : decode cX7_setCouple 55 = .ok (.iastore, 1) := by decide +kernel
theorem dX7_setCouple_56 : decode cX7_setCouple 56 = .ok (.iload 4, 2) := by decide +kernel
theorem dX7_setCouple_58 : decode cX7_setCouple 58 = .ok (.ireturn, 1) := by decide +kernel
theorem dX7_hasMark_0 : decode cX7_hasMark 0 = .ok (.iload_n 1, 1) := by decide +kernel
theorem dX7_hasMark_1 : decode cX7_hasMark 1 = .ok (.ifCond .lt 18, 3) := by decide +kernel
theorem dX7_hasMark_4 : decode cX7_hasMark 4 = .ok (.iload_n 1, 1) := by decide +kernel
theorem dX7_hasMark_5 : decode cX7_hasMark 5 = .ok (.aload_n 0, 1) := by decide +kernel
theorem dX7_hasMark_6 : decode cX7_hasMark 6 = .ok (.getfield 19, 3) := by decide +kernel
theorem dX7_hasMark_9 : decode cX7_hasMark 9 = .ok (.getfield 105, 3) := by decide +kernel
theorem dX7_hasMark_12 : decode cX7_hasMark 12 = .ok (.if_icmp .ge 7, 3) := by decide +kernel
theorem dX7_hasMark_15 : decode cX7_hasMark 15 = .ok (.iconst 1, 1) := by decide +kernel
theorem dX7_hasMark_16 : decode cX7_hasMark 16 = .ok (.goto 4, 3) := by decide +kernel
theorem dX7_hasMark_19 : decode cX7_hasMark 19 = .ok (.iconst 0, 1) := by decide +kernel
theorem dX7_hasMark_20 : decode cX7_hasMark 20 = .ok (.ireturn, 1) := by decide +kernel
theorem dX7_needMark_0 : decode cX7_needMark 0 = .ok (.aload_n 0, 1) := by decide +kernel
theorem dX7_needMark_1 : decode cX7_needMark 1 = .ok (.iload_n 1, 1) := by decide +kernel
theorem dX7_needMark_2 : decode cX7_needMark 2 = .ok (.invokevirtual 387, 3) := by decide +kernel
theorem dX7_needMark_5 : decode cX7_needMark 5 = .ok (.ifCond .ne 14, 3) := by decide +kernel
theorem dX7_needMark_8 : decode cX7_needMark 8 = .ok (.new 137, 3) := by decide +kernel
theorem dX7_needMark_11 : decode cX7_needMark 11 = .ok (.dup, 1) := by decide +kernel
theorem dX7_needMark_12 : decode cX7_needMark 12 = .ok (.ldc_w 390, 3) := by decide +kernel
theorem dX7_needMark_15 : decode cX7_needMark 15 = .ok (.invokespecial 141, 3) := by decide +kernel
theorem dX7_needMark_18 : decode cX7_needMark 18 = .ok (.athrow, 1) := by decide +kernel
theorem dX7_needMark_19 : decode cX7_needMark 19 = .ok (.return_, 1) := by decide +kernel
theorem dX7_needCouple_0 : decode cX7_needCouple 0 = .ok (.aload_n 0, 1) := by decide +kernel
theorem dX7_needCouple_1 : decode cX7_needCouple 1 = .ok (.iload_n 1, 1) := by decide +kernel
theorem dX7_needCouple_2 : decode cX7_needCouple 2 = .ok (.invokevirtual 387, 3) := by decide +kernel
theorem dX7_needCouple_5 : decode cX7_needCouple 5 = .ok (.ifCond .eq 16, 3) := by decide +kernel
theorem dX7_needCouple_8 : decode cX7_needCouple 8 = .ok (.aload_n 0, 1) := by decide +kernel
theorem dX7_needCouple_9 : decode cX7_needCouple 9 = .ok (.iload_n 2, 1) := by decide +kernel
theorem dX7_needCouple_10 : decode cX7_needCouple 10 = .ok (.invokevirtual 387, 3) := by decide +kernel
theorem dX7_needCouple_13 : decode cX7_needCouple 13 = .ok (.ifCond .eq 8, 3) := by decide +kernel
theorem dX7_needCouple_16 : decode cX7_needCouple 16 = .ok (.iload_n 1, 1) := by decide +kernel
theorem dX7_needCouple_17 : decode cX7_needCouple 17 = .ok (.iload_n 2, 1) := by decide +kernel
theorem dX7_needCouple_18 : decode cX7_needCouple 18 = .ok (.if_icmp .ne 14, 3) := by decide +kernel
theorem dX7_needCouple_21 : decode cX7_needCouple 21 = .ok (.new 137, 3) := by decide +kernel
theorem dX7_needCouple_24 : decode cX7_needCouple 24 = .ok (.dup, 1) := by decide +kernel
theorem dX7_needCouple_25 : decode cX7_needCouple 25 = .ok (.ldc_w 392, 3) := by decide +kernel
theorem dX7_needCouple_28 : decode cX7_needCouple 28 = .ok (.invokespecial 141, 3) := by decide +kernel
theorem dX7_needCouple_31 : decode cX7_needCouple 31 = .ok (.athrow, 1) := by decide +kernel
theorem dX7_needCouple_32 : decode cX7_needCouple 32 = .ok (.return_, 1) := by decide +kernel
theorem dX7_needHalf_0 : decode cX7_needHalf 0 = .ok (.iload_n 1, 1) := by decide +kernel
theorem dX7_needHalf_1 : decode cX7_needHalf 1 = .ok (.ifCond .lt 14, 3) := by decide +kernel
theorem dX7_needHalf_4 : decode cX7_needHalf 4 = .ok (.iload_n 1, 1) := by decide +kernel
theorem dX7_needHalf_5 : decode cX7_needHalf 5 = .ok (.aload_n 0, 1) := by decide +kernel
theorem dX7_needHalf_6 : decode cX7_needHalf 6 = .ok (.getfield 19, 3) := by decide +kernel
theorem dX7_needHalf_9 : decode cX7_needHalf 9 = .ok (.invokevirtual 111, 3) := by decide +kernel
theorem dX7_needHalf_12 : decode cX7_needHalf 12 = .ok (.if_icmp .lt 14, 3) := by decide +kernel
theorem dX7_needHalf_15 : decode cX7_needHalf 15 = .ok (.new 137, 3) := by decide +kernel
theorem dX7_needHalf_18 : decode cX7_needHalf 18 = .ok (.dup, 1) := by decide +kernel
theorem dX7_needHalf_19 : decode cX7_needHalf 19 = .ok (.ldc_w 394, 3) := by decide +kernel
theorem dX7_needHalf_22 : decode cX7_needHalf 22 = .ok (.invokespecial 141, 3) := by decide +kernel
theorem dX7_needHalf_25 : decode cX7_needHalf 25 = .ok (.athrow, 1) := by decide +kernel
theorem dX7_needHalf_26 : decode cX7_needHalf 26 = .ok (.return_, 1) := by decide +kernel
theorem dX7_needWhat_0 : decode cX7_needWhat 0 = .ok (.iload_n 0, 1) := by decide +kernel
theorem dX7_needWhat_1 : decode cX7_needWhat 1 = .ok (.ifCond .lt 8, 3) := by decide +kernel
theorem dX7_needWhat_4 : decode cX7_needWhat 4 = .ok (.iload_n 0, 1) := by decide +kernel
theorem dX7_needWhat_5 : decode cX7_needWhat 5 = .ok (.iload_n 1, 1) := by decide +kernel
theorem dX7_needWhat_6 : decode cX7_needWhat 6 = .ok (.if_icmp .le 14, 3) := by decide +kernel
theorem dX7_needWhat_9 : decode cX7_needWhat 9 = .ok (.new 137, 3) := by decide +kernel
theorem dX7_needWhat_12 : decode cX7_needWhat 12 = .ok (.dup, 1) := by decide +kernel
theorem dX7_needWhat_13 : decode cX7_needWhat 13 = .ok (.ldc_w 396, 3) := by decide +kernel
theorem dX7_needWhat_16 : decode cX7_needWhat 16 = .ok (.invokespecial 141, 3) := by decide +kernel
theorem dX7_needWhat_19 : decode cX7_needWhat 19 = .ok (.athrow, 1) := by decide +kernel
theorem dX7_needWhat_20 : decode cX7_needWhat 20 = .ok (.return_, 1) := by decide +kernel
theorem dX7_needDay_0 : decode cX7_needDay 0 = .ok (.iload_n 0, 1) := by decide +kernel
theorem dX7_needDay_1 : decode cX7_needDay 1 = .ok (.invokestatic 343, 3) := by decide +kernel
theorem dX7_needDay_4 : decode cX7_needDay 4 = .ok (.ifCond .ne 14, 3) := by decide +kernel
theorem dX7_needDay_7 : decode cX7_needDay 7 = .ok (.new 346, 3) := by decide +kernel
theorem dX7_needDay_10 : decode cX7_needDay 10 = .ok (.dup, 1) := by decide +kernel
theorem dX7_needDay_11 : decode cX7_needDay 11 = .ok (.ldc_w 398, 3) := by decide +kernel
theorem dX7_needDay_14 : decode cX7_needDay 14 = .ok (.invokespecial 350, 3) := by decide +kernel
theorem dX7_needDay_17 : decode cX7_needDay 17 = .ok (.athrow, 1) := by decide +kernel
theorem dX7_needDay_18 : decode cX7_needDay 18 = .ok (.return_, 1) := by decide +kernel
theorem dX7_needBytes_0 : decode cX7_needBytes 0 = .ok (.iload_n 1, 1) := by decide +kernel
theorem dX7_needBytes_1 : decode cX7_needBytes 1 = .ok (.ifCond .lt 14, 3) := by decide +kernel
theorem dX7_needBytes_4 : decode cX7_needBytes 4 = .ok (.iload_n 1, 1) := by decide +kernel
theorem dX7_needBytes_5 : decode cX7_needBytes 5 = .ok (.aload_n 0, 1) := by decide +kernel
theorem dX7_needBytes_6 : decode cX7_needBytes 6 = .ok (.getfield 10, 3) := by decide +kernel
theorem dX7_needBytes_9 : decode cX7_needBytes 9 = .ok (.getfield 81, 3) := by decide +kernel
theorem dX7_needBytes_12 : decode cX7_needBytes 12 = .ok (.if_icmp .le 14, 3) := by decide +kernel
theorem dX7_needBytes_15 : decode cX7_needBytes 15 = .ok (.new 346, 3) := by decide +kernel
theorem dX7_needBytes_18 : decode cX7_needBytes 18 = .ok (.dup, 1) := by decide +kernel
theorem dX7_needBytes_19 : decode cX7_needBytes 19 = .ok (.ldc_w 400, 3) := by decide +kernel
theorem dX7_needBytes_22 : decode cX7_needBytes 22 = .ok (.invokespecial 350, 3) := by decide +kernel
theorem dX7_needBytes_25 : decode cX7_needBytes 25 = .ok (.athrow, 1) := by decide +kernel
theorem dX7_needBytes_26 : decode cX7_needBytes 26 = .ok (.return_, 1) := by decide +kernel
theorem dX7_needFiling_0 : decode cX7_needFiling 0 = .ok (.aload_n 0, 1) := by decide +kernel
theorem dX7_needFiling_1 : decode cX7_needFiling 1 = .ok (.iload_n 1, 1) := by decide +kernel
theorem dX7_needFiling_2 : decode cX7_needFiling 2 = .ok (.invokevirtual 88, 3) := by decide +kernel
theorem dX7_needFiling_5 : decode cX7_needFiling 5 = .ok (.iload_n 3, 1) := by decide +kernel
theorem dX7_needFiling_6 : decode cX7_needFiling 6 = .ok (.invokestatic 228, 3) := by decide +kernel
theorem dX7_needFiling_9 : decode cX7_needFiling 9 = .ok (.iload_n 2, 1) := by decide +kernel
theorem dX7_needFiling_10 : decode cX7_needFiling 10 = .ok (.ifCond .lt 10, 3) := by decide +kernel
theorem dX7_needFiling_13 : decode cX7_needFiling 13 = .ok (.iload_n 2, 1) := by decide +kernel
theorem dX7_needFiling_14 : decode cX7_needFiling 14 = .ok (.sipush 1023, 3) := by decide +kernel
theorem dX7_needFiling_17 : decode cX7_needFiling 17 = .ok (.if_icmp .le 13, 3) := by decide +kernel
theorem dX7_needFiling_20 : decode cX7_needFiling 20 = .ok (.new 346, 3) := by decide +kernel
theorem dX7_needFiling_23 : decode cX7_needFiling 23 = .ok (.dup, 1) := by decide +kernel
theorem dX7_needFiling_24 : decode cX7_needFiling 24 = .ok (.ldc 220, 2) := by decide +kernel
theorem dX7_needFiling_26 : decode cX7_needFiling 26 = .ok (.invokespecial 350, 3) := by decide +kernel
theorem dX7_needFiling_29 : decode cX7_needFiling 29 = .ok (.athrow, 1) := by decide +kernel
theorem dX7_needFiling_30 : decode cX7_needFiling 30 = .ok (.return_, 1) := by decide +kernel
theorem dX7_likeness_0 : decode cX7_likeness 0 = .ok (.aload_n 0, 1) := by decide +kernel
theorem dX7_likeness_1 : decode cX7_likeness 1 = .ok (.getfield 78, 3) := by decide +kernel
theorem dX7_likeness_4 : decode cX7_likeness 4 = .ok (.iconst 3, 1) := by decide +kernel
theorem dX7_likeness_5 : decode cX7_likeness 5 = .ok (.if_icmp .ne 14, 3) := by decide +kernel
theorem dX7_likeness_8 : decode cX7_likeness 8 = .ok (.aload_n 0, 1) := by decide +kernel
theorem dX7_likeness_9 : decode cX7_likeness 9 = .ok (.getfield 42, 3) := by decide +kernel
theorem dX7_likeness_12 : decode cX7_likeness 12 = .ok (.aload_n 0, 1) := by decide +kernel
theorem dX7_likeness_13 : decode cX7_likeness 13 = .ok (.getfield 19, 3) := by decide +kernel
theorem dX7_likeness_16 : decode cX7_likeness 16 = .ok (.invokevirtual 402, 3) := by decide +kernel
theorem dX7_likeness_19 : decode cX7_likeness 19 = .ok (.aload_n 0, 1) := by decide +kernel
theorem dX7_likeness_20 : decode cX7_likeness 20 = .ok (.getfield 78, 3) := by decide +kernel
theorem dX7_likeness_23 : decode cX7_likeness 23 = .ok (.iconst 2, 1) := by decide +kernel
theorem dX7_likeness_24 : decode cX7_likeness 24 = .ok (.if_icmp .lt 14, 3) := by decide +kernel
theorem dX7_likeness_27 : decode cX7_likeness 27 = .ok (.aload_n 0, 1) := by decide +kernel
theorem dX7_likeness_28 : decode cX7_likeness 28 = .ok (.getfield 42, 3) := by decide +kernel
theorem dX7_likeness_31 : decode cX7_likeness 31 = .ok (.aload_n 0, 1) := by decide +kernel
theorem dX7_likeness_32 : decode cX7_likeness 32 = .ok (.getfield 19, 3) := by decide +kernel
theorem dX7_likeness_35 : decode cX7_likeness 35 = .ok (.invokevirtual 405, 3) := by decide +kernel
theorem dX7_likeness_38 : decode cX7_likeness 38 = .ok (.aload_n 0, 1) := by decide +kernel
theorem dX7_likeness_39 : decode cX7_likeness 39 = .ok (.getfield 78, 3) := by decide +kernel
theorem dX7_likeness_42 : decode cX7_likeness 42 = .ok (.ifCond .eq 14, 3) := by decide +kernel
theorem dX7_likeness_45 : decode cX7_likeness 45 = .ok (.aload_n 0, 1) := by decide +kernel
theorem dX7_likeness_46 : decode cX7_likeness 46 = .ok (.getfield 42, 3) := by decide +kernel
theorem dX7_likeness_49 : decode cX7_likeness 49 = .ok (.aload_n 0, 1) := by decide +kernel
theorem dX7_likeness_50 : decode cX7_likeness 50 = .ok (.getfield 19, 3) := by decide +kernel
theorem dX7_likeness_53 : decode cX7_likeness 53 = .ok (.invokevirtual 307, 3) := by decide +kernel
theorem dX7_likeness_56 : decode cX7_likeness 56 = .ok (.aload_n 0, 1) := by decide +kernel
theorem dX7_likeness_57 : decode cX7_likeness 57 = .ok (.iconst 0, 1) := by decide +kernel
theorem dX7_likeness_58 : decode cX7_likeness 58 = .ok (.putfield 78, 3) := by decide +kernel
theorem dX7_likeness_61 : decode cX7_likeness 61 = .ok (.aload_n 0, 1) := by decide +kernel
theorem dX7_likeness_62 : decode cX7_likeness 62 = .ok (.getfield 42, 3) := by decide +kernel
theorem dX7_likeness_65 : decode cX7_likeness 65 = .ok (.areturn, 1) := by decide +kernel
theorem dX7_isShared_0 : decode cX7_isShared 0 = .ok (.iconst 0, 1) := by decide +kernel
theorem dX7_isShared_1 : decode cX7_isShared 1 = .ok (.istore_n 3, 1) := by decide +kernel
theorem dX7_isShared_2 : decode cX7_isShared 2 = .ok (.iload_n 3, 1) := by decide +kernel
theorem dX7_isShared_3 : decode cX7_isShared 3 = .ok (.aload_n 0, 1) := by decide +kernel
theorem dX7_isShared_4 : decode cX7_isShared 4 = .ok (.getfield 19, 3) := by decide +kernel
theorem dX7_isShared_7 : decode cX7_isShared 7 = .ok (.getfield 105, 3) := by decide +kernel
theorem dX7_isShared_10 : decode cX7_isShared 10 = .ok (.if_icmp .ge 67, 3) := by decide +kernel
theorem dX7_isShared_13 : decode cX7_isShared 13 = .ok (.iconst 0, 1) := by decide +kernel
theorem dX7_isShared_14 : decode cX7_isShared 14 = .ok (.istore 4, 2) := by decide +kernel
theorem dX7_isShared_16 : decode cX7_isShared 16 = .ok (.iload 4, 2) := by decide +kernel
theorem dX7_isShared_18 : decode cX7_isShared 18 = .ok (.aload_n 0, 1) := by decide +kernel
theorem dX7_isShared_19 : decode cX7_isShared 19 = .ok (.getfield 19, 3) := by decide +kernel
theorem dX7_isShared_22 : decode cX7_isShared 22 = .ok (.getfield 105, 3) := by decide +kernel
theorem dX7_isShared_25 : decode cX7_isShared 25 = .ok (.if_icmp .ge 46, 3) := by decide +kernel
theorem dX7_isShared_28 : decode cX7_isShared 28 = .ok (.iload 4, 2) := by decide +kernel
theorem dX7_isShared_30 : decode cX7_isShared 30 = .ok (.aload_n 1, 1) := by decide +kernel
theorem dX7_isShared_31 : decode cX7_isShared 31 = .ok (.getfield 134, 3) := by decide +kernel
theorem dX7_isShared_34 : decode cX7_isShared 34 = .ok (.iload_n 3, 1) := by decide +kernel
theorem dX7_isShared_35 : decode cX7_isShared 35 = .ok (.iaload, 1) := by decide +kernel
theorem dX7_isShared_36 : decode cX7_isShared 36 = .ok (.invokestatic 275, 3) := by decide +kernel
theorem dX7_isShared_39 : decode cX7_isShared 39 = .ok (.ifCond .eq 26, 3) := by decide +kernel
theorem dX7_isShared_42 : decode cX7_isShared 42 = .ok (.aload_n 0, 1) := by decide +kernel
theorem dX7_isShared_43 : decode cX7_isShared 43 = .ok (.iload_n 3, 1) := by decide +kernel
theorem dX7_isShared_44 : decode cX7_isShared 44 = .ok (.iload_n 2, 1) := by decide +kernel
theorem dX7_isShared_45 : decode cX7_isShared 45 = .ok (.invokevirtual 408, 3) := by decide +kernel
theorem dX7_isShared_48 : decode cX7_isShared 48 = .ok (.iconst 1, 1) := by decide +kernel
theorem dX7_isShared_49 : decode cX7_isShared 49 = .ok (.if_icmp .ne 16, 3) := by decide +kernel
theorem dX7_isShared_52 : decode cX7_isShared 52 = .ok (.aload_n 0, 1) := by decide +kernel
theorem dX7_isShared_53 : decode cX7_isShared 53 = .ok (.iload 4, 2) := by decide +kernel
theorem dX7_isShared_55 : decode cX7_isShared 55 = .ok (.iload_n 2, 1) := by decide +kernel
theorem dX7_isShared_56 : decode cX7_isShared 56 = .ok (.invokevirtual 408, 3) := by decide +kernel
theorem dX7_isShared_59 : decode cX7_isShared 59 = .ok (.iconst 2, 1) := by decide +kernel
theorem dX7_isShared_60 : decode cX7_isShared 60 = .ok (.if_icmp .ne 5, 3) := by decide +kernel
theorem dX7_isShared_63 : decode cX7_isShared 63 = .ok (.iconst 1, 1) := by decide +kernel
theorem dX7_isShared_64 : decode cX7_isShared 64 = .ok (.ireturn, 1) := by decide +kernel
theorem dX7_isShared_65 : decode cX7_isShared 65 = .ok (.iinc 4 1, 3) := by decide +kernel
theorem dX7_isShared_68 : decode cX7_isShared 68 = .ok (.goto (-52), 3) := by decide +kernel
theorem dX7_isShared_71 : decode cX7_isShared 71 = .ok (.iinc 3 1, 3) := by decide +kernel
theorem dX7_isShared_74 : decode cX7_isShared 74 = .ok (.goto (-72), 3) := by decide +kernel
theorem dX7_isShared_77 : decode cX7_isShared 77 = .ok (.iconst 0, 1) := by decide +kernel
theorem dX7_isShared_78 : decode cX7_isShared 78 = .ok (.ireturn, 1) := by decide +kernel
theorem dX7_halvesHeld_0 : decode cX7_halvesHeld 0 = .ok (.aload_n 0, 1) := by decide +kernel
theorem dX7_halvesHeld_1 : decode cX7_halvesHeld 1 = .ok (.getfield 52, 3) := by decide +kernel
theorem dX7_halvesHeld_4 : decode cX7_halvesHeld 4 = .ok (.getfield 262, 3) := by decide +kernel
theorem dX7_halvesHeld_7 : decode cX7_halvesHeld 7 = .ok (.iload_n 1, 1) := by decide +kernel
theorem dX7_halvesHeld_8 : decode cX7_halvesHeld 8 = .ok (.iaload, 1) := by decide +kernel
theorem dX7_halvesHeld_9 : decode cX7_halvesHeld 9 = .ok (.iconst 2, 1) := by decide +kernel
theorem dX7_halvesHeld_10 : decode cX7_halvesHeld 10 = .ok (.iload_n 2, 1) := by decide +kernel
theorem dX7_halvesHeld_11 : decode cX7_halvesHeld 11 = .ok (.imul, 1) := by decide +kernel
theorem dX7_halvesHeld_12 : decode cX7_halvesHeld 12 = .ok (.ishr, 1) := by decide +kernel
theorem dX7_halvesHeld_13 : decode cX7_halvesHeld 13 = .ok (.iconst 3, 1) := by decide +kernel
theorem dX7_halvesHeld_14 : decode cX7_halvesHeld 14 = .ok (.iand, 1) := by decide +kernel
theorem dX7_halvesHeld_15 : decode cX7_halvesHeld 15 = .ok (.ireturn, 1) := by decide +kernel
theorem dX7_imagine_0 : decode cX7_imagine 0 = .ok (.aload_n 0, 1) := by decide +kernel
theorem dX7_imagine_1 : decode cX7_imagine 1 = .ok (.getfield 23, 3) := by decide +kernel
theorem dX7_imagine_4 : decode cX7_imagine 4 = .ok (.aload_n 0, 1) := by decide +kernel
theorem dX7_imagine_5 : decode cX7_imagine 5 = .ok (.getfield 19, 3) := by decide +kernel
theorem dX7_imagine_8 : decode cX7_imagine 8 = .ok (.invokevirtual 98, 3) := by decide +kernel
theorem dX7_imagine_11 : decode cX7_imagine 11 = .ok (.aload_n 0, 1) := by decide +kernel
theorem dX7_imagine_12 : decode cX7_imagine 12 = .ok (.getfield 46, 3) := by decide +kernel
theorem dX7_imagine_15 : decode cX7_imagine 15 = .ok (.aload_n 1, 1) := by decide +kernel
theorem dX7_imagine_16 : decode cX7_imagine 16 = .ok (.invokevirtual 316, 3) := by decide +kernel
theorem dX7_imagine_19 : decode cX7_imagine 19 = .ok (.aload_n 0, 1) := by decide +kernel
theorem dX7_imagine_20 : decode cX7_imagine 20 = .ok (.getfield 23, 3) := by decide +kernel
theorem dX7_imagine_23 : decode cX7_imagine 23 = .ok (.aload_n 0, 1) := by decide +kernel
theorem dX7_imagine_24 : decode cX7_imagine 24 = .ok (.getfield 10, 3) := by decide +kernel
theorem dX7_imagine_27 : decode cX7_imagine 27 = .ok (.getfield 336, 3) := by decide +kernel
theorem dX7_imagine_30 : decode cX7_imagine 30 = .ok (.iconst 0, 1) := by decide +kernel
theorem dX7_imagine_31 : decode cX7_imagine 31 = .ok (.iload_n 2, 1) := by decide +kernel
theorem dX7_imagine_32 : decode cX7_imagine 32 = .ok (.iload 4, 2) := by decide +kernel
theorem dX7_imagine_34 : decode cX7_imagine 34 = .ok (.invokevirtual 339, 3) := by decide +kernel
theorem dX7_imagine_37 : decode cX7_imagine 37 = .ok (.istore 5, 2) := by decide +kernel
theorem dX7_imagine_39 : decode cX7_imagine 39 = .ok (.aload_n 0, 1) := by decide +kernel
theorem dX7_imagine_40 : decode cX7_imagine 40 = .ok (.getfield 23, 3) := by decide +kernel
theorem dX7_imagine_43 : decode cX7_imagine 43 = .ok (.getfield 150, 3) := by decide +kernel
theorem dX7_imagine_46 : decode cX7_imagine 46 = .ok (.iload 5, 2) := by decide +kernel
theorem dX7_imagine_48 : decode cX7_imagine 48 = .ok (.iload_n 3, 1) := by decide +kernel
theorem dX7_imagine_49 : decode cX7_imagine 49 = .ok (.iastore, 1) := by decide +kernel
theorem dX7_imagine_50 : decode cX7_imagine 50 = .ok (.aload_n 0, 1) := by decide +kernel
theorem dX7_imagine_51 : decode cX7_imagine 51 = .ok (.getfield 46, 3) := by decide +kernel
theorem dX7_imagine_54 : decode cX7_imagine 54 = .ok (.aload_n 0, 1) := by decide +kernel
theorem dX7_imagine_55 : decode cX7_imagine 55 = .ok (.getfield 23, 3) := by decide +kernel
theorem dX7_imagine_58 : decode cX7_imagine 58 = .ok (.iload 5, 2) := by decide +kernel
theorem dX7_imagine_60 : decode cX7_imagine 60 = .ok (.invokevirtual 411, 3) := by decide +kernel
theorem dX7_imagine_63 : decode cX7_imagine 63 = .ok (.iconst 0, 1) := by decide +kernel
theorem dX7_imagine_64 : decode cX7_imagine 64 = .ok (.istore 6, 2) := by decide +kernel
theorem dX7_imagine_66 : decode cX7_imagine 66 = .ok (.iload 6, 2) := by decide +kernel
theorem dX7_imagine_68 : decode cX7_imagine 68 = .ok (.iload 5, 2) := by decide +kernel
theorem dX7_imagine_70 : decode cX7_imagine 70 = .ok (.if_icmp .ge 24, 3) := by decide +kernel
theorem dX7_imagine_73 : decode cX7_imagine 73 = .ok (.aload_n 0, 1) := by decide +kernel
theorem dX7_imagine_74 : decode cX7_imagine 74 = .ok (.getfield 46, 3) := by decide +kernel
theorem dX7_imagine_77 : decode cX7_imagine 77 = .ok (.aload_n 0, 1) := by decide +kernel
theorem dX7_imagine_78 : decode cX7_imagine 78 = .ok (.getfield 23, 3) := by decide +kernel
theorem dX7_imagine_81 : decode cX7_imagine 81 = .ok (.iload 5, 2) := by decide +kernel
theorem dX7_imagine_83 : decode cX7_imagine 83 = .ok (.iload 6, 2) := by decide +kernel
theorem dX7_imagine_85 : decode cX7_imagine 85 = .ok (.invokevirtual 414, 3) := by decide +kernel
theorem dX7_imagine_88 : decode cX7_imagine 88 = .ok (.iinc 6 1, 3) := by decide +kernel
theorem dX7_imagine_91 : decode cX7_imagine 91 = .ok (.goto (-25), 3) := by decide +kernel
theorem dX7_imagine_94 : decode cX7_imagine 94 = .ok (.aload_n 0, 1) := by decide +kernel
theorem dX7_imagine_95 : decode cX7_imagine 95 = .ok (.getfield 46, 3) := by decide +kernel
theorem dX7_imagine_98 : decode cX7_imagine 98 = .ok (.aload_n 0, 1) := by decide +kernel
theorem dX7_imagine_99 : decode cX7_imagine 99 = .ok (.getfield 23, 3) := by decide +kernel
theorem dX7_imagine_102 : decode cX7_imagine 102 = .ok (.iload 5, 2) := by decide +kernel
theorem dX7_imagine_104 : decode cX7_imagine 104 = .ok (.invokevirtual 304, 3) := by decide +kernel
theorem dX7_imagine_107 : decode cX7_imagine 107 = .ok (.aload_n 0, 1) := by decide +kernel
theorem dX7_imagine_108 : decode cX7_imagine 108 = .ok (.getfield 46, 3) := by decide +kernel
theorem dX7_imagine_111 : decode cX7_imagine 111 = .ok (.aload_n 0, 1) := by decide +kernel
theorem dX7_imagine_112 : decode cX7_imagine 112 = .ok (.getfield 23, 3) := by decide +kernel
theorem dX7_imagine_115 : decode cX7_imagine 115 = .ok (.invokevirtual 307, 3) := by decide +kernel
theorem dX7_imagine_118 : decode cX7_imagine 118 = .ok (.iload 5, 2) := by decide +kernel
theorem dX7_imagine_120 : decode cX7_imagine 120 = .ok (.ireturn, 1) := by decide +kernel
theorem dX7_wouldHold_0 : decode cX7_wouldHold 0 = .ok (.iconst 0, 1) := by decide +kernel
theorem dX7_wouldHold_1 : decode cX7_wouldHold 1 = .ok (.istore_n 3, 1) := by decide +kernel
theorem dX7_wouldHold_2 : decode cX7_wouldHold 2 = .ok (.iload_n 3, 1) := by decide +kernel
theorem dX7_wouldHold_3 : decode cX7_wouldHold 3 = .ok (.aload_n 0, 1) := by decide +kernel
theorem dX7_wouldHold_4 : decode cX7_wouldHold 4 = .ok (.getfield 23, 3) := by decide +kernel
theorem dX7_wouldHold_7 : decode cX7_wouldHold 7 = .ok (.invokevirtual 111, 3) := by decide +kernel
theorem dX7_wouldHold_10 : decode cX7_wouldHold 10 = .ok (.if_icmp .ge 49, 3) := by decide +kernel
theorem dX7_wouldHold_13 : decode cX7_wouldHold 13 = .ok (.iload_n 3, 1) := by decide +kernel
theorem dX7_wouldHold_14 : decode cX7_wouldHold 14 = .ok (.iload_n 2, 1) := by decide +kernel
theorem dX7_wouldHold_15 : decode cX7_wouldHold 15 = .ok (.invokestatic 275, 3) := by decide +kernel
theorem dX7_wouldHold_18 : decode cX7_wouldHold 18 = .ok (.ifCond .eq 35, 3) := by decide +kernel
theorem dX7_wouldHold_21 : decode cX7_wouldHold 21 = .ok (.aload_n 0, 1) := by decide +kernel
theorem dX7_wouldHold_22 : decode cX7_wouldHold 22 = .ok (.getfield 52, 3) := by decide +kernel
theorem dX7_wouldHold_25 : decode cX7_wouldHold 25 = .ok (.aload_n 0, 1) := by decide +kernel
theorem dX7_wouldHold_26 : decode cX7_wouldHold 26 = .ok (.getfield 23, 3) := by decide +kernel
theorem dX7_wouldHold_29 : decode cX7_wouldHold 29 = .ok (.aload_n 0, 1) := by decide +kernel
theorem dX7_wouldHold_30 : decode cX7_wouldHold 30 = .ok (.getfield 46, 3) := by decide +kernel
theorem dX7_wouldHold_33 : decode cX7_wouldHold 33 = .ok (.iload_n 3, 1) := by decide +kernel
theorem dX7_wouldHold_34 : decode cX7_wouldHold 34 = .ok (.invokevirtual 245, 3) := by decide +kernel
theorem dX7_wouldHold_37 : decode cX7_wouldHold 37 = .ok (.iload_n 1, 1) := by decide +kernel
theorem dX7_wouldHold_38 : decode cX7_wouldHold 38 = .ok (.aload_n 0, 1) := by decide +kernel
theorem dX7_wouldHold_39 : decode cX7_wouldHold 39 = .ok (.getfield 52, 3) := by decide +kernel
theorem dX7_wouldHold_42 : decode cX7_wouldHold 42 = .ok (.getfield 252, 3) := by decide +kernel
theorem dX7_wouldHold_45 : decode cX7_wouldHold 45 = .ok (.invokestatic 275, 3) := by decide +kernel
theorem dX7_wouldHold_48 : decode cX7_wouldHold 48 = .ok (.ifCond .ne 5, 3) := by decide +kernel
theorem dX7_wouldHold_51 : decode cX7_wouldHold 51 = .ok (.iconst 0, 1) := by decide +kernel
theorem dX7_wouldHold_52 : decode cX7_wouldHold 52 = .ok (.ireturn, 1) := by decide +kernel
theorem dX7_wouldHold_53 : decode cX7_wouldHold 53 = .ok (.iinc 3 1, 3) := by decide +kernel
theorem dX7_wouldHold_56 : decode cX7_wouldHold 56 = .ok (.goto (-54), 3) := by decide +kernel
theorem dX7_wouldHold_59 : decode cX7_wouldHold 59 = .ok (.iconst 1, 1) := by decide +kernel
theorem dX7_wouldHold_60 : decode cX7_wouldHold 60 = .ok (.ireturn, 1) := by decide +kernel
theorem dX7_firstFreeDay_0 : decode cX7_firstFreeDay 0 = .ok (.aload_n 0, 1) := by decide +kernel
theorem dX7_firstFreeDay_1 : decode cX7_firstFreeDay 1 = .ok (.getfield 46, 3) := by decide +kernel
theorem dX7_firstFreeDay_4 : decode cX7_firstFreeDay 4 = .ok (.aload_n 0, 1) := by decide +kernel
theorem dX7_firstFreeDay_5 : decode cX7_firstFreeDay 5 = .ok (.getfield 23, 3) := by decide +kernel
theorem dX7_firstFreeDay_8 : decode cX7_firstFreeDay 8 = .ok (.iload_n 1, 1) := by decide +kernel
theorem dX7_firstFreeDay_9 : decode cX7_firstFreeDay 9 = .ok (.invokevirtual 238, 3) := by decide +kernel
theorem dX7_firstFreeDay_12 : decode cX7_firstFreeDay 12 = .ok (.istore_n 3, 1) := by decide +kernel
theorem dX7_firstFreeDay_13 : decode cX7_firstFreeDay 13 = .ok (.iload_n 2, 1) := by decide +kernel
theorem dX7_firstFreeDay_14 : decode cX7_firstFreeDay 14 = .ok (.istore 4, 2) := by decide +kernel
theorem dX7_firstFreeDay_16 : decode cX7_firstFreeDay 16 = .ok (.iconst 0, 1) := by decide +kernel
theorem dX7_firstFreeDay_17 : decode cX7_firstFreeDay 17 = .ok (.istore 5, 2) := by decide +kernel
theorem dX7_firstFreeDay_19 : decode cX7_firstFreeDay 19 = .ok (.iconst 0, 1) := by decide +kernel
theorem dX7_firstFreeDay_20 : decode cX7_firstFreeDay 20 = .ok (.istore 6, 2) := by decide +kernel
theorem dX7_firstFreeDay_22 : decode cX7_firstFreeDay 22 = .ok (.iconst 0, 1) := by decide +kernel
theorem dX7_firstFreeDay_23 : decode cX7_firstFreeDay 23 = .ok (.istore 7, 2) := by decide +kernel
theorem dX7_firstFreeDay_25 : decode cX7_firstFreeDay 25 = .ok (.iload 7, 2) := by decide +kernel
theorem dX7_firstFreeDay_27 : decode cX7_firstFreeDay 27 = .ok (.ldc_w 418, 3) := by decide +kernel
theorem dX7_firstFreeDay_30 : decode cX7_firstFreeDay 30 = .ok (.if_icmp .ge 137, 3) := by decide +kernel
theorem dX7_firstFreeDay_33 : decode cX7_firstFreeDay 33 = .ok (.iload 4, 2) := by decide +kernel
theorem dX7_firstFreeDay_35 : decode cX7_firstFreeDay 35 = .ok (.sipush 9999, 3) := by decide +kernel
theorem dX7_firstFreeDay_38 : decode cX7_firstFreeDay 38 = .ok (.if_icmp .gt 129, 3) := by decide +kernel
theorem dX7_firstFreeDay_41 : decode cX7_firstFreeDay 41 = .ok (.aload_n 0, 1) := by decide +kernel
theorem dX7_firstFreeDay_42 : decode cX7_firstFreeDay 42 = .ok (.getfield 23, 3) := by decide +kernel
theorem dX7_firstFreeDay_45 : decode cX7_firstFreeDay 45 = .ok (.getfield 147, 3) := by decide +kernel
theorem dX7_firstFreeDay_48 : decode cX7_firstFreeDay 48 = .ok (.iload_n 1, 1) := by decide +kernel
theorem dX7_firstFreeDay_49 : decode cX7_firstFreeDay 49 = .ok (.iload 4, 2) := by decide +kernel
theorem dX7_firstFreeDay_51 : decode cX7_firstFreeDay 51 = .ok (.iastore, 1) := by decide +kernel
theorem dX7_firstFreeDay_52 : decode cX7_firstFreeDay 52 = .ok (.aload_n 0, 1) := by decide +kernel
theorem dX7_firstFreeDay_53 : decode cX7_firstFreeDay 53 = .ok (.getfield 52, 3) := by decide +kernel
theorem dX7_firstFreeDay_56 : decode cX7_firstFreeDay 56 = .ok (.aload_n 0, 1) := by decide +kernel
theorem dX7_firstFreeDay_57 : decode cX7_firstFreeDay 57 = .ok (.getfield 23, 3) := by decide +kernel
theorem dX7_firstFreeDay_60 : decode cX7_firstFreeDay 60 = .ok (.iload 5, 2) := by decide +kernel
theorem dX7_firstFreeDay_62 : decode cX7_firstFreeDay 62 = .ok (.iload 4, 2) := by decide +kernel
theorem dX7_firstFreeDay_64 : decode cX7_firstFreeDay 64 = .ok (.iload_n 3, 1) := by decide +kernel
theorem dX7_firstFreeDay_65 : decode cX7_firstFreeDay 65 = .ok (.invokevirtual 241, 3) := by decide +kernel
theorem dX7_firstFreeDay_68 : decode cX7_firstFreeDay 68 = .ok (.aload_n 0, 1) := by decide +kernel
theorem dX7_firstFreeDay_69 : decode cX7_firstFreeDay 69 = .ok (.getfield 52, 3) := by decide +kernel
theorem dX7_firstFreeDay_72 : decode cX7_firstFreeDay 72 = .ok (.aload_n 0, 1) := by decide +kernel
theorem dX7_firstFreeDay_73 : decode cX7_firstFreeDay 73 = .ok (.getfield 23, 3) := by decide +kernel
theorem dX7_firstFreeDay_76 : decode cX7_firstFreeDay 76 = .ok (.aload_n 0, 1) := by decide +kernel
theorem dX7_firstFreeDay_77 : decode cX7_firstFreeDay 77 = .ok (.getfield 46, 3) := by decide +kernel
theorem dX7_firstFreeDay_80 : decode cX7_firstFreeDay 80 = .ok (.iload 5, 2) := by decide +kernel
theorem dX7_firstFreeDay_82 : decode cX7_firstFreeDay 82 = .ok (.invokevirtual 245, 3) := by decide +kernel
theorem dX7_firstFreeDay_85 : decode cX7_firstFreeDay 85 = .ok (.iload_n 1, 1) := by decide +kernel
theorem dX7_firstFreeDay_86 : decode cX7_firstFreeDay 86 = .ok (.aload_n 0, 1) := by decide +kernel
theorem dX7_firstFreeDay_87 : decode cX7_firstFreeDay 87 = .ok (.getfield 52, 3) := by decide +kernel
theorem dX7_firstFreeDay_90 : decode cX7_firstFreeDay 90 = .ok (.getfield 252, 3) := by decide +kernel
theorem dX7_firstFreeDay_93 : decode cX7_firstFreeDay 93 = .ok (.invokestatic 275, 3) := by decide +kernel
theorem dX7_firstFreeDay_96 : decode cX7_firstFreeDay 96 = .ok (.ifCond .eq 33, 3) := by decide +kernel
theorem dX7_firstFreeDay_99 : decode cX7_firstFreeDay 99 = .ok (.iinc 6 1, 3) := by decide +kernel
theorem dX7_firstFreeDay_102 : decode cX7_firstFreeDay 102 = .ok (.iload 5, 2) := by decide +kernel
theorem dX7_firstFreeDay_104 : decode cX7_firstFreeDay 104 = .ok (.iconst 1, 1) := by decide +kernel
theorem dX7_firstFreeDay_105 : decode cX7_firstFreeDay 105 = .ok (.iadd, 1) := by decide +kernel
theorem dX7_firstFreeDay_106 : decode cX7_firstFreeDay 106 = .ok (.aload_n 0, 1) := by decide +kernel
theorem dX7_firstFreeDay_107 : decode cX7_firstFreeDay 107 = .ok (.getfield 23, 3) := by decide +kernel
theorem dX7_firstFreeDay_110 : decode cX7_firstFreeDay 110 = .ok (.invokevirtual 111, 3) := by decide +kernel
theorem dX7_firstFreeDay_113 : decode cX7_firstFreeDay 113 = .ok (.if_icmp .ge 10, 3) := by decide +kernel
theorem dX7_firstFreeDay_116 : decode cX7_firstFreeDay 116 = .ok (.iload 5, 2) := by decide +kernel
theorem dX7_firstFreeDay_118 : decode cX7_firstFreeDay 118 = .ok (.iconst 1, 1) := by decide +kernel
theorem dX7_firstFreeDay_119 : decode cX7_firstFreeDay 119 = .ok (.iadd, 1) := by decide +kernel
theorem dX7_firstFreeDay_120 : decode cX7_firstFreeDay 120 = .ok (.goto 4, 3) := by decide +kernel
theorem dX7_firstFreeDay_123 : decode cX7_firstFreeDay 123 = .ok (.iconst 0, 1) := by decide +kernel
theorem dX7_firstFreeDay_124 : decode cX7_firstFreeDay 124 = .ok (.istore 5, 2) := by decide +kernel
theorem dX7_firstFreeDay_126 : decode cX7_firstFreeDay 126 = .ok (.goto 20, 3) := by decide +kernel
theorem dX7_firstFreeDay_129 : decode cX7_firstFreeDay 129 = .ok (.iconst 0, 1) := by decide +kernel
theorem dX7_firstFreeDay_130 : decode cX7_firstFreeDay 130 = .ok (.istore 6, 2) := by decide +kernel
theorem dX7_firstFreeDay_132 : decode cX7_firstFreeDay 132 = .ok (.aload_n 0, 1) := by decide +kernel
theorem dX7_firstFreeDay_133 : decode cX7_firstFreeDay 133 = .ok (.getfield 23, 3) := by decide +kernel
theorem dX7_firstFreeDay_136 : decode cX7_firstFreeDay 136 = .ok (.iload 5, 2) := by decide +kernel
theorem dX7_firstFreeDay_138 : decode cX7_firstFreeDay 138 = .ok (.iload 4, 2) := by decide +kernel
theorem dX7_firstFreeDay_140 : decode cX7_firstFreeDay 140 = .ok (.iload_n 3, 1) := by decide +kernel
theorem dX7_firstFreeDay_141 : decode cX7_firstFreeDay 141 = .ok (.invokevirtual 279, 3) := by decide +kernel
theorem dX7_firstFreeDay_144 : decode cX7_firstFreeDay 144 = .ok (.istore 4, 2) := by decide +kernel
theorem dX7_firstFreeDay_146 : decode cX7_firstFreeDay 146 = .ok (.iload 6, 2) := by decide +kernel
theorem dX7_firstFreeDay_148 : decode cX7_firstFreeDay 148 = .ok (.aload_n 0, 1) := by decide +kernel
theorem dX7_firstFreeDay_149 : decode cX7_firstFreeDay 149 = .ok (.getfield 23, 3) := by decide +kernel
theorem dX7_firstFreeDay_152 : decode cX7_firstFreeDay 152 = .ok (.invokevirtual 111, 3) := by decide +kernel
theorem dX7_firstFreeDay_155 : decode cX7_firstFreeDay 155 = .ok (.if_icmp .ne 6, 3) := by decide +kernel
theorem dX7_firstFreeDay_158 : decode cX7_firstFreeDay 158 = .ok (.iload 4, 2) := by decide +kernel
theorem dX7_firstFreeDay_160 : decode cX7_firstFreeDay 160 = .ok (.ireturn, 1) := by decide +kernel
theorem dX7_firstFreeDay_161 : decode cX7_firstFreeDay 161 = .ok (.iinc 7 1, 3) := by decide +kernel
theorem dX7_firstFreeDay_164 : decode cX7_firstFreeDay 164 = .ok (.goto (-139), 3) := by decide +kernel
theorem dX7_firstFreeDay_167 : decode cX7_firstFreeDay 167 = .ok (.iconst (-1), 1) := by decide +kernel
theorem dX7_firstFreeDay_168 : decode cX7_firstFreeDay 168 = .ok (.ireturn, 1) := by decide +kernel
theorem dX7_letterAt_0 : decode cX7_letterAt 0 = .ok (.iload_n 1, 1) := by decide +kernel
theorem dX7_letterAt_1 : decode cX7_letterAt 1 = .ok (.bipush 10, 2) := by decide +kernel
theorem dX7_letterAt_3 : decode cX7_letterAt 3 = .ok (.imul, 1) := by decide +kernel
theorem dX7_letterAt_4 : decode cX7_letterAt 4 = .ok (.iload_n 2, 1) := by decide +kernel
theorem dX7_letterAt_5 : decode cX7_letterAt 5 = .ok (.iadd, 1) := by decide +kernel
theorem dX7_letterAt_6 : decode cX7_letterAt 6 = .ok (.istore 4, 2) := by decide +kernel
theorem dX7_letterAt_8 : decode cX7_letterAt 8 = .ok (.aload_n 0, 1) := by decide +kernel
theorem dX7_letterAt_9 : decode cX7_letterAt 9 = .ok (.getfield 23, 3) := by decide +kernel
theorem dX7_letterAt_12 : decode cX7_letterAt 12 = .ok (.getfield 177, 3) := by decide +kernel
theorem dX7_letterAt_15 : decode cX7_letterAt 15 = .ok (.iload 4, 2) := by decide +kernel
theorem dX7_letterAt_17 : decode cX7_letterAt 17 = .ok (.baload, 1) := by decide +kernel
theorem dX7_letterAt_18 : decode cX7_letterAt 18 = .ok (.istore 5, 2) := by decide +kernel
theorem dX7_letterAt_20 : decode cX7_letterAt 20 = .ok (.iconst (-1), 1) := by decide +kernel
theorem dX7_letterAt_21 : decode cX7_letterAt 21 = .ok (.istore 6, 2) := by decide +kernel
theorem dX7_letterAt_23 : decode cX7_letterAt 23 = .ok (.iconst 0, 1) := by decide +kernel
theorem dX7_letterAt_24 : decode cX7_letterAt 24 = .ok (.istore 7, 2) := by decide +kernel
theorem dX7_letterAt_26 : decode cX7_letterAt 26 = .ok (.iload 7, 2) := by decide +kernel
theorem dX7_letterAt_28 : decode cX7_letterAt 28 = .ok (.bipush 26, 2) := by decide +kernel
theorem dX7_letterAt_30 : decode cX7_letterAt 30 = .ok (.if_icmp .ge 60, 3) := by decide +kernel
theorem dX7_letterAt_33 : decode cX7_letterAt 33 = .ok (.iload 6, 2) := by decide +kernel
theorem dX7_letterAt_35 : decode cX7_letterAt 35 = .ok (.iconst (-1), 1) := by decide +kernel
theorem dX7_letterAt_36 : decode cX7_letterAt 36 = .ok (.if_icmp .ne 54, 3) := by decide +kernel
theorem dX7_letterAt_39 : decode cX7_letterAt 39 = .ok (.iload 7, 2) := by decide +kernel
theorem dX7_letterAt_41 : decode cX7_letterAt 41 = .ok (.iload 5, 2) := by decide +kernel
theorem dX7_letterAt_43 : decode cX7_letterAt 43 = .ok (.if_icmp .eq 41, 3) := by decide +kernel
theorem dX7_letterAt_46 : decode cX7_letterAt 46 = .ok (.aload_n 0, 1) := by decide +kernel
theorem dX7_letterAt_47 : decode cX7_letterAt 47 = .ok (.getfield 23, 3) := by decide +kernel
theorem dX7_letterAt_50 : decode cX7_letterAt 50 = .ok (.getfield 177, 3) := by decide +kernel
theorem dX7_letterAt_53 : decode cX7_letterAt 53 = .ok (.iload 4, 2) := by decide +kernel
theorem dX7_letterAt_55 : decode cX7_letterAt 55 = .ok (.iload 7, 2) := by decide +kernel
theorem dX7_letterAt_57 : decode cX7_letterAt 57 = .ok (.i2b, 1) := by decide +kernel
theorem dX7_letterAt_58 : decode cX7_letterAt 58 = .ok (.bastore, 1) := by decide +kernel
theorem dX7_letterAt_59 : decode cX7_letterAt 59 = .ok (.aload_n 0, 1) := by decide +kernel
theorem dX7_letterAt_60 : decode cX7_letterAt 60 = .ok (.getfield 46, 3) := by decide +kernel
theorem dX7_letterAt_63 : decode cX7_letterAt 63 = .ok (.aload_n 0, 1) := by decide +kernel
theorem dX7_letterAt_64 : decode cX7_letterAt 64 = .ok (.getfield 23, 3) := by decide +kernel
theorem dX7_letterAt_67 : decode cX7_letterAt 67 = .ok (.iload_n 1, 1) := by decide +kernel
theorem dX7_letterAt_68 : decode cX7_letterAt 68 = .ok (.invokevirtual 419, 3) := by decide +kernel
theorem dX7_letterAt_71 : decode cX7_letterAt 71 = .ok (.aload_n 0, 1) := by decide +kernel
theorem dX7_letterAt_72 : decode cX7_letterAt 72 = .ok (.iload_n 1, 1) := by decide +kernel
theorem dX7_letterAt_73 : decode cX7_letterAt 73 = .ok (.iload_n 3, 1) := by decide +kernel
theorem dX7_letterAt_74 : decode cX7_letterAt 74 = .ok (.invokevirtual 313, 3) := by decide +kernel
theorem dX7_letterAt_77 : decode cX7_letterAt 77 = .ok (.ifCond .eq 7, 3) := by decide +kernel
theorem dX7_letterAt_80 : decode cX7_letterAt 80 = .ok (.iload 7, 2) := by decide +kernel
theorem dX7_letterAt_82 : decode cX7_letterAt 82 = .ok (.istore 6, 2) := by decide +kernel
theorem dX7_letterAt_84 : decode cX7_letterAt 84 = .ok (.iinc 7 1, 3) := by decide +kernel
theorem dX7_letterAt_87 : decode cX7_letterAt 87 = .ok (.goto (-61), 3) := by decide +kernel
theorem dX7_letterAt_90 : decode cX7_letterAt 90 = .ok (.aload_n 0, 1) := by decide +kernel
theorem dX7_letterAt_91 : decode cX7_letterAt 91 = .ok (.getfield 23, 3) := by decide +kernel
theorem dX7_letterAt_94 : decode cX7_letterAt 94 = .ok (.getfield 177, 3) := by decide +kernel
theorem dX7_letterAt_97 : decode cX7_letterAt 97 = .ok (.iload 4, 2) := by decide +kernel
theorem dX7_letterAt_99 : decode cX7_letterAt 99 = .ok (.iload 5, 2) := by decide +kernel
theorem dX7_letterAt_101 : decode cX7_letterAt 101 = .ok (.bastore, 1) := by decide +kernel
theorem dX7_letterAt_102 : decode cX7_letterAt 102 = .ok (.iload 6, 2) := by decide +kernel
theorem dX7_letterAt_104 : decode cX7_letterAt 104 = .ok (.ireturn, 1) := by decide +kernel
theorem dX0_init_0 : decode cX0_init 0 = .ok (.aload_n 0, 1) := by decide +kernel
theorem dX0_init_1 : decode cX0_init 1 = .ok (.invokespecial 3, 3) := by decide +kernel
theorem dX0_init_4 : decode cX0_init 4 = .ok (.aload_n 0, 1) := by decide +kernel
theorem dX0_init_5 : decode cX0_init 5 = .ok (.bipush 12, 2) := by decide +kernel
theorem dX0_init_7 : decode cX0_init 7 = .ok (.anewarray 9, 3) := by decide +kernel
theorem dX0_init_10 : decode cX0_init 10 = .ok (.putfield 11, 3) := by decide +kernel
theorem dX0_init_13 : decode cX0_init 13 = .ok (.aload_n 0, 1) := by decide +kernel
theorem dX0_init_14 : decode cX0_init 14 = .ok (.iconst 0, 1) := by decide +kernel
theorem dX0_init_15 : decode cX0_init 15 = .ok (.putfield 17, 3) := by decide +kernel
theorem dX0_init_18 : decode cX0_init 18 = .ok (.aload_n 0, 1) := by decide +kernel
theorem dX0_init_19 : decode cX0_init 19 = .ok (.iconst 0, 1) := by decide +kernel
theorem dX0_init_20 : decode cX0_init 20 = .ok (.putfield 21, 3) := by decide +kernel
theorem dX0_init_23 : decode cX0_init 23 = .ok (.return_, 1) := by decide +kernel
theorem dX0_clear_0 : decode cX0_clear 0 = .ok (.aload_n 0, 1) := by decide +kernel
theorem dX0_clear_1 : decode cX0_clear 1 = .ok (.iconst 0, 1) := by decide +kernel
theorem dX0_clear_2 : decode cX0_clear 2 = .ok (.putfield 21, 3) := by decide +kernel
theorem dX0_clear_5 : decode cX0_clear 5 = .ok (.return_, 1) := by decide +kernel
theorem dX0_keep_0 : decode cX0_keep 0 = .ok (.aload_n 0, 1) := by decide +kernel
theorem dX0_keep_1 : decode cX0_keep 1 = .ok (.getfield 11, 3) := by decide +kernel
theorem dX0_keep_4 : decode cX0_keep 4 = .ok (.aload_n 0, 1) := by decide +kernel
theorem dX0_keep_5 : decode cX0_keep 5 = .ok (.getfield 17, 3) := by decide +kernel
theorem dX0_keep_8 : decode cX0_keep 8 = .ok (.aaload, 1) := by decide +kernel
theorem dX0_keep_9 : decode cX0_keep 9 = .ok (.ifnonnull 19, 3) := by decide +kernel
theorem dX0_keep_12 : decode cX0_keep 12 = .ok (.aload_n 0, 1) := by decide +kernel
theorem dX0_keep_13 : decode cX0_keep 13 = .ok (.getfield 11, 3) := by decide +kernel
theorem dX0_keep_16 : decode cX0_keep 16 = .ok (.aload_n 0, 1) := by decide +kernel
theorem dX0_keep_17 : decode cX0_keep 17 = .ok (.getfield 17, 3) := by decide +kernel
theorem dX0_keep_20 : decode cX0_keep 20 = .ok (.new 9, 3) := by decide +kernel
theorem dX0_keep_23 : decode cX0_keep 23 = .ok (.dup, 1) := by decide +kernel
theorem dX0_keep_24 : decode cX0_keep 24 = .ok (.invokespecial 24, 3) := by decide +kernel
theorem dX0_keep_27 : decode cX0_keep 27 = .ok (.aastore, 1) := by decide +kernel
theorem dX0_keep_28 : decode cX0_keep 28 = .ok (.aload_n 0, 1) := by decide +kernel
theorem dX0_keep_29 : decode cX0_keep 29 = .ok (.getfield 11, 3) := by decide +kernel
theorem dX0_keep_32 : decode cX0_keep 32 = .ok (.aload_n 0, 1) := by decide +kernel
theorem dX0_keep_33 : decode cX0_keep 33 = .ok (.getfield 17, 3) := by decide +kernel
theorem dX0_keep_36 : decode cX0_keep 36 = .ok (.aaload, 1) := by decide +kernel
theorem dX0_keep_37 : decode cX0_keep 37 = .ok (.aload_n 1, 1) := by decide +kernel
theorem dX0_keep_38 : decode cX0_keep 38 = .ok (.invokevirtual 25, 3) := by decide +kernel
theorem dX0_keep_41 : decode cX0_keep 41 = .ok (.aload_n 0, 1) := by decide +kernel
theorem dX0_keep_42 : decode cX0_keep 42 = .ok (.aload_n 0, 1) := by decide +kernel
theorem dX0_keep_43 : decode cX0_keep 43 = .ok (.getfield 17, 3) := by decide +kernel
theorem dX0_keep_46 : decode cX0_keep 46 = .ok (.iconst 1, 1) := by decide +kernel
theorem dX0_keep_47 : decode cX0_keep 47 = .ok (.iadd, 1) := by decide +kernel
theorem dX0_keep_48 : decode cX0_keep 48 = .ok (.bipush 12, 2) := by decide +kernel
theorem dX0_keep_50 : decode cX0_keep 50 = .ok (.irem, 1) := by decide +kernel
theorem dX0_keep_51 : decode cX0_keep 51 = .ok (.putfield 17, 3) := by decide +kernel
theorem dX0_keep_54 : decode cX0_keep 54 = .ok (.aload_n 0, 1) := by decide +kernel
theorem dX0_keep_55 : decode cX0_keep 55 = .ok (.aload_n 0, 1) := by decide +kernel
theorem dX0_keep_56 : decode cX0_keep 56 = .ok (.getfield 21, 3) := by decide +kernel
theorem dX0_keep_59 : decode cX0_keep 59 = .ok (.iconst 1, 1) := by decide +kernel
theorem dX0_keep_60 : decode cX0_keep 60 = .ok (.iadd, 1) := by decide +kernel
theorem dX0_keep_61 : decode cX0_keep 61 = .ok (.bipush 12, 2) := by decide +kernel
theorem dX0_keep_63 : decode cX0_keep 63 = .ok (.invokestatic 29, 3) := by decide +kernel
theorem dX0_keep_66 : decode cX0_keep 66 = .ok (.putfield 21, 3) := by decide +kernel
theorem dX0_keep_69 : decode cX0_keep 69 = .ok (.return_, 1) := by decide +kernel
theorem dX0_takeBack_0 : decode cX0_takeBack 0 = .ok (.aload_n 0, 1) := by decide +kernel
theorem dX0_takeBack_1 : decode cX0_takeBack 1 = .ok (.getfield 17, 3) := by decide +kernel
theorem dX0_takeBack_4 : decode cX0_takeBack 4 = .ok (.bipush 12, 2) := by decide +kernel
theorem dX0_takeBack_6 : decode cX0_takeBack 6 = .ok (.iadd, 1) := by decide +kernel
theorem dX0_takeBack_7 : decode cX0_takeBack 7 = .ok (.iconst 1, 1) := by decide +kernel
theorem dX0_takeBack_8 : decode cX0_takeBack 8 = .ok (.isub, 1) := by decide +kernel
theorem dX0_takeBack_9 : decode cX0_takeBack 9 = .ok (.bipush 12, 2) := by decide +kernel
theorem dX0_takeBack_11 : decode cX0_takeBack 11 = .ok (.irem, 1) := by decide +kernel
theorem dX0_takeBack_12 : decode cX0_takeBack 12 = .ok (.istore_n 2, 1) := by decide +kernel
theorem dX0_takeBack_13 : decode cX0_takeBack 13 = .ok (.aload_n 0, 1) := by decide +kernel
theorem dX0_takeBack_14 : decode cX0_takeBack 14 = .ok (.getfield 21, 3) := by decide +kernel
theorem dX0_takeBack_17 : decode cX0_takeBack 17 = .ok (.ifCond .le 37, 3) := by decide +kernel
theorem dX0_takeBack_20 : decode cX0_takeBack 20 = .ok (.aload_n 0, 1) := by decide +kernel
theorem dX0_takeBack_21 : decode cX0_takeBack 21 = .ok (.getfield 11, 3) := by decide +kernel
theorem dX0_takeBack_24 : decode cX0_takeBack 24 = .ok (.iload_n 2, 1) := by decide +kernel
theorem dX0_takeBack_25 : decode cX0_takeBack 25 = .ok (.aaload, 1) := by decide +kernel
theorem dX0_takeBack_26 : decode cX0_takeBack 26 = .ok (.ifnull 28, 3) := by decide +kernel
theorem dX0_takeBack_29 : decode cX0_takeBack 29 = .ok (.aload_n 1, 1) := by decide +kernel
theorem dX0_takeBack_30 : decode cX0_takeBack 30 = .ok (.aload_n 0, 1) := by decide +kernel
theorem dX0_takeBack_31 : decode cX0_takeBack 31 = .ok (.getfield 11, 3) := by decide +kernel
theorem dX0_takeBack_34 : decode cX0_takeBack 34 = .ok (.iload_n 2, 1) := by decide +kernel
theorem dX0_takeBack_35 : decode cX0_takeBack 35 = .ok (.aaload, 1) := by decide +kernel
theorem dX0_takeBack_36 : decode cX0_takeBack 36 = .ok (.invokevirtual 25, 3) := by decide +kernel
theorem dX0_takeBack_39 : decode cX0_takeBack 39 = .ok (.aload_n 0, 1) := by decide +kernel
theorem dX0_takeBack_40 : decode cX0_takeBack 40 = .ok (.iload_n 2, 1) := by decide +kernel
theorem dX0_takeBack_41 : decode cX0_takeBack 41 = .ok (.putfield 17, 3) := by decide +kernel
theorem dX0_takeBack_44 : decode cX0_takeBack 44 = .ok (.aload_n 0, 1) := by decide +kernel
theorem dX0_takeBack_45 : decode cX0_takeBack 45 = .ok (.dup, 1) := by decide +kernel
theorem dX0_takeBack_46 : decode cX0_takeBack 46 = .ok (.getfield 21, 3) := by decide +kernel
theorem dX0_takeBack_49 : decode cX0_takeBack 49 = .ok (.iconst 1, 1) := by decide +kernel
theorem dX0_takeBack_50 : decode cX0_takeBack 50 = .ok (.isub, 1) := by decide +kernel
theorem dX0_takeBack_51 : decode cX0_takeBack 51 = .ok (.putfield 21, 3) := by decide +kernel
theorem dX0_takeBack_54 : decode cX0_takeBack 54 = .ok (.return_, 1) := by decide +kernel
theorem dX1_init_0 : decode cX1_init 0 = .ok (.aload_n 0, 1) := by decide +kernel
theorem dX1_init_1 : decode cX1_init 1 = .ok (.invokespecial 3, 3) := by decide +kernel
theorem dX1_init_4 : decode cX1_init 4 = .ok (.aload_n 0, 1) := by decide +kernel
theorem dX1_init_5 : decode cX1_init 5 = .ok (.sipush 260, 3) := by decide +kernel
theorem dX1_init_8 : decode cX1_init 8 = .ok (.newarray .byte, 2) := by decide +kernel
theorem dX1_init_10 : decode cX1_init 10 = .ok (.putfield 9, 3) := by decide +kernel
theorem dX1_init_13 : decode cX1_init 13 = .ok (.aload_n 0, 1) := by decide +kernel
theorem dX1_init_14 : decode cX1_init 14 = .ok (.bipush 13, 2) := by decide +kernel
theorem dX1_init_16 : decode cX1_init 16 = .ok (.newarray .int, 2) := by decide +kernel
theorem dX1_init_18 : decode cX1_init 18 = .ok (.putfield 15, 3) := by decide +kernel
theorem dX1_init_21 : decode cX1_init 21 = .ok (.aload_n 0, 1) := by decide +kernel
theorem dX1_init_22 : decode cX1_init 22 = .ok (.sipush 169, 3) := by decide +kernel
theorem dX1_init_25 : decode cX1_init 25 = .ok (.newarray .int, 2) := by decide +kernel
theorem dX1_init_27 : decode cX1_init 27 = .ok (.putfield 19, 3) := by decide +kernel
theorem dX1_init_30 : decode cX1_init 30 = .ok (.aload_n 0, 1) := by decide +kernel
theorem dX1_init_31 : decode cX1_init 31 = .ok (.sipush 169, 3) := by decide +kernel
theorem dX1_init_34 : decode cX1_init 34 = .ok (.newarray .int, 2) := by decide +kernel
theorem dX1_init_36 : decode cX1_init 36 = .ok (.putfield 22, 3) := by decide +kernel
theorem dX1_init_39 : decode cX1_init 39 = .ok (.aload_n 0, 1) := by decide +kernel
theorem dX1_init_40 : decode cX1_init 40 = .ok (.sipush 169, 3) := by decide +kernel
theorem dX1_init_43 : decode cX1_init 43 = .ok (.newarray .int, 2) := by decide +kernel
theorem dX1_init_45 : decode cX1_init 45 = .ok (.putfield 25, 3) := by decide +kernel
theorem dX1_init_48 : decode cX1_init 48 = .ok (.aload_n 0, 1) := by decide +kernel
theorem dX1_init_49 : decode cX1_init 49 = .ok (.bipush 13, 2) := by decide +kernel
theorem dX1_init_51 : decode cX1_init 51 = .ok (.newarray .int, 2) := by decide +kernel
theorem dX1_init_53 : decode cX1_init 53 = .ok (.putfield 28, 3) := by decide +kernel
theorem dX1_init_56 : decode cX1_init 56 = .ok (.aload_n 0, 1) := by decide +kernel
theorem dX1_init_57 : decode cX1_init 57 = .ok (.bipush 13, 2) := by decide +kernel
theorem dX1_init_59 : decode cX1_init 59 = .ok (.newarray .int, 2) := by decide +kernel
theorem dX1_init_61 : decode cX1_init 61 = .ok (.putfield 31, 3) := by decide +kernel
theorem dX1_init_64 : decode cX1_init 64 = .ok (.aload_n 0, 1) := by decide +kernel
theorem dX1_init_65 : decode cX1_init 65 = .ok (.bipush 21, 2) := by decide +kernel
theorem dX1_init_67 : decode cX1_init 67 = .ok (.newarray .int, 2) := by decide +kernel
theorem dX1_init_69 : decode cX1_init 69 = .ok (.putfield 34, 3) := by decide +kernel
theorem dX1_init_72 : decode cX1_init 72 = .ok (.return_, 1) := by decide +kernel
theorem dX1_pair_0 : decode cX1_pair 0 = .ok (.iload_n 0, 1) := by decide +kernel
theorem dX1_pair_1 : decode cX1_pair 1 = .ok (.bipush 13, 2) := by decide +kernel
theorem dX1_pair_3 : decode cX1_pair 3 = .ok (.imul, 1) := by decide +kernel
theorem dX1_pair_4 : decode cX1_pair 4 = .ok (.iload_n 1, 1) := by decide +kernel
theorem dX1_pair_5 : decode cX1_pair 5 = .ok (.iadd, 1) := by decide +kernel
theorem dX1_pair_6 : decode cX1_pair 6 = .ok (.ireturn, 1) := by decide +kernel
theorem dX1_setPair_0 : decode cX1_setPair 0 = .ok (.aload_n 0, 1) := by decide +kernel
theorem dX1_setPair_1 : decode cX1_setPair 1 = .ok (.iload_n 1, 1) := by decide +kernel
theorem dX1_setPair_2 : decode cX1_setPair 2 = .ok (.iload_n 2, 1) := by decide +kernel
theorem dX1_setPair_3 : decode cX1_setPair 3 = .ok (.invokestatic 37, 3) := by decide +kernel
theorem dX1_setPair_6 : decode cX1_setPair 6 = .ok (.iload_n 3, 1) := by decide +kernel
theorem dX1_setPair_7 : decode cX1_setPair 7 = .ok (.iastore, 1) := by decide +kernel
theorem dX1_setPair_8 : decode cX1_setPair 8 = .ok (.aload_n 0, 1) := by decide +kernel
theorem dX1_setPair_9 : decode cX1_setPair 9 = .ok (.iload_n 2, 1) := by decide +kernel
theorem dX1_setPair_10 : decode cX1_setPair 10 = .ok (.iload_n 1, 1) := by decide +kernel
theorem dX1_setPair_11 : decode cX1_setPair 11 = .ok (.invokestatic 37, 3) := by decide +kernel
theorem dX1_setPair_14 : decode cX1_setPair 14 = .ok (.iload_n 3, 1) := by decide +kernel
theorem dX1_setPair_15 : decode cX1_setPair 15 = .ok (.iastore, 1) := by decide +kernel
theorem dX1_setPair_16 : decode cX1_setPair 16 = .ok (.return_, 1) := by decide +kernel
theorem dX1_copy_0 : decode cX1_copy 0 = .ok (.aload_n 1, 1) := by decide +kernel
theorem dX1_copy_1 : decode cX1_copy 1 = .ok (.getfield 9, 3) := by decide +kernel
theorem dX1_copy_4 : decode cX1_copy 4 = .ok (.iconst 0, 1) := by decide +kernel
theorem dX1_copy_5 : decode cX1_copy 5 = .ok (.aload_n 0, 1) := by decide +kernel
theorem dX1_copy_6 : decode cX1_copy 6 = .ok (.getfield 9, 3) := by decide +kernel
theorem dX1_copy_9 : decode cX1_copy 9 = .ok (.iconst 0, 1) := by decide +kernel
theorem dX1_copy_10 : decode cX1_copy 10 = .ok (.aload_n 0, 1) := by decide +kernel
theorem dX1_copy_11 : decode cX1_copy 11 = .ok (.getfield 9, 3) := by decide +kernel
theorem dX1_copy_14 : decode cX1_copy 14 = .ok (.arraylength, 1) := by decide +kernel
theorem dX1_copy_15 : decode cX1_copy 15 = .ok (.invokestatic 41, 3) := by decide +kernel
theorem dX1_copy_18 : decode cX1_copy 18 = .ok (.aload_n 1, 1) := by decide +kernel
theorem dX1_copy_19 : decode cX1_copy 19 = .ok (.getfield 15, 3) := by decide +kernel
theorem dX1_copy_22 : decode cX1_copy 22 = .ok (.iconst 0, 1) := by decide +kernel
theorem dX1_copy_23 : decode cX1_copy 23 = .ok (.aload_n 0, 1) := by decide +kernel
theorem dX1_copy_24 : decode cX1_copy 24 = .ok (.getfield 15, 3) := by decide +kernel
theorem dX1_copy_27 : decode cX1_copy 27 = .ok (.iconst 0, 1) := by decide +kernel
theorem dX1_copy_28 : decode cX1_copy 28 = .ok (.bipush 13, 2) := by decide +kernel
theorem dX1_copy_30 : decode cX1_copy 30 = .ok (.invokestatic 41, 3) := by decide +kernel
theorem dX1_copy_33 : decode cX1_copy 33 = .ok (.aload_n 1, 1) := by decide +kernel
theorem dX1_copy_34 : decode cX1_copy 34 = .ok (.getfield 19, 3) := by decide +kernel
theorem dX1_copy_37 : decode cX1_copy 37 = .ok (.iconst 0, 1) := by decide +kernel
theorem dX1_copy_38 : decode cX1_copy 38 = .ok (.aload_n 0, 1) := by decide +kernel
theorem dX1_copy_39 : decode cX1_copy 39 = .ok (.getfield 19, 3) := by decide +kernel
theorem dX1_copy_42 : decode cX1_copy 42 = .ok (.iconst 0, 1) := by decide +kernel
theorem dX1_copy_43 : decode cX1_copy 43 = .ok (.aload_n 0, 1) := by decide +kernel
theorem dX1_copy_44 : decode cX1_copy 44 = .ok (.getfield 19, 3) := by decide +kernel
theorem dX1_copy_47 : decode cX1_copy 47 = .ok (.arraylength, 1) := by decide +kernel
theorem dX1_copy_48 : decode cX1_copy 48 = .ok (.invokestatic 41, 3) := by decide +kernel
theorem dX1_copy_51 : decode cX1_copy 51 = .ok (.aload_n 1, 1) := by decide +kernel
theorem dX1_copy_52 : decode cX1_copy 52 = .ok (.getfield 22, 3) := by decide +kernel
theorem dX1_copy_55 : decode cX1_copy 55 = .ok (.iconst 0, 1) := by decide +kernel
theorem dX1_copy_56 : decode cX1_copy 56 = .ok (.aload_n 0, 1) := by decide +kernel
theorem dX1_copy_57 : decode cX1_copy 57 = .ok (.getfield 22, 3) := by decide +kernel
theorem dX1_copy_60 : decode cX1_copy 60 = .ok (.iconst 0, 1) := by decide +kernel
theorem dX1_copy_61 : decode cX1_copy 61 = .ok (.aload_n 0, 1) := by decide +kernel
theorem dX1_copy_62 : decode cX1_copy 62 = .ok (.getfield 22, 3) := by decide +kernel
theorem dX1_copy_65 : decode cX1_copy 65 = .ok (.arraylength, 1) := by decide +kernel
theorem dX1_copy_66 : decode cX1_copy 66 = .ok (.invokestatic 41, 3) := by decide +kernel
theorem dX1_copy_69 : decode cX1_copy 69 = .ok (.aload_n 1, 1) := by decide +kernel
theorem dX1_copy_70 : decode cX1_copy 70 = .ok (.getfield 25, 3) := by decide +kernel
theorem dX1_copy_73 : decode cX1_copy 73 = .ok (.iconst 0, 1) := by decide +kernel
theorem dX1_copy_74 : decode cX1_copy 74 = .ok (.aload_n 0, 1) := by decide +kernel
theorem dX1_copy_75 : decode cX1_copy 75 = .ok (.getfield 25, 3) := by decide +kernel
theorem dX1_copy_78 : decode cX1_copy 78 = .ok (.iconst 0, 1) := by decide +kernel
theorem dX1_copy_79 : decode cX1_copy 79 = .ok (.aload_n 0, 1) := by decide +kernel
theorem dX1_copy_80 : decode cX1_copy 80 = .ok (.getfield 25, 3) := by decide +kernel
theorem dX1_copy_83 : decode cX1_copy 83 = .ok (.arraylength, 1) := by decide +kernel
theorem dX1_copy_84 : decode cX1_copy 84 = .ok (.invokestatic 41, 3) := by decide +kernel
theorem dX1_copy_87 : decode cX1_copy 87 = .ok (.aload_n 1, 1) := by decide +kernel
theorem dX1_copy_88 : decode cX1_copy 88 = .ok (.getfield 28, 3) := by decide +kernel
theorem dX1_copy_91 : decode cX1_copy 91 = .ok (.iconst 0, 1) := by decide +kernel
theorem dX1_copy_92 : decode cX1_copy 92 = .ok (.aload_n 0, 1) := by decide +kernel
theorem dX1_copy_93 : decode cX1_copy 93 = .ok (.getfield 28, 3) := by decide +kernel
theorem dX1_copy_96 : decode cX1_copy 96 = .ok (.iconst 0, 1) := by decide +kernel
theorem dX1_copy_97 : decode cX1_copy 97 = .ok (.bipush 13, 2) := by decide +kernel
theorem dX1_copy_99 : decode cX1_copy 99 = .ok (.invokestatic 41, 3) := by decide +kernel
theorem dX1_copy_102 : decode cX1_copy 102 = .ok (.aload_n 1, 1) := by decide +kernel
theorem dX1_copy_103 : decode cX1_copy 103 = .ok (.getfield 31, 3) := by decide +kernel
theorem dX1_copy_106 : decode cX1_copy 106 = .ok (.iconst 0, 1) := by decide +kernel
theorem dX1_copy_107 : decode cX1_copy 107 = .ok (.aload_n 0, 1) := by decide +kernel
theorem dX1_copy_108 : decode cX1_copy 108 = .ok (.getfield 31, 3) := by decide +kernel
theorem dX1_copy_111 : decode cX1_copy 111 = .ok (.iconst 0, 1) := by decide +kernel
theorem dX1_copy_112 : decode cX1_copy 112 = .ok (.bipush 13, 2) := by decide +kernel
theorem dX1_copy_114 : decode cX1_copy 114 = .ok (.invokestatic 41, 3) := by decide +kernel
theorem dX1_copy_117 : decode cX1_copy 117 = .ok (.return_, 1) := by decide +kernel
theorem dX1_learnNames_0 : decode cX1_learnNames 0 = .ok (.iconst 0, 1) := by decide +kernel
theorem dX1_learnNames_1 : decode cX1_learnNames 1 = .ok (.istore_n 2, 1) := by decide +kernel
theorem dX1_learnNames_2 : decode cX1_learnNames 2 = .ok (.iload_n 2, 1) := by decide +kernel
theorem dX1_learnNames_3 : decode cX1_learnNames 3 = .ok (.aload_n 1, 1) := by decide +kernel
theorem dX1_learnNames_4 : decode cX1_learnNames 4 = .ok (.getfield 47, 3) := by decide +kernel
theorem dX1_learnNames_7 : decode cX1_learnNames 7 = .ok (.if_icmp .ge 35, 3) := by decide +kernel
theorem dX1_learnNames_10 : decode cX1_learnNames 10 = .ok (.aload_n 0, 1) := by decide +kernel
theorem dX1_learnNames_11 : decode cX1_learnNames 11 = .ok (.aload_n 1, 1) := by decide +kernel
theorem dX1_learnNames_12 : decode cX1_learnNames 12 = .ok (.iload_n 2, 1) := by decide +kernel
theorem dX1_learnNames_13 : decode cX1_learnNames 13 = .ok (.invokevirtual 53, 3) := by decide +kernel
theorem dX1_learnNames_16 : decode cX1_learnNames 16 = .ok (.iconst 0, 1) := by decide +kernel
theorem dX1_learnNames_17 : decode cX1_learnNames 17 = .ok (.istore_n 3, 1) := by decide +kernel
theorem dX1_learnNames_18 : decode cX1_learnNames 18 = .ok (.iload_n 3, 1) := by decide +kernel
theorem dX1_learnNames_19 : decode cX1_learnNames 19 = .ok (.iload_n 2, 1) := by decide +kernel
theorem dX1_learnNames_20 : decode cX1_learnNames 20 = .ok (.if_icmp .ge 16, 3) := by decide +kernel
theorem dX1_learnNames_23 : decode cX1_learnNames 23 = .ok (.aload_n 0, 1) := by decide +kernel
theorem dX1_learnNames_24 : decode cX1_learnNames 24 = .ok (.aload_n 1, 1) := by decide +kernel
theorem dX1_learnNames_25 : decode cX1_learnNames 25 = .ok (.iload_n 2, 1) := by decide +kernel
theorem dX1_learnNames_26 : decode cX1_learnNames 26 = .ok (.iload_n 3, 1) := by decide +kernel
theorem dX1_learnNames_27 : decode cX1_learnNames 27 = .ok (.invokevirtual 57, 3) := by decide +kernel
theorem dX1_learnNames_30 : decode cX1_learnNames 30 = .ok (.iinc 3 1, 3) := by decide +kernel
theorem dX1_learnNames_33 : decode cX1_learnNames 33 = .ok (.goto (-15), 3) := by decide +kernel
theorem dX1_learnNames_36 : decode cX1_learnNames 36 = .ok (.iinc 2 1, 3) := by decide +kernel
theorem dX1_learnNames_39 : decode cX1_learnNames 39 = .ok (.goto (-37), 3) := by decide +kernel
theorem dX1_learnNames_42 : decode cX1_learnNames 42 = .ok (.return_, 1) := by decide +kernel
theorem dX1_learnGoods_0 : decode cX1_learnGoods 0 = .ok (.iconst 0, 1) := by decide +kernel
theorem dX1_learnGoods_1 : decode cX1_learnGoods 1 = .ok (.istore_n 2, 1) := by decide +kernel
theorem dX1_learnGoods_2 : decode cX1_learnGoods 2 = .ok (.iload_n 2, 1) := by decide +kernel
theorem dX1_learnGoods_3 : decode cX1_learnGoods 3 = .ok (.aload_n 1, 1) := by decide +kernel
theorem dX1_learnGoods_4 : decode cX1_learnGoods 4 = .ok (.getfield 47, 3) := by decide +kernel
theorem dX1_learnGoods_7 : decode cX1_learnGoods 7 = .ok (.if_icmp .ge 15, 3) := by decide +kernel
theorem dX1_learnGoods_10 : decode cX1_learnGoods 10 = .ok (.aload_n 0, 1) := by decide +kernel
theorem dX1_learnGoods_11 : decode cX1_learnGoods 11 = .ok (.aload_n 1, 1) := by decide +kernel
theorem dX1_learnGoods_12 : decode cX1_learnGoods 12 = .ok (.iload_n 2, 1) := by decide +kernel
theorem dX1_learnGoods_13 : decode cX1_learnGoods 13 = .ok (.invokevirtual 61, 3) := by decide +kernel
theorem dX1_learnGoods_16 : decode cX1_learnGoods 16 = .ok (.iinc 2 1, 3) := by decide +kernel
theorem dX1_learnGoods_19 : decode cX1_learnGoods 19 = .ok (.goto (-17), 3) := by decide +kernel
theorem dX1_learnGoods_22 : decode cX1_learnGoods 22 = .ok (.return_, 1) := by decide +kernel
theorem dX1_hear_0 : decode cX1_hear 0 = .ok (.iload_n 2, 1) := by decide +kernel
theorem dX1_hear_1 : decode cX1_hear 1 = .ok (.bipush 10, 2) := by decide +kernel
theorem dX1_hear_3 : decode cX1_hear 3 = .ok (.imul, 1) := by decide +kernel
theorem dX1_hear_4 : decode cX1_hear 4 = .ok (.istore_n 3, 1) := by decide +kernel
theorem dX1_hear_5 : decode cX1_hear 5 = .ok (.aload_n 1, 1) := by decide +kernel
theorem dX1_hear_6 : decode cX1_hear 6 = .ok (.getfield 64, 3) := by decide +kernel
theorem dX1_hear_9 : decode cX1_hear 9 = .ok (.iload_n 2, 1) := by decide +kernel
theorem dX1_hear_10 : decode cX1_hear 10 = .ok (.iaload, 1) := by decide +kernel
theorem dX1_hear_11 : decode cX1_hear 11 = .ok (.istore 4, 2) := by decide +kernel
theorem dX1_hear_13 : decode cX1_hear 13 = .ok (.aload_n 0, 1) := by decide +kernel
theorem dX1_hear_14 : decode cX1_hear 14 = .ok (.getfield 15, 3) := by decide +kernel
theorem dX1_hear_17 : decode cX1_hear 17 = .ok (.iload_n 2, 1) := by decide +kernel
theorem dX1_hear_18 : decode cX1_hear 18 = .ok (.iconst 0, 1) := by decide +kernel
theorem dX1_hear_19 : decode cX1_hear 19 = .ok (.iastore, 1) := by decide +kernel
theorem dX1_hear_20 : decode cX1_hear 20 = .ok (.iconst 0, 1) := by decide +kernel
theorem dX1_hear_21 : decode cX1_hear 21 = .ok (.istore 5, 2) := by decide +kernel
theorem dX1_hear_23 : decode cX1_hear 23 = .ok (.iconst 0, 1) := by decide +kernel
theorem dX1_hear_24 : decode cX1_hear 24 = .ok (.istore 6, 2) := by decide +kernel
theorem dX1_hear_26 : decode cX1_hear 26 = .ok (.iload 6, 2) := by decide +kernel
theorem dX1_hear_28 : decode cX1_hear 28 = .ok (.bipush 10, 2) := by decide +kernel
theorem dX1_hear_30 : decode cX1_hear 30 = .ok (.if_icmp .ge 133, 3) := by decide +kernel
theorem dX1_hear_33 : decode cX1_hear 33 = .ok (.iload 5, 2) := by decide +kernel
theorem dX1_hear_35 : decode cX1_hear 35 = .ok (.iload 4, 2) := by decide +kernel
theorem dX1_hear_37 : decode cX1_hear 37 = .ok (.if_icmp .ge 126, 3) := by decide +kernel
theorem dX1_hear_40 : decode cX1_hear 40 = .ok (.bipush 97, 2) := by decide +kernel
theorem dX1_hear_42 : decode cX1_hear 42 = .ok (.aload_n 1, 1) := by decide +kernel
theorem dX1_hear_43 : decode cX1_hear 43 = .ok (.getfield 67, 3) := by decide +kernel
theorem dX1_hear_46 : decode cX1_hear 46 = .ok (.iload_n 3, 1) := by decide +kernel
theorem dX1_hear_47 : decode cX1_hear 47 = .ok (.iload 5, 2) := by decide +kernel
theorem dX1_hear_49 : decode cX1_hear 49 = .ok (.iadd, 1) := by decide +kernel
theorem dX1_hear_50 : decode cX1_hear 50 = .ok (.baload, 1) := by decide +kernel
theorem dX1_hear_51 : decode cX1_hear 51 = .ok (.iadd, 1) := by decide +kernel
theorem dX1_hear_52 : decode cX1_hear 52 = .ok (.i2c, 1) := by decide +kernel
theorem dX1_hear_53 : decode cX1_hear 53 = .ok (.istore 7, 2) := by decide +kernel
theorem dX1_hear_55 : decode cX1_hear 55 = .ok (.iload 5, 2) := by decide +kernel
theorem dX1_hear_57 : decode cX1_hear 57 = .ok (.iconst 1, 1) := by decide +kernel
theorem dX1_hear_58 : decode cX1_hear 58 = .ok (.iadd, 1) := by decide +kernel
theorem dX1_hear_59 : decode cX1_hear 59 = .ok (.iload 4, 2) := by decide +kernel
theorem dX1_hear_61 : decode cX1_hear 61 = .ok (.if_icmp .ge 21, 3) := by decide +kernel
theorem dX1_hear_64 : decode cX1_hear 64 = .ok (.bipush 97, 2) := by decide +kernel
theorem dX1_hear_66 : decode cX1_hear 66 = .ok (.aload_n 1, 1) := by decide +kernel
theorem dX1_hear_67 : decode cX1_hear 67 = .ok (.getfield 67, 3) := by decide +kernel
theorem dX1_hear_70 : decode cX1_hear 70 = .ok (.iload_n 3, 1) := by decide +kernel
theorem dX1_hear_71 : decode cX1_hear 71 = .ok (.iload 5, 2) := by decide +kernel
theorem dX1_hear_73 : decode cX1_hear 73 = .ok (.iadd, 1) := by decide +kernel
theorem dX1_hear_74 : decode cX1_hear 74 = .ok (.iconst 1, 1) := by decide +kernel
theorem dX1_hear_75 : decode cX1_hear 75 = .ok (.iadd, 1) := by decide +kernel
theorem dX1_hear_76 : decode cX1_hear 76 = .ok (.baload, 1) := by decide +kernel
theorem dX1_hear_77 : decode cX1_hear 77 = .ok (.iadd, 1) := by decide +kernel
theorem dX1_hear_78 : decode cX1_hear 78 = .ok (.i2c, 1) := by decide +kernel
theorem dX1_hear_79 : decode cX1_hear 79 = .ok (.goto 5, 3) := by decide +kernel
theorem dX1_hear_82 : decode cX1_hear 82 = .ok (.bipush 32, 2) := by decide +kernel
theorem dX1_hear_84 : decode cX1_hear 84 = .ok (.istore 8, 2) := by decide +kernel
theorem dX1_hear_86 : decode cX1_hear 86 = .ok (.iload 7, 2) := by decide +kernel
theorem dX1_hear_88 : decode cX1_hear 88 = .ok (.iload 8, 2) := by decide +kernel
theorem dX1_hear_90 : decode cX1_hear 90 = .ok (.invokestatic 70, 3) := by decide +kernel
theorem dX1_hear_93 : decode cX1_hear 93 = .ok (.istore 9, 2) := by decide +kernel
theorem dX1_hear_95 : decode cX1_hear 95 = .ok (.iload 9, 2) := by decide +kernel
theorem dX1_hear_97 : decode cX1_hear 97 = .ok (.bipush (-2), 2) := by decide +kernel
theorem dX1_hear_99 : decode cX1_hear 99 = .ok (.if_icmp .eq 9, 3) := by decide +kernel
theorem dX1_hear_102 : decode cX1_hear 102 = .ok (.iinc 5 1, 3) := by decide +kernel
theorem dX1_hear_105 : decode cX1_hear 105 = .ok (.goto 42, 3) := by decide +kernel
theorem dX1_hear_108 : decode cX1_hear 108 = .ok (.iload 7, 2) := by decide +kernel
theorem dX1_hear_110 : decode cX1_hear 110 = .ok (.bipush 120, 2) := by decide +kernel
theorem dX1_hear_112 : decode cX1_hear 112 = .ok (.if_icmp .ne 16, 3) := by decide +kernel
theorem dX1_hear_115 : decode cX1_hear 115 = .ok (.aload_n 0, 1) := by decide +kernel
theorem dX1_hear_116 : decode cX1_hear 116 = .ok (.iload_n 2, 1) := by decide +kernel
theorem dX1_hear_117 : decode cX1_hear 117 = .ok (.iconst 2, 1) := by decide +kernel
theorem dX1_hear_118 : decode cX1_hear 118 = .ok (.invokevirtual 74, 3) := by decide +kernel
theorem dX1_hear_121 : decode cX1_hear 121 = .ok (.bipush 8, 2) := by decide +kernel
theorem dX1_hear_123 : decode cX1_hear 123 = .ok (.istore 9, 2) := by decide +kernel
theorem dX1_hear_125 : decode cX1_hear 125 = .ok (.goto 22, 3) := by decide +kernel
theorem dX1_hear_128 : decode cX1_hear 128 = .ok (.iload 7, 2) := by decide +kernel
theorem dX1_hear_130 : decode cX1_hear 130 = .ok (.iload 8, 2) := by decide +kernel
theorem dX1_hear_132 : decode cX1_hear 132 = .ok (.iload 5, 2) := by decide +kernel
theorem dX1_hear_134 : decode cX1_hear 134 = .ok (.ifCond .ne 7, 3) := by decide +kernel
theorem dX1_hear_137 : decode cX1_hear 137 = .ok (.iconst 1, 1) := by decide +kernel
theorem dX1_hear_138 : decode cX1_hear 138 = .ok (.goto 4, 3) := by decide +kernel
theorem dX1_hear_141 : decode cX1_hear 141 = .ok (.iconst 0, 1) := by decide +kernel
theorem dX1_hear_142 : decode cX1_hear 142 = .ok (.invokestatic 78, 3) := by decide +kernel
theorem dX1_hear_145 : decode cX1_hear 145 = .ok (.istore 9, 2) := by decide +kernel
theorem dX1_hear_147 : decode cX1_hear 147 = .ok (.aload_n 0, 1) := by decide +kernel
theorem dX1_hear_148 : decode cX1_hear 148 = .ok (.iload_n 2, 1) := by decide +kernel
theorem dX1_hear_149 : decode cX1_hear 149 = .ok (.iload 9, 2) := by decide +kernel
theorem dX1_hear_151 : decode cX1_hear 151 = .ok (.invokevirtual 74, 3) := by decide +kernel
theorem dX1_hear_154 : decode cX1_hear 154 = .ok (.iinc 5 1, 3) := by decide +kernel
theorem dX1_hear_157 : decode cX1_hear 157 = .ok (.iinc 6 1, 3) := by decide +kernel
theorem dX1_hear_160 : decode cX1_hear 160 = .ok (.goto (-134), 3) := by decide +kernel
theorem dX1_hear_163 : decode cX1_hear 163 = .ok (.return_, 1) := by decide +kernel
theorem dX1_soundOfTwo_0 : decode cX1_soundOfTwo 0 = .ok (.iload_n 1, 1) := by decide +kernel
theorem dX1_soundOfTwo_1 : decode cX1_soundOfTwo 1 = .ok (.bipush 104, 2) := by decide +kernel
theorem dX1_soundOfTwo_3 : decode cX1_soundOfTwo 3 = .ok (.if_icmp .ne 68, 3) := by decide +kernel
theorem dX1_soundOfTwo_6 : decode cX1_soundOfTwo 6 = .ok (.iload_n 0, 1) := by decide +kernel
theorem dX1_soundOfTwo_7 : decode cX1_soundOfTwo 7 = .ok (.lookupswitch 61 #[(99, 54), (103, 59), (112, 49), (115, 56), (116, 51)], 49) := by decide +kernel
theorem dX1_soundOfTwo_56 : decode cX1_soundOfTwo 56 = .ok (.iconst 1, 1) := by decide +kernel
theorem dX1_soundOfTwo_57 : decode cX1_soundOfTwo 57 = .ok (.ireturn, 1) := by decide +kernel
theorem dX1_soundOfTwo_58 : decode cX1_soundOfTwo 58 = .ok (.bipush 9, 2) := by decide +kernel
theorem dX1_soundOfTwo_60 : decode cX1_soundOfTwo 60 = .ok (.ireturn, 1) := by decide +kernel
theorem dX1_soundOfTwo_61 : decode cX1_soundOfTwo 61 = .ok (.iconst 2, 1) := by decide +kernel
theorem dX1_soundOfTwo_62 : decode cX1_soundOfTwo 62 = .ok (.ireturn, 1) := by decide +kernel
theorem dX1_soundOfTwo_63 : decode cX1_soundOfTwo 63 = .ok (.bipush 8, 2) := by decide +kernel
theorem dX1_soundOfTwo_65 : decode cX1_soundOfTwo 65 = .ok (.ireturn, 1) := by decide +kernel
theorem dX1_soundOfTwo_66 : decode cX1_soundOfTwo 66 = .ok (.iconst (-1), 1) := by decide +kernel
theorem dX1_soundOfTwo_67 : decode cX1_soundOfTwo 67 = .ok (.ireturn, 1) := by decide +kernel
theorem dX1_soundOfTwo_68 : decode cX1_soundOfTwo 68 = .ok (.bipush (-2), 2) := by decide +kernel
theorem dX1_soundOfTwo_70 : decode cX1_soundOfTwo 70 = .ok (.ireturn, 1) := by decide +kernel
theorem dX1_soundOfTwo_71 : decode cX1_soundOfTwo 71 = .ok (.iload_n 0, 1) := by decide +kernel
theorem dX1_soundOfTwo_72 : decode cX1_soundOfTwo 72 = .ok (.bipush 99, 2) := by decide +kernel
theorem dX1_soundOfTwo_74 : decode cX1_soundOfTwo 74 = .ok (.if_icmp .ne 13, 3) := by decide +kernel
theorem dX1_soundOfTwo_77 : decode cX1_soundOfTwo 77 = .ok (.iload_n 1, 1) := by decide +kernel
theorem dX1_soundOfTwo_78 : decode cX1_soundOfTwo 78 = .ok (.bipush 107, 2) := by decide +kernel
theorem dX1_soundOfTwo_80 : decode cX1_soundOfTwo 80 = .ok (.if_icmp .ne 7, 3) := by decide +kernel
theorem dX1_soundOfTwo_83 : decode cX1_soundOfTwo 83 = .ok (.iconst 2, 1) := by decide +kernel
theorem dX1_soundOfTwo_84 : decode cX1_soundOfTwo 84 = .ok (.goto 5, 3) := by decide +kernel
theorem dX1_soundOfTwo_87 : decode cX1_soundOfTwo 87 = .ok (.bipush (-2), 2) := by decide +kernel
theorem dX1_soundOfTwo_89 : decode cX1_soundOfTwo 89 = .ok (.ireturn, 1) := by decide +kernel
theorem dX1_soundOfOne_0 : decode cX1_soundOfOne 0 = .ok (.iload_n 0, 1) := by decide +kernel
theorem dX1_soundOfOne_1 : decode cX1_soundOfOne 1 = .ok (.bipush 99, 2) := by decide +kernel
theorem dX1_soundOfOne_3 : decode cX1_soundOfOne 3 = .ok (.if_icmp .ne 24, 3) := by decide +kernel
theorem dX1_soundOfOne_6 : decode cX1_soundOfOne 6 = .ok (.iload_n 1, 1) := by decide +kernel
theorem dX1_soundOfOne_7 : decode cX1_soundOfOne 7 = .ok (.bipush 101, 2) := by decide +kernel
theorem dX1_soundOfOne_9 : decode cX1_soundOfOne 9 = .ok (.if_icmp .eq 15, 3) := by decide +kernel
theorem dX1_soundOfOne_12 : decode cX1_soundOfOne 12 = .ok (.iload_n 1, 1) := by decide +kernel
theorem dX1_soundOfOne_13 : decode cX1_soundOfOne 13 = .ok (.bipush 105, 2) := by decide +kernel
theorem dX1_soundOfOne_15 : decode cX1_soundOfOne 15 = .ok (.if_icmp .eq 9, 3) := by decide +kernel
theorem dX1_soundOfOne_18 : decode cX1_soundOfOne 18 = .ok (.iload_n 1, 1) := by decide +kernel
theorem dX1_soundOfOne_19 : decode cX1_soundOfOne 19 = .ok (.bipush 121, 2) := by decide +kernel
theorem dX1_soundOfOne_21 : decode cX1_soundOfOne 21 = .ok (.if_icmp .ne 6, 3) := by decide +kernel
theorem dX1_soundOfOne_24 : decode cX1_soundOfOne 24 = .ok (.bipush 8, 2) := by decide +kernel
theorem dX1_soundOfOne_26 : decode cX1_soundOfOne 26 = .ok (.ireturn, 1) := by decide +kernel
theorem dX1_soundOfOne_27 : decode cX1_soundOfOne 27 = .ok (.getstatic 82, 3) := by decide +kernel
theorem dX1_soundOfOne_30 : decode cX1_soundOfOne 30 = .ok (.iload_n 0, 1) := by decide +kernel
theorem dX1_soundOfOne_31 : decode cX1_soundOfOne 31 = .ok (.bipush 97, 2) := by decide +kernel
theorem dX1_soundOfOne_33 : decode cX1_soundOfOne 33 = .ok (.isub, 1) := by decide +kernel
theorem dX1_soundOfOne_34 : decode cX1_soundOfOne 34 = .ok (.iaload, 1) := by decide +kernel
theorem dX1_soundOfOne_35 : decode cX1_soundOfOne 35 = .ok (.istore_n 3, 1) := by decide +kernel
theorem dX1_soundOfOne_36 : decode cX1_soundOfOne 36 = .ok (.iload_n 3, 1) := by decide +kernel
theorem dX1_soundOfOne_37 : decode cX1_soundOfOne 37 = .ok (.ifCond .ne 11, 3) := by decide +kernel
theorem dX1_soundOfOne_40 : decode cX1_soundOfOne 40 = .ok (.iload_n 2, 1) := by decide +kernel
theorem dX1_soundOfOne_41 : decode cX1_soundOfOne 41 = .ok (.ifCond .ne 7, 3) := by decide +kernel
theorem dX1_soundOfOne_44 : decode cX1_soundOfOne 44 = .ok (.iconst (-1), 1) := by decide +kernel
theorem dX1_soundOfOne_45 : decode cX1_soundOfOne 45 = .ok (.goto 4, 3) := by decide +kernel
theorem dX1_soundOfOne_48 : decode cX1_soundOfOne 48 = .ok (.iload_n 3, 1) := by decide +kernel
theorem dX1_soundOfOne_49 : decode cX1_soundOfOne 49 = .ok (.ireturn, 1) := by decide +kernel
theorem dX1_addSound_0 : decode cX1_addSound 0 = .ok (.iload_n 1, 1) := by decide +kernel
theorem dX1_addSound_1 : decode cX1_addSound 1 = .ok (.bipush 20, 2) := by decide +kernel
theorem dX1_addSound_3 : decode cX1_addSound 3 = .ok (.imul, 1) := by decide +kernel
theorem dX1_addSound_4 : decode cX1_addSound 4 = .ok (.istore_n 3, 1) := by decide +kernel
theorem dX1_addSound_5 : decode cX1_addSound 5 = .ok (.aload_n 0, 1) := by decide +kernel
theorem dX1_addSound_6 : decode cX1_addSound 6 = .ok (.getfield 15, 3) := by decide +kernel
theorem dX1_addSound_9 : decode cX1_addSound 9 = .ok (.iload_n 1, 1) := by decide +kernel
theorem dX1_addSound_10 : decode cX1_addSound 10 = .ok (.iaload, 1) := by decide +kernel
theorem dX1_addSound_11 : decode cX1_addSound 11 = .ok (.istore 4, 2) := by decide +kernel
theorem dX1_addSound_13 : decode cX1_addSound 13 = .ok (.iload 4, 2) := by decide +kernel
theorem dX1_addSound_15 : decode cX1_addSound 15 = .ok (.ifCond .le 22, 3) := by decide +kernel
theorem dX1_addSound_18 : decode cX1_addSound 18 = .ok (.aload_n 0, 1) := by decide +kernel
theorem dX1_addSound_19 : decode cX1_addSound 19 = .ok (.getfield 9, 3) := by decide +kernel
theorem dX1_addSound_22 : decode cX1_addSound 22 = .ok (.iload_n 3, 1) := by decide +kernel
theorem dX1_addSound_23 : decode cX1_addSound 23 = .ok (.iload 4, 2) := by decide +kernel
theorem dX1_addSound_25 : decode cX1_addSound 25 = .ok (.iadd, 1) := by decide +kernel
theorem dX1_addSound_26 : decode cX1_addSound 26 = .ok (.iconst 1, 1) := by decide +kernel
theorem dX1_addSound_27 : decode cX1_addSound 27 = .ok (.isub, 1) := by decide +kernel
theorem dX1_addSound_28 : decode cX1_addSound 28 = .ok (.baload, 1) := by decide +kernel
theorem dX1_addSound_29 : decode cX1_addSound 29 = .ok (.iload_n 2, 1) := by decide +kernel
theorem dX1_addSound_30 : decode cX1_addSound 30 = .ok (.if_icmp .ne 7, 3) := by decide +kernel
theorem dX1_addSound_33 : decode cX1_addSound 33 = .ok (.iconst 1, 1) := by decide +kernel
theorem dX1_addSound_34 : decode cX1_addSound 34 = .ok (.goto 4, 3) := by decide +kernel
theorem dX1_addSound_37 : decode cX1_addSound 37 = .ok (.iconst 0, 1) := by decide +kernel
theorem dX1_addSound_38 : decode cX1_addSound 38 = .ok (.istore 5, 2) := by decide +kernel
theorem dX1_addSound_40 : decode cX1_addSound 40 = .ok (.iload_n 2, 1) := by decide +kernel
theorem dX1_addSound_41 : decode cX1_addSound 41 = .ok (.iconst (-1), 1) := by decide +kernel
theorem dX1_addSound_42 : decode cX1_addSound 42 = .ok (.if_icmp .eq 36, 3) := by decide +kernel
theorem dX1_addSound_45 : decode cX1_addSound 45 = .ok (.iload 5, 2) := by decide +kernel
theorem dX1_addSound_47 : decode cX1_addSound 47 = .ok (.ifCond .ne 31, 3) := by decide +kernel
theorem dX1_addSound_50 : decode cX1_addSound 50 = .ok (.iload 4, 2) := by decide +kernel
theorem dX1_addSound_52 : decode cX1_addSound 52 = .ok (.bipush 20, 2) := by decide +kernel
theorem dX1_addSound_54 : decode cX1_addSound 54 = .ok (.if_icmp .ge 24, 3) := by decide +kernel
theorem dX1_addSound_57 : decode cX1_addSound 57 = .ok (.aload_n 0, 1) := by decide +kernel
theorem dX1_addSound_58 : decode cX1_addSound 58 = .ok (.getfield 9, 3) := by decide +kernel
theorem dX1_addSound_61 : decode cX1_addSound 61 = .ok (.iload_n 3, 1) := by decide +kernel
theorem dX1_addSound_62 : decode cX1_addSound 62 = .ok (.iload 4, 2) := by decide +kernel
theorem dX1_addSound_64 : decode cX1_addSound 64 = .ok (.iadd, 1) := by decide +kernel
theorem dX1_addSound_65 : decode cX1_addSound 65 = .ok (.iload_n 2, 1) := by decide +kernel
theorem dX1_addSound_66 : decode cX1_addSound 66 = .ok (.i2b, 1) := by decide +kernel
theorem dX1_addSound_67 : decode cX1_addSound 67 = .ok (.bastore, 1) := by decide +kernel
theorem dX1_addSound_68 : decode cX1_addSound 68 = .ok (.aload_n 0, 1) := by decide +kernel
theorem dX1_addSound_69 : decode cX1_addSound 69 = .ok (.getfield 15, 3) := by decide +kernel
theorem dX1_addSound_72 : decode cX1_addSound 72 = .ok (.iload_n 1, 1) := by decide +kernel
theorem dX1_addSound_73 : decode cX1_addSound 73 = .ok (.dup2, 1) := by decide +kernel
theorem dX1_addSound_74 : decode cX1_addSound 74 = .ok (.iaload, 1) := by decide +kernel
theorem dX1_addSound_75 : decode cX1_addSound 75 = .ok (.iconst 1, 1) := by decide +kernel
theorem dX1_addSound_76 : decode cX1_addSound 76 = .ok (.iadd, 1) := by decide +kernel
theorem dX1_addSound_77 : decode cX1_addSound 77 = .ok (.iastore, 1) := by decide +kernel
theorem dX1_addSound_78 : decode cX1_addSound 78 = .ok (.return_, 1) := by decide +kernel
theorem dX1_compareNames_0 : decode cX1_compareNames 0 = .ok (.aload_n 0, 1) := by decide +kernel
theorem dX1_compareNames_1 : decode cX1_compareNames 1 = .ok (.aload_n 1, 1) := by decide +kernel
theorem dX1_compareNames_2 : decode cX1_compareNames 2 = .ok (.getfield 67, 3) := by decide +kernel
theorem dX1_compareNames_5 : decode cX1_compareNames 5 = .ok (.iload_n 2, 1) := by decide +kernel
theorem dX1_compareNames_6 : decode cX1_compareNames 6 = .ok (.bipush 10, 2) := by decide +kernel
theorem dX1_compareNames_8 : decode cX1_compareNames 8 = .ok (.imul, 1) := by decide +kernel
theorem dX1_compareNames_9 : decode cX1_compareNames 9 = .ok (.aload_n 1, 1) := by decide +kernel
theorem dX1_compareNames_10 : decode cX1_compareNames 10 = .ok (.getfield 64, 3) := by decide +kernel
theorem dX1_compareNames_13 : decode cX1_compareNames 13 = .ok (.iload_n 2, 1) := by decide +kernel
theorem dX1_compareNames_14 : decode cX1_compareNames 14 = .ok (.iaload, 1) := by decide +kernel
theorem dX1_compareNames_15 : decode cX1_compareNames 15 = .ok (.iload_n 3, 1) := by decide +kernel
theorem dX1_compareNames_16 : decode cX1_compareNames 16 = .ok (.bipush 10, 2) := by decide +kernel
theorem dX1_compareNames_18 : decode cX1_compareNames 18 = .ok (.imul, 1) := by decide +kernel
theorem dX1_compareNames_19 : decode cX1_compareNames 19 = .ok (.aload_n 1, 1) := by decide +kernel
theorem dX1_compareNames_20 : decode cX1_compareNames 20 = .ok (.getfield 64, 3) := by decide +kernel
theorem dX1_compareNames_23 : decode cX1_compareNames 23 = .ok (.iload_n 3, 1) := by decide +kernel
theorem dX1_compareNames_24 : decode cX1_compareNames 24 = .ok (.iaload, 1) := by decide +kernel
theorem dX1_compareNames_25 : decode cX1_compareNames 25 = .ok (.getstatic 85, 3) := by decide +kernel
theorem dX1_compareNames_28 : decode cX1_compareNames 28 = .ok (.invokevirtual 88, 3) := by decide +kernel
theorem dX1_compareNames_31 : decode cX1_compareNames 31 = .ok (.istore 4, 2) := by decide +kernel
theorem dX1_compareNames_33 : decode cX1_compareNames 33 = .ok (.aload_n 0, 1) := by decide +kernel
theorem dX1_compareNames_34 : decode cX1_compareNames 34 = .ok (.getfield 19, 3) := by decide +kernel
theorem dX1_compareNames_37 : decode cX1_compareNames 37 = .ok (.iload_n 2, 1) := by decide +kernel
theorem dX1_compareNames_38 : decode cX1_compareNames 38 = .ok (.iload_n 3, 1) := by decide +kernel
theorem dX1_compareNames_39 : decode cX1_compareNames 39 = .ok (.iload 4, 2) := by decide +kernel
theorem dX1_compareNames_41 : decode cX1_compareNames 41 = .ok (.invokestatic 92, 3) := by decide +kernel
theorem dX1_compareNames_44 : decode cX1_compareNames 44 = .ok (.aload_n 0, 1) := by decide +kernel
theorem dX1_compareNames_45 : decode cX1_compareNames 45 = .ok (.aload_n 0, 1) := by decide +kernel
theorem dX1_compareNames_46 : decode cX1_compareNames 46 = .ok (.getfield 9, 3) := by decide +kernel
theorem dX1_compareNames_49 : decode cX1_compareNames 49 = .ok (.iload_n 2, 1) := by decide +kernel
theorem dX1_compareNames_50 : decode cX1_compareNames 50 = .ok (.bipush 20, 2) := by decide +kernel
theorem dX1_compareNames_52 : decode cX1_compareNames 52 = .ok (.imul, 1) := by decide +kernel
theorem dX1_compareNames_53 : decode cX1_compareNames 53 = .ok (.aload_n 0, 1) := by decide +kernel
theorem dX1_compareNames_54 : decode cX1_compareNames 54 = .ok (.getfield 15, 3) := by decide +kernel
theorem dX1_compareNames_57 : decode cX1_compareNames 57 = .ok (.iload_n 2, 1) := by decide +kernel
theorem dX1_compareNames_58 : decode cX1_compareNames 58 = .ok (.iaload, 1) := by decide +kernel
theorem dX1_compareNames_59 : decode cX1_compareNames 59 = .ok (.iload_n 3, 1) := by decide +kernel
theorem dX1_compareNames_60 : decode cX1_compareNames 60 = .ok (.bipush 20, 2) := by decide +kernel
theorem dX1_compareNames_62 : decode cX1_compareNames 62 = .ok (.imul, 1) := by decide +kernel
theorem dX1_compareNames_63 : decode cX1_compareNames 63 = .ok (.aload_n 0, 1) := by decide +kernel
theorem dX1_compareNames_64 : decode cX1_compareNames 64 = .ok (.getfield 15, 3) := by decide +kernel
theorem dX1_compareNames_67 : decode cX1_compareNames 67 = .ok (.iload_n 3, 1) := by decide +kernel
theorem dX1_compareNames_68 : decode cX1_compareNames 68 = .ok (.iaload, 1) := by decide +kernel
theorem dX1_compareNames_69 : decode cX1_compareNames 69 = .ok (.getstatic 96, 3) := by decide +kernel
theorem dX1_compareNames_72 : decode cX1_compareNames 72 = .ok (.invokevirtual 88, 3) := by decide +kernel
theorem dX1_compareNames_75 : decode cX1_compareNames 75 = .ok (.istore 5, 2) := by decide +kernel
theorem dX1_compareNames_77 : decode cX1_compareNames 77 = .ok (.aload_n 0, 1) := by decide +kernel
theorem dX1_compareNames_78 : decode cX1_compareNames 78 = .ok (.getfield 22, 3) := by decide +kernel
theorem dX1_compareNames_81 : decode cX1_compareNames 81 = .ok (.iload_n 2, 1) := by decide +kernel
theorem dX1_compareNames_82 : decode cX1_compareNames 82 = .ok (.iload_n 3, 1) := by decide +kernel
theorem dX1_compareNames_83 : decode cX1_compareNames 83 = .ok (.iload 5, 2) := by decide +kernel
theorem dX1_compareNames_85 : decode cX1_compareNames 85 = .ok (.invokestatic 92, 3) := by decide +kernel
theorem dX1_compareNames_88 : decode cX1_compareNames 88 = .ok (.return_, 1) := by decide +kernel
theorem dX1_likenessOf_0 : decode cX1_likenessOf 0 = .ok (.iload_n 3, 1) := by decide +kernel
theorem dX1_likenessOf_1 : decode cX1_likenessOf 1 = .ok (.iload 5, 2) := by decide +kernel
theorem dX1_likenessOf_3 : decode cX1_likenessOf 3 = .ok (.invokestatic 99, 3) := by decide +kernel
theorem dX1_likenessOf_6 : decode cX1_likenessOf 6 = .ok (.istore 7, 2) := by decide +kernel
theorem dX1_likenessOf_8 : decode cX1_likenessOf 8 = .ok (.iload 7, 2) := by decide +kernel
theorem dX1_likenessOf_10 : decode cX1_likenessOf 10 = .ok (.ifCond .ne 6, 3) := by decide +kernel
theorem dX1_likenessOf_13 : decode cX1_likenessOf 13 = .ok (.bipush 100, 2) := by decide +kernel
theorem dX1_likenessOf_15 : decode cX1_likenessOf 15 = .ok (.ireturn, 1) := by decide +kernel
theorem dX1_likenessOf_16 : decode cX1_likenessOf 16 = .ok (.aload_n 0, 1) := by decide +kernel
theorem dX1_likenessOf_17 : decode cX1_likenessOf 17 = .ok (.aload_n 1, 1) := by decide +kernel
theorem dX1_likenessOf_18 : decode cX1_likenessOf 18 = .ok (.iload_n 2, 1) := by decide +kernel
theorem dX1_likenessOf_19 : decode cX1_likenessOf 19 = .ok (.iload_n 3, 1) := by decide +kernel
theorem dX1_likenessOf_20 : decode cX1_likenessOf 20 = .ok (.iload 4, 2) := by decide +kernel
theorem dX1_likenessOf_22 : decode cX1_likenessOf 22 = .ok (.iload 5, 2) := by decide +kernel
theorem dX1_likenessOf_24 : decode cX1_likenessOf 24 = .ok (.aload 6, 2) := by decide +kernel
theorem dX1_likenessOf_26 : decode cX1_likenessOf 26 = .ok (.invokevirtual 104, 3) := by decide +kernel
theorem dX1_likenessOf_29 : decode cX1_likenessOf 29 = .ok (.istore 8, 2) := by decide +kernel
theorem dX1_likenessOf_31 : decode cX1_likenessOf 31 = .ok (.bipush 100, 2) := by decide +kernel
theorem dX1_likenessOf_33 : decode cX1_likenessOf 33 = .ok (.bipush 50, 2) := by decide +kernel
theorem dX1_likenessOf_35 : decode cX1_likenessOf 35 = .ok (.iload 8, 2) := by decide +kernel
theorem dX1_likenessOf_37 : decode cX1_likenessOf 37 = .ok (.imul, 1) := by decide +kernel
theorem dX1_likenessOf_38 : decode cX1_likenessOf 38 = .ok (.iload 7, 2) := by decide +kernel
theorem dX1_likenessOf_40 : decode cX1_likenessOf 40 = .ok (.iadd, 1) := by decide +kernel
theorem dX1_likenessOf_41 : decode cX1_likenessOf 41 = .ok (.iconst 1, 1) := by decide +kernel
theorem dX1_likenessOf_42 : decode cX1_likenessOf 42 = .ok (.isub, 1) := by decide +kernel
theorem dX1_likenessOf_43 : decode cX1_likenessOf 43 = .ok (.iload 7, 2) := by decide +kernel
theorem dX1_likenessOf_45 : decode cX1_likenessOf 45 = .ok (.idiv, 1) := by decide +kernel
theorem dX1_likenessOf_46 : decode cX1_likenessOf 46 = .ok (.isub, 1) := by decide +kernel
theorem dX1_likenessOf_47 : decode cX1_likenessOf 47 = .ok (.ireturn, 1) := by decide +kernel
theorem dX1_farOf_0 : decode cX1_farOf 0 = .ok (.iload_n 3, 1) := by decide +kernel
theorem dX1_farOf_1 : decode cX1_farOf 1 = .ok (.iload 5, 2) := by decide +kernel
theorem dX1_farOf_3 : decode cX1_farOf 3 = .ok (.invokestatic 107, 3) := by decide +kernel
theorem dX1_farOf_6 : decode cX1_farOf 6 = .ok (.istore 7, 2) := by decide +kernel
theorem dX1_farOf_8 : decode cX1_farOf 8 = .ok (.iconst 0, 1) := by decide +kernel
theorem dX1_farOf_9 : decode cX1_farOf 9 = .ok (.istore 8, 2) := by decide +kernel
theorem dX1_farOf_11 : decode cX1_farOf 11 = .ok (.iload 8, 2) := by decide +kernel
theorem dX1_farOf_13 : decode cX1_farOf 13 = .ok (.iload 7, 2) := by decide +kernel
theorem dX1_farOf_15 : decode cX1_farOf 15 = .ok (.if_icmp .ge 25, 3) := by decide +kernel
theorem dX1_farOf_18 : decode cX1_farOf 18 = .ok (.aload_n 1, 1) := by decide +kernel
theorem dX1_farOf_19 : decode cX1_farOf 19 = .ok (.iload_n 2, 1) := by decide +kernel
theorem dX1_farOf_20 : decode cX1_farOf 20 = .ok (.iload 8, 2) := by decide +kernel
theorem dX1_farOf_22 : decode cX1_farOf 22 = .ok (.iadd, 1) := by decide +kernel
theorem dX1_farOf_23 : decode cX1_farOf 23 = .ok (.baload, 1) := by decide +kernel
theorem dX1_farOf_24 : decode cX1_farOf 24 = .ok (.aload_n 1, 1) := by decide +kernel
theorem dX1_farOf_25 : decode cX1_farOf 25 = .ok (.iload 4, 2) := by decide +kernel
theorem dX1_farOf_27 : decode cX1_farOf 27 = .ok (.iload 8, 2) := by decide +kernel
theorem dX1_farOf_29 : decode cX1_farOf 29 = .ok (.iadd, 1) := by decide +kernel
theorem dX1_farOf_30 : decode cX1_farOf 30 = .ok (.baload, 1) := by decide +kernel
theorem dX1_farOf_31 : decode cX1_farOf 31 = .ok (.if_icmp .ne 9, 3) := by decide +kernel
theorem dX1_farOf_34 : decode cX1_farOf 34 = .ok (.iinc 8 1, 3) := by decide +kernel
theorem dX1_farOf_37 : decode cX1_farOf 37 = .ok (.goto (-26), 3) := by decide +kernel
theorem dX1_farOf_40 : decode cX1_farOf 40 = .ok (.iconst 0, 1) := by decide +kernel
theorem dX1_farOf_41 : decode cX1_farOf 41 = .ok (.istore 9, 2) := by decide +kernel
theorem dX1_farOf_43 : decode cX1_farOf 43 = .ok (.iload 9, 2) := by decide +kernel
theorem dX1_farOf_45 : decode cX1_farOf 45 = .ok (.iload 7, 2) := by decide +kernel
theorem dX1_farOf_47 : decode cX1_farOf 47 = .ok (.iload 8, 2) := by decide +kernel
theorem dX1_farOf_49 : decode cX1_farOf 49 = .ok (.isub, 1) := by decide +kernel
theorem dX1_farOf_50 : decode cX1_farOf 50 = .ok (.if_icmp .ge 34, 3) := by decide +kernel
theorem dX1_farOf_53 : decode cX1_farOf 53 = .ok (.aload_n 1, 1) := by decide +kernel
theorem dX1_farOf_54 : decode cX1_farOf 54 = .ok (.iload_n 2, 1) := by decide +kernel
theorem dX1_farOf_55 : decode cX1_farOf 55 = .ok (.iload_n 3, 1) := by decide +kernel
theorem dX1_farOf_56 : decode cX1_farOf 56 = .ok (.iadd, 1) := by decide +kernel
theorem dX1_farOf_57 : decode cX1_farOf 57 = .ok (.iconst 1, 1) := by decide +kernel
theorem dX1_farOf_58 : decode cX1_farOf 58 = .ok (.isub, 1) := by decide +kernel
theorem dX1_farOf_59 : decode cX1_farOf 59 = .ok (.iload 9, 2) := by decide +kernel
theorem dX1_farOf_61 : decode cX1_farOf 61 = .ok (.isub, 1) := by decide +kernel
theorem dX1_farOf_62 : decode cX1_farOf 62 = .ok (.baload, 1) := by decide +kernel
theorem dX1_farOf_63 : decode cX1_farOf 63 = .ok (.aload_n 1, 1) := by decide +kernel
theorem dX1_farOf_64 : decode cX1_farOf 64 = .ok (.iload 4, 2) := by decide +kernel
theorem dX1_farOf_66 : decode cX1_farOf 66 = .ok (.iload 5, 2) := by decide +kernel
theorem dX1_farOf_68 : decode cX1_farOf 68 = .ok (.iadd, 1) := by decide +kernel
theorem dX1_farOf_69 : decode cX1_farOf 69 = .ok (.iconst 1, 1) := by decide +kernel
theorem dX1_farOf_70 : decode cX1_farOf 70 = .ok (.isub, 1) := by decide +kernel
theorem dX1_farOf_71 : decode cX1_farOf 71 = .ok (.iload 9, 2) := by decide +kernel
theorem dX1_farOf_73 : decode cX1_farOf 73 = .ok (.isub, 1) := by decide +kernel
theorem dX1_farOf_74 : decode cX1_farOf 74 = .ok (.baload, 1) := by decide +kernel
theorem dX1_farOf_75 : decode cX1_farOf 75 = .ok (.if_icmp .ne 9, 3) := by decide +kernel
theorem dX1_farOf_78 : decode cX1_farOf 78 = .ok (.iinc 9 1, 3) := by decide +kernel
theorem dX1_farOf_81 : decode cX1_farOf 81 = .ok (.goto (-38), 3) := by decide +kernel
theorem dX1_farOf_84 : decode cX1_farOf 84 = .ok (.iload 8, 2) := by decide +kernel
theorem dX1_farOf_86 : decode cX1_farOf 86 = .ok (.iload 9, 2) := by decide +kernel
theorem dX1_farOf_88 : decode cX1_farOf 88 = .ok (.iadd, 1) := by decide +kernel
theorem dX1_farOf_89 : decode cX1_farOf 89 = .ok (.istore 10, 2) := by decide +kernel
theorem dX1_farOf_91 : decode cX1_farOf 91 = .ok (.aload_n 0, 1) := by decide +kernel
theorem dX1_farOf_92 : decode cX1_farOf 92 = .ok (.aload_n 1, 1) := by decide +kernel
theorem dX1_farOf_93 : decode cX1_farOf 93 = .ok (.iload_n 2, 1) := by decide +kernel
theorem dX1_farOf_94 : decode cX1_farOf 94 = .ok (.iload 8, 2) := by decide +kernel
theorem dX1_farOf_96 : decode cX1_farOf 96 = .ok (.iadd, 1) := by decide +kernel
theorem dX1_farOf_97 : decode cX1_farOf 97 = .ok (.iload_n 3, 1) := by decide +kernel
theorem dX1_farOf_98 : decode cX1_farOf 98 = .ok (.iload 10, 2) := by decide +kernel
theorem dX1_farOf_100 : decode cX1_farOf 100 = .ok (.isub, 1) := by decide +kernel
theorem dX1_farOf_101 : decode cX1_farOf 101 = .ok (.iload 4, 2) := by decide +kernel
theorem dX1_farOf_103 : decode cX1_farOf 103 = .ok (.iload 8, 2) := by decide +kernel
theorem dX1_farOf_105 : decode cX1_farOf 105 = .ok (.iadd, 1) := by decide +kernel
theorem dX1_farOf_106 : decode cX1_farOf 106 = .ok (.iload 5, 2) := by decide +kernel
theorem dX1_farOf_108 : decode cX1_farOf 108 = .ok (.iload 10, 2) := by decide +kernel
theorem dX1_farOf_110 : decode cX1_farOf 110 = .ok (.isub, 1) := by decide +kernel
theorem dX1_farOf_111 : decode cX1_farOf 111 = .ok (.aload 6, 2) := by decide +kernel
theorem dX1_farOf_113 : decode cX1_farOf 113 = .ok (.invokevirtual 110, 3) := by decide +kernel
theorem dX1_farOf_116 : decode cX1_farOf 116 = .ok (.ireturn, 1) := by decide +kernel
theorem dX1_costOf_0 : decode cX1_costOf 0 = .ok (.iconst 0, 1) := by decide +kernel
theorem dX1_costOf_1 : decode cX1_costOf 1 = .ok (.istore 7, 2) := by decide +kernel
theorem dX1_costOf_3 : decode cX1_costOf 3 = .ok (.iload 7, 2) := by decide +kernel
theorem dX1_costOf_5 : decode cX1_costOf 5 = .ok (.iload 5, 2) := by decide +kernel
theorem dX1_costOf_7 : decode cX1_costOf 7 = .ok (.if_icmp .gt 20, 3) := by decide +kernel
theorem dX1_costOf_10 : decode cX1_costOf 10 = .ok (.aload_n 0, 1) := by decide +kernel
theorem dX1_costOf_11 : decode cX1_costOf 11 = .ok (.getfield 34, 3) := by decide +kernel
theorem dX1_costOf_14 : decode cX1_costOf 14 = .ok (.iload 7, 2) := by decide +kernel
theorem dX1_costOf_16 : decode cX1_costOf 16 = .ok (.iconst 2, 1) := by decide +kernel
theorem dX1_costOf_17 : decode cX1_costOf 17 = .ok (.iload 7, 2) := by decide +kernel
theorem dX1_costOf_19 : decode cX1_costOf 19 = .ok (.imul, 1) := by decide +kernel
theorem dX1_costOf_20 : decode cX1_costOf 20 = .ok (.iastore, 1) := by decide +kernel
theorem dX1_costOf_21 : decode cX1_costOf 21 = .ok (.iinc 7 1, 3) := by decide +kernel
theorem dX1_costOf_24 : decode cX1_costOf 24 = .ok (.goto (-21), 3) := by decide +kernel
theorem dX1_costOf_27 : decode cX1_costOf 27 = .ok (.iconst 0, 1) := by decide +kernel
theorem dX1_costOf_28 : decode cX1_costOf 28 = .ok (.istore 7, 2) := by decide +kernel
theorem dX1_costOf_30 : decode cX1_costOf 30 = .ok (.iload 7, 2) := by decide +kernel
theorem dX1_costOf_32 : decode cX1_costOf 32 = .ok (.iload_n 3, 1) := by decide +kernel
theorem dX1_costOf_33 : decode cX1_costOf 33 = .ok (.if_icmp .ge 166, 3) := by decide +kernel
theorem dX1_costOf_36 : decode cX1_costOf 36 = .ok (.aload_n 1, 1) := by decide +kernel
theorem dX1_costOf_37 : decode cX1_costOf 37 = .ok (.iload_n 2, 1) := by decide +kernel
theorem dX1_costOf_38 : decode cX1_costOf 38 = .ok (.iload 7, 2) := by decide +kernel
theorem dX1_costOf_40 : decode cX1_costOf 40 = .ok (.iadd, 1) := by decide +kernel
theorem dX1_costOf_41 : decode cX1_costOf 41 = .ok (.baload, 1) := by decide +kernel
theorem dX1_costOf_42 : decode cX1_costOf 42 = .ok (.istore 8, 2) := by decide +kernel
theorem dX1_costOf_44 : decode cX1_costOf 44 = .ok (.aload 6, 2) := by decide +kernel
theorem dX1_costOf_46 : decode cX1_costOf 46 = .ok (.iload 8, 2) := by decide +kernel
theorem dX1_costOf_48 : decode cX1_costOf 48 = .ok (.iaload, 1) := by decide +kernel
theorem dX1_costOf_49 : decode cX1_costOf 49 = .ok (.istore 9, 2) := by decide +kernel
theorem dX1_costOf_51 : decode cX1_costOf 51 = .ok (.aload_n 0, 1) := by decide +kernel
theorem dX1_costOf_52 : decode cX1_costOf 52 = .ok (.getfield 34, 3) := by decide +kernel
theorem dX1_costOf_55 : decode cX1_costOf 55 = .ok (.iconst 0, 1) := by decide +kernel
theorem dX1_costOf_56 : decode cX1_costOf 56 = .ok (.iaload, 1) := by decide +kernel
theorem dX1_costOf_57 : decode cX1_costOf 57 = .ok (.istore 10, 2) := by decide +kernel
theorem dX1_costOf_59 : decode cX1_costOf 59 = .ok (.iload 10, 2) := by decide +kernel
theorem dX1_costOf_61 : decode cX1_costOf 61 = .ok (.iconst 2, 1) := by decide +kernel
theorem dX1_costOf_62 : decode cX1_costOf 62 = .ok (.iadd, 1) := by decide +kernel
theorem dX1_costOf_63 : decode cX1_costOf 63 = .ok (.istore 11, 2) := by decide +kernel
theorem dX1_costOf_65 : decode cX1_costOf 65 = .ok (.aload_n 0, 1) := by decide +kernel
theorem dX1_costOf_66 : decode cX1_costOf 66 = .ok (.getfield 34, 3) := by decide +kernel
theorem dX1_costOf_69 : decode cX1_costOf 69 = .ok (.iconst 0, 1) := by decide +kernel
theorem dX1_costOf_70 : decode cX1_costOf 70 = .ok (.iload 11, 2) := by decide +kernel
theorem dX1_costOf_72 : decode cX1_costOf 72 = .ok (.iastore, 1) := by decide +kernel
theorem dX1_costOf_73 : decode cX1_costOf 73 = .ok (.iconst 0, 1) := by decide +kernel
theorem dX1_costOf_74 : decode cX1_costOf 74 = .ok (.istore 12, 2) := by decide +kernel
theorem dX1_costOf_76 : decode cX1_costOf 76 = .ok (.iload 12, 2) := by decide +kernel
theorem dX1_costOf_78 : decode cX1_costOf 78 = .ok (.iload 5, 2) := by decide +kernel
theorem dX1_costOf_80 : decode cX1_costOf 80 = .ok (.if_icmp .ge 113, 3) := by decide +kernel
theorem dX1_costOf_83 : decode cX1_costOf 83 = .ok (.aload_n 1, 1) := by decide +kernel
theorem dX1_costOf_84 : decode cX1_costOf 84 = .ok (.iload 4, 2) := by decide +kernel
theorem dX1_costOf_86 : decode cX1_costOf 86 = .ok (.iload 12, 2) := by decide +kernel
theorem dX1_costOf_88 : decode cX1_costOf 88 = .ok (.iadd, 1) := by decide +kernel
theorem dX1_costOf_89 : decode cX1_costOf 89 = .ok (.baload, 1) := by decide +kernel
theorem dX1_costOf_90 : decode cX1_costOf 90 = .ok (.istore 13, 2) := by decide +kernel
theorem dX1_costOf_92 : decode cX1_costOf 92 = .ok (.aload_n 0, 1) := by decide +kernel
theorem dX1_costOf_93 : decode cX1_costOf 93 = .ok (.getfield 34, 3) := by decide +kernel
theorem dX1_costOf_96 : decode cX1_costOf 96 = .ok (.iload 12, 2) := by decide +kernel
theorem dX1_costOf_98 : decode cX1_costOf 98 = .ok (.iconst 1, 1) := by decide +kernel
theorem dX1_costOf_99 : decode cX1_costOf 99 = .ok (.iadd, 1) := by decide +kernel
theorem dX1_costOf_100 : decode cX1_costOf 100 = .ok (.iaload, 1) := by decide +kernel
theorem dX1_costOf_101 : decode cX1_costOf 101 = .ok (.istore 14, 2) := by decide +kernel
theorem dX1_costOf_103 : decode cX1_costOf 103 = .ok (.iload 10, 2) := by decide +kernel
theorem dX1_costOf_105 : decode cX1_costOf 105 = .ok (.istore 15, 2) := by decide +kernel
theorem dX1_costOf_107 : decode cX1_costOf 107 = .ok (.iload 8, 2) := by decide +kernel
theorem dX1_costOf_109 : decode cX1_costOf 109 = .ok (.iload 13, 2) := by decide +kernel
theorem dX1_costOf_111 : decode cX1_costOf 111 = .ok (.if_icmp .eq 57, 3) := by decide +kernel
theorem dX1_costOf_114 : decode cX1_costOf 114 = .ok (.iload 15, 2) := by decide +kernel
theorem dX1_costOf_116 : decode cX1_costOf 116 = .ok (.iload 9, 2) := by decide +kernel
theorem dX1_costOf_118 : decode cX1_costOf 118 = .ok (.iload 13, 2) := by decide +kernel
theorem dX1_costOf_120 : decode cX1_costOf 120 = .ok (.ishr, 1) := by decide +kernel
theorem dX1_costOf_121 : decode cX1_costOf 121 = .ok (.iconst 1, 1) := by decide +kernel
theorem dX1_costOf_122 : decode cX1_costOf 122 = .ok (.iand, 1) := by decide +kernel
theorem dX1_costOf_123 : decode cX1_costOf 123 = .ok (.ifCond .eq 7, 3) := by decide +kernel
theorem dX1_costOf_126 : decode cX1_costOf 126 = .ok (.iconst 1, 1) := by decide +kernel
theorem dX1_costOf_127 : decode cX1_costOf 127 = .ok (.goto 4, 3) := by decide +kernel
theorem dX1_costOf_130 : decode cX1_costOf 130 = .ok (.iconst 2, 1) := by decide +kernel
theorem dX1_costOf_131 : decode cX1_costOf 131 = .ok (.iadd, 1) := by decide +kernel
theorem dX1_costOf_132 : decode cX1_costOf 132 = .ok (.istore 15, 2) := by decide +kernel
theorem dX1_costOf_134 : decode cX1_costOf 134 = .ok (.iload 11, 2) := by decide +kernel
theorem dX1_costOf_136 : decode cX1_costOf 136 = .ok (.iload 14, 2) := by decide +kernel
theorem dX1_costOf_138 : decode cX1_costOf 138 = .ok (.if_icmp .ge 8, 3) := by decide +kernel
theorem dX1_costOf_141 : decode cX1_costOf 141 = .ok (.iload 11, 2) := by decide +kernel
theorem dX1_costOf_143 : decode cX1_costOf 143 = .ok (.goto 5, 3) := by decide +kernel
theorem dX1_costOf_146 : decode cX1_costOf 146 = .ok (.iload 14, 2) := by decide +kernel
theorem dX1_costOf_148 : decode cX1_costOf 148 = .ok (.iconst 2, 1) := by decide +kernel
theorem dX1_costOf_149 : decode cX1_costOf 149 = .ok (.iadd, 1) := by decide +kernel
theorem dX1_costOf_150 : decode cX1_costOf 150 = .ok (.istore 16, 2) := by decide +kernel
theorem dX1_costOf_152 : decode cX1_costOf 152 = .ok (.iload 16, 2) := by decide +kernel
theorem dX1_costOf_154 : decode cX1_costOf 154 = .ok (.iload 15, 2) := by decide +kernel
theorem dX1_costOf_156 : decode cX1_costOf 156 = .ok (.if_icmp .ge 8, 3) := by decide +kernel
theorem dX1_costOf_159 : decode cX1_costOf 159 = .ok (.iload 16, 2) := by decide +kernel
theorem dX1_costOf_161 : decode cX1_costOf 161 = .ok (.goto 5, 3) := by decide +kernel
theorem dX1_costOf_164 : decode cX1_costOf 164 = .ok (.iload 15, 2) := by decide +kernel
theorem dX1_costOf_166 : decode cX1_costOf 166 = .ok (.istore 15, 2) := by decide +kernel
theorem dX1_costOf_168 : decode cX1_costOf 168 = .ok (.iload 14, 2) := by decide +kernel
theorem dX1_costOf_170 : decode cX1_costOf 170 = .ok (.istore 10, 2) := by decide +kernel
theorem dX1_costOf_172 : decode cX1_costOf 172 = .ok (.iload 15, 2) := by decide +kernel
theorem dX1_costOf_174 : decode cX1_costOf 174 = .ok (.istore 11, 2) := by decide +kernel
theorem dX1_costOf_176 : decode cX1_costOf 176 = .ok (.aload_n 0, 1) := by decide +kernel
theorem dX1_costOf_177 : decode cX1_costOf 177 = .ok (.getfield 34, 3) := by decide +kernel
theorem dX1_costOf_180 : decode cX1_costOf 180 = .ok (.iload 12, 2) := by decide +kernel
theorem dX1_costOf_182 : decode cX1_costOf 182 = .ok (.iconst 1, 1) := by decide +kernel
theorem dX1_costOf_183 : decode cX1_costOf 183 = .ok (.iadd, 1) := by decide +kernel
theorem dX1_costOf_184 : decode cX1_costOf 184 = .ok (.iload 15, 2) := by decide +kernel
theorem dX1_costOf_186 : decode cX1_costOf 186 = .ok (.iastore, 1) := by decide +kernel
theorem dX1_costOf_187 : decode cX1_costOf 187 = .ok (.iinc 12 1, 3) := by decide +kernel
theorem dX1_costOf_190 : decode cX1_costOf 190 = .ok (.goto (-114), 3) := by decide +kernel
theorem dX1_costOf_193 : decode cX1_costOf 193 = .ok (.iinc 7 1, 3) := by decide +kernel
theorem dX1_costOf_196 : decode cX1_costOf 196 = .ok (.goto (-166), 3) := by decide +kernel
theorem dX1_costOf_199 : decode cX1_costOf 199 = .ok (.aload_n 0, 1) := by decide +kernel
theorem dX1_costOf_200 : decode cX1_costOf 200 = .ok (.getfield 34, 3) := by decide +kernel
theorem dX1_costOf_203 : decode cX1_costOf 203 = .ok (.iload 5, 2) := by decide +kernel
theorem dX1_costOf_205 : decode cX1_costOf 205 = .ok (.iaload, 1) := by decide +kernel
theorem dX1_costOf_206 : decode cX1_costOf 206 = .ok (.ireturn, 1) := by decide +kernel
theorem dX1_compareGoods_0 : decode cX1_compareGoods 0 = .ok (.iconst 0, 1) := by decide +kernel
theorem dX1_compareGoods_1 : decode cX1_compareGoods 1 = .ok (.istore_n 3, 1) := by decide +kernel
theorem dX1_compareGoods_2 : decode cX1_compareGoods 2 = .ok (.iload_n 3, 1) := by decide +kernel
theorem dX1_compareGoods_3 : decode cX1_compareGoods 3 = .ok (.aload_n 1, 1) := by decide +kernel
theorem dX1_compareGoods_4 : decode cX1_compareGoods 4 = .ok (.getfield 47, 3) := by decide +kernel
theorem dX1_compareGoods_7 : decode cX1_compareGoods 7 = .ok (.if_icmp .ge 38, 3) := by decide +kernel
theorem dX1_compareGoods_10 : decode cX1_compareGoods 10 = .ok (.aload_n 1, 1) := by decide +kernel
theorem dX1_compareGoods_11 : decode cX1_compareGoods 11 = .ok (.aload_n 1, 1) := by decide +kernel
theorem dX1_compareGoods_12 : decode cX1_compareGoods 12 = .ok (.getfield 113, 3) := by decide +kernel
theorem dX1_compareGoods_15 : decode cX1_compareGoods 15 = .ok (.iload_n 2, 1) := by decide +kernel
theorem dX1_compareGoods_16 : decode cX1_compareGoods 16 = .ok (.iaload, 1) := by decide +kernel
theorem dX1_compareGoods_17 : decode cX1_compareGoods 17 = .ok (.aload_n 1, 1) := by decide +kernel
theorem dX1_compareGoods_18 : decode cX1_compareGoods 18 = .ok (.getfield 113, 3) := by decide +kernel
theorem dX1_compareGoods_21 : decode cX1_compareGoods 21 = .ok (.iload_n 3, 1) := by decide +kernel
theorem dX1_compareGoods_22 : decode cX1_compareGoods 22 = .ok (.iaload, 1) := by decide +kernel
theorem dX1_compareGoods_23 : decode cX1_compareGoods 23 = .ok (.invokevirtual 116, 3) := by decide +kernel
theorem dX1_compareGoods_26 : decode cX1_compareGoods 26 = .ok (.istore 4, 2) := by decide +kernel
theorem dX1_compareGoods_28 : decode cX1_compareGoods 28 = .ok (.aload_n 0, 1) := by decide +kernel
theorem dX1_compareGoods_29 : decode cX1_compareGoods 29 = .ok (.getfield 25, 3) := by decide +kernel
theorem dX1_compareGoods_32 : decode cX1_compareGoods 32 = .ok (.iload_n 2, 1) := by decide +kernel
theorem dX1_compareGoods_33 : decode cX1_compareGoods 33 = .ok (.iload_n 3, 1) := by decide +kernel
theorem dX1_compareGoods_34 : decode cX1_compareGoods 34 = .ok (.iload 4, 2) := by decide +kernel
theorem dX1_compareGoods_36 : decode cX1_compareGoods 36 = .ok (.invokestatic 92, 3) := by decide +kernel
theorem dX1_compareGoods_39 : decode cX1_compareGoods 39 = .ok (.iinc 3 1, 3) := by decide +kernel
theorem dX1_compareGoods_42 : decode cX1_compareGoods 42 = .ok (.goto (-40), 3) := by decide +kernel
theorem dX1_compareGoods_45 : decode cX1_compareGoods 45 = .ok (.return_, 1) := by decide +kernel
theorem dX1_ofNames_0 : decode cX1_ofNames 0 = .ok (.aload_n 1, 1) := by decide +kernel
theorem dX1_ofNames_1 : decode cX1_ofNames 1 = .ok (.getfield 119, 3) := by decide +kernel
theorem dX1_ofNames_4 : decode cX1_ofNames 4 = .ok (.iconst 5, 1) := by decide +kernel
theorem dX1_ofNames_5 : decode cX1_ofNames 5 = .ok (.iaload, 1) := by decide +kernel
theorem dX1_ofNames_6 : decode cX1_ofNames 6 = .ok (.istore 4, 2) := by decide +kernel
theorem dX1_ofNames_8 : decode cX1_ofNames 8 = .ok (.iload_n 2, 1) := by decide +kernel
theorem dX1_ofNames_9 : decode cX1_ofNames 9 = .ok (.iload_n 3, 1) := by decide +kernel
theorem dX1_ofNames_10 : decode cX1_ofNames 10 = .ok (.invokestatic 37, 3) := by decide +kernel
theorem dX1_ofNames_13 : decode cX1_ofNames 13 = .ok (.istore 5, 2) := by decide +kernel
theorem dX1_ofNames_15 : decode cX1_ofNames 15 = .ok (.iload 4, 2) := by decide +kernel
theorem dX1_ofNames_17 : decode cX1_ofNames 17 = .ok (.aload_n 0, 1) := by decide +kernel
theorem dX1_ofNames_18 : decode cX1_ofNames 18 = .ok (.getfield 22, 3) := by decide +kernel
theorem dX1_ofNames_21 : decode cX1_ofNames 21 = .ok (.iload 5, 2) := by decide +kernel
theorem dX1_ofNames_23 : decode cX1_ofNames 23 = .ok (.iaload, 1) := by decide +kernel
theorem dX1_ofNames_24 : decode cX1_ofNames 24 = .ok (.imul, 1) := by decide +kernel
theorem dX1_ofNames_25 : decode cX1_ofNames 25 = .ok (.bipush 100, 2) := by decide +kernel
theorem dX1_ofNames_27 : decode cX1_ofNames 27 = .ok (.iload 4, 2) := by decide +kernel
theorem dX1_ofNames_29 : decode cX1_ofNames 29 = .ok (.isub, 1) := by decide +kernel
theorem dX1_ofNames_30 : decode cX1_ofNames 30 = .ok (.aload_n 0, 1) := by decide +kernel
theorem dX1_ofNames_31 : decode cX1_ofNames 31 = .ok (.getfield 19, 3) := by decide +kernel
theorem dX1_ofNames_34 : decode cX1_ofNames 34 = .ok (.iload 5, 2) := by decide +kernel
theorem dX1_ofNames_36 : decode cX1_ofNames 36 = .ok (.iaload, 1) := by decide +kernel
theorem dX1_ofNames_37 : decode cX1_ofNames 37 = .ok (.imul, 1) := by decide +kernel
theorem dX1_ofNames_38 : decode cX1_ofNames 38 = .ok (.iadd, 1) := by decide +kernel
theorem dX1_ofNames_39 : decode cX1_ofNames 39 = .ok (.bipush 100, 2) := by decide +kernel
theorem dX1_ofNames_41 : decode cX1_ofNames 41 = .ok (.idiv, 1) := by decide +kernel
theorem dX1_ofNames_42 : decode cX1_ofNames 42 = .ok (.ireturn, 1) := by decide +kernel
theorem dX1_isNear_0 : decode cX1_isNear 0 = .ok (.aload_n 0, 1) := by decide +kernel
theorem dX1_isNear_1 : decode cX1_isNear 1 = .ok (.getfield 25, 3) := by decide +kernel
theorem dX1_isNear_4 : decode cX1_isNear 4 = .ok (.iload_n 2, 1) := by decide +kernel
theorem dX1_isNear_5 : decode cX1_isNear 5 = .ok (.iload_n 3, 1) := by decide +kernel
theorem dX1_isNear_6 : decode cX1_isNear 6 = .ok (.invokestatic 37, 3) := by decide +kernel
theorem dX1_isNear_9 : decode cX1_isNear 9 = .ok (.iaload, 1) := by decide +kernel
theorem dX1_isNear_10 : decode cX1_isNear 10 = .ok (.istore 4, 2) := by decide +kernel
theorem dX1_isNear_12 : decode cX1_isNear 12 = .ok (.iload 4, 2) := by decide +kernel
theorem dX1_isNear_14 : decode cX1_isNear 14 = .ok (.iconst (-1), 1) := by decide +kernel
theorem dX1_isNear_15 : decode cX1_isNear 15 = .ok (.if_icmp .eq 18, 3) := by decide +kernel
theorem dX1_isNear_18 : decode cX1_isNear 18 = .ok (.iload 4, 2) := by decide +kernel
theorem dX1_isNear_20 : decode cX1_isNear 20 = .ok (.aload_n 1, 1) := by decide +kernel
theorem dX1_isNear_21 : decode cX1_isNear 21 = .ok (.getfield 119, 3) := by decide +kernel
theorem dX1_isNear_24 : decode cX1_isNear 24 = .ok (.iconst 3, 1) := by decide +kernel
theorem dX1_isNear_25 : decode cX1_isNear 25 = .ok (.iaload, 1) := by decide +kernel
theorem dX1_isNear_26 : decode cX1_isNear 26 = .ok (.if_icmp .gt 7, 3) := by decide +kernel
theorem dX1_isNear_29 : decode cX1_isNear 29 = .ok (.iconst 1, 1) := by decide +kernel
theorem dX1_isNear_30 : decode cX1_isNear 30 = .ok (.goto 4, 3) := by decide +kernel
theorem dX1_isNear_33 : decode cX1_isNear 33 = .ok (.iconst 0, 1) := by decide +kernel
theorem dX1_isNear_34 : decode cX1_isNear 34 = .ok (.ireturn, 1) := by decide +kernel
theorem dX1_fieldOf_0 : decode cX1_fieldOf 0 = .ok (.aload_n 0, 1) := by decide +kernel
theorem dX1_fieldOf_1 : decode cX1_fieldOf 1 = .ok (.getfield 28, 3) := by decide +kernel
theorem dX1_fieldOf_4 : decode cX1_fieldOf 4 = .ok (.iload_n 1, 1) := by decide +kernel
theorem dX1_fieldOf_5 : decode cX1_fieldOf 5 = .ok (.iaload, 1) := by decide +kernel
theorem dX1_fieldOf_6 : decode cX1_fieldOf 6 = .ok (.invokestatic 122, 3) := by decide +kernel
theorem dX1_fieldOf_9 : decode cX1_fieldOf 9 = .ok (.ireturn, 1) := by decide +kernel
theorem dX1_crowdedBy_0 : decode cX1_crowdedBy 0 = .ok (.iconst 0, 1) := by decide +kernel
theorem dX1_crowdedBy_1 : decode cX1_crowdedBy 1 = .ok (.aload_n 0, 1) := by decide +kernel
theorem dX1_crowdedBy_2 : decode cX1_crowdedBy 2 = .ok (.iload_n 2, 1) := by decide +kernel
theorem dX1_crowdedBy_3 : decode cX1_crowdedBy 3 = .ok (.invokevirtual 128, 3) := by decide +kernel
theorem dX1_crowdedBy_6 : decode cX1_crowdedBy 6 = .ok (.aload_n 1, 1) := by decide +kernel
theorem dX1_crowdedBy_7 : decode cX1_crowdedBy 7 = .ok (.getfield 119, 3) := by decide +kernel
theorem dX1_crowdedBy_10 : decode cX1_crowdedBy 10 = .ok (.iconst 2, 1) := by decide +kernel
theorem dX1_crowdedBy_11 : decode cX1_crowdedBy 11 = .ok (.iaload, 1) := by decide +kernel
theorem dX1_crowdedBy_12 : decode cX1_crowdedBy 12 = .ok (.isub, 1) := by decide +kernel
theorem dX1_crowdedBy_13 : decode cX1_crowdedBy 13 = .ok (.invokestatic 99, 3) := by decide +kernel
theorem dX1_crowdedBy_16 : decode cX1_crowdedBy 16 = .ok (.ireturn, 1) := by decide +kernel
theorem dX1_rename_0 : decode cX1_rename 0 = .ok (.aload_n 0, 1) := by decide +kernel
theorem dX1_rename_1 : decode cX1_rename 1 = .ok (.aload_n 1, 1) := by decide +kernel
theorem dX1_rename_2 : decode cX1_rename 2 = .ok (.iload_n 2, 1) := by decide +kernel
theorem dX1_rename_3 : decode cX1_rename 3 = .ok (.invokevirtual 53, 3) := by decide +kernel
theorem dX1_rename_6 : decode cX1_rename 6 = .ok (.iconst 0, 1) := by decide +kernel
theorem dX1_rename_7 : decode cX1_rename 7 = .ok (.istore_n 3, 1) := by decide +kernel
theorem dX1_rename_8 : decode cX1_rename 8 = .ok (.iload_n 3, 1) := by decide +kernel
theorem dX1_rename_9 : decode cX1_rename 9 = .ok (.aload_n 1, 1) := by decide +kernel
theorem dX1_rename_10 : decode cX1_rename 10 = .ok (.getfield 47, 3) := by decide +kernel
theorem dX1_rename_13 : decode cX1_rename 13 = .ok (.if_icmp .ge 31, 3) := by decide +kernel
theorem dX1_rename_16 : decode cX1_rename 16 = .ok (.iload_n 3, 1) := by decide +kernel
theorem dX1_rename_17 : decode cX1_rename 17 = .ok (.iload_n 2, 1) := by decide +kernel
theorem dX1_rename_18 : decode cX1_rename 18 = .ok (.if_icmp .eq 20, 3) := by decide +kernel
theorem dX1_rename_21 : decode cX1_rename 21 = .ok (.aload_n 0, 1) := by decide +kernel
theorem dX1_rename_22 : decode cX1_rename 22 = .ok (.aload_n 1, 1) := by decide +kernel
theorem dX1_rename_23 : decode cX1_rename 23 = .ok (.iload_n 2, 1) := by decide +kernel
theorem dX1_rename_24 : decode cX1_rename 24 = .ok (.iload_n 3, 1) := by decide +kernel
theorem dX1_rename_25 : decode cX1_rename 25 = .ok (.invokevirtual 131, 3) := by decide +kernel
theorem dX1_rename_28 : decode cX1_rename 28 = .ok (.ifCond .eq 10, 3) := by decide +kernel
theorem dX1_rename_31 : decode cX1_rename 31 = .ok (.aload_n 0, 1) := by decide +kernel
theorem dX1_rename_32 : decode cX1_rename 32 = .ok (.aload_n 1, 1) := by decide +kernel
theorem dX1_rename_33 : decode cX1_rename 33 = .ok (.iload_n 2, 1) := by decide +kernel
theorem dX1_rename_34 : decode cX1_rename 34 = .ok (.iload_n 3, 1) := by decide +kernel
theorem dX1_rename_35 : decode cX1_rename 35 = .ok (.invokevirtual 57, 3) := by decide +kernel
theorem dX1_rename_38 : decode cX1_rename 38 = .ok (.iinc 3 1, 3) := by decide +kernel
theorem dX1_rename_41 : decode cX1_rename 41 = .ok (.goto (-33), 3) := by decide +kernel
theorem dX1_rename_44 : decode cX1_rename 44 = .ok (.aload_n 0, 1) := by decide +kernel
theorem dX1_rename_45 : decode cX1_rename 45 = .ok (.aload_n 1, 1) := by decide +kernel
theorem dX1_rename_46 : decode cX1_rename 46 = .ok (.invokevirtual 135, 3) := by decide +kernel
theorem dX1_rename_49 : decode cX1_rename 49 = .ok (.return_, 1) := by decide +kernel
theorem dX1_judge_0 : decode cX1_judge 0 = .ok (.iconst 0, 1) := by decide +kernel
theorem dX1_judge_1 : decode cX1_judge 1 = .ok (.istore_n 2, 1) := by decide +kernel
theorem dX1_judge_2 : decode cX1_judge 2 = .ok (.iload_n 2, 1) := by decide +kernel
theorem dX1_judge_3 : decode cX1_judge 3 = .ok (.aload_n 1, 1) := by decide +kernel
theorem dX1_judge_4 : decode cX1_judge 4 = .ok (.getfield 47, 3) := by decide +kernel
theorem dX1_judge_7 : decode cX1_judge 7 = .ok (.if_icmp .ge 73, 3) := by decide +kernel
theorem dX1_judge_10 : decode cX1_judge 10 = .ok (.aload_n 0, 1) := by decide +kernel
theorem dX1_judge_11 : decode cX1_judge 11 = .ok (.getfield 28, 3) := by decide +kernel
theorem dX1_judge_14 : decode cX1_judge 14 = .ok (.iload_n 2, 1) := by decide +kernel
theorem dX1_judge_15 : decode cX1_judge 15 = .ok (.iconst 0, 1) := by decide +kernel
theorem dX1_judge_16 : decode cX1_judge 16 = .ok (.iastore, 1) := by decide +kernel
theorem dX1_judge_17 : decode cX1_judge 17 = .ok (.aload_n 0, 1) := by decide +kernel
theorem dX1_judge_18 : decode cX1_judge 18 = .ok (.getfield 31, 3) := by decide +kernel
theorem dX1_judge_21 : decode cX1_judge 21 = .ok (.iload_n 2, 1) := by decide +kernel
theorem dX1_judge_22 : decode cX1_judge 22 = .ok (.iconst 0, 1) := by decide +kernel
theorem dX1_judge_23 : decode cX1_judge 23 = .ok (.iastore, 1) := by decide +kernel
theorem dX1_judge_24 : decode cX1_judge 24 = .ok (.iconst 0, 1) := by decide +kernel
theorem dX1_judge_25 : decode cX1_judge 25 = .ok (.istore_n 3, 1) := by decide +kernel
theorem dX1_judge_26 : decode cX1_judge 26 = .ok (.iload_n 3, 1) := by decide +kernel
theorem dX1_judge_27 : decode cX1_judge 27 = .ok (.iload_n 2, 1) := by decide +kernel
theorem dX1_judge_28 : decode cX1_judge 28 = .ok (.if_icmp .ge 46, 3) := by decide +kernel
theorem dX1_judge_31 : decode cX1_judge 31 = .ok (.aload_n 0, 1) := by decide +kernel
theorem dX1_judge_32 : decode cX1_judge 32 = .ok (.aload_n 1, 1) := by decide +kernel
theorem dX1_judge_33 : decode cX1_judge 33 = .ok (.iload_n 2, 1) := by decide +kernel
theorem dX1_judge_34 : decode cX1_judge 34 = .ok (.iload_n 3, 1) := by decide +kernel
theorem dX1_judge_35 : decode cX1_judge 35 = .ok (.invokevirtual 131, 3) := by decide +kernel
theorem dX1_judge_38 : decode cX1_judge 38 = .ok (.ifCond .eq 30, 3) := by decide +kernel
theorem dX1_judge_41 : decode cX1_judge 41 = .ok (.aload_n 0, 1) := by decide +kernel
theorem dX1_judge_42 : decode cX1_judge 42 = .ok (.aload_n 1, 1) := by decide +kernel
theorem dX1_judge_43 : decode cX1_judge 43 = .ok (.iload_n 2, 1) := by decide +kernel
theorem dX1_judge_44 : decode cX1_judge 44 = .ok (.iload_n 3, 1) := by decide +kernel
theorem dX1_judge_45 : decode cX1_judge 45 = .ok (.invokevirtual 139, 3) := by decide +kernel
theorem dX1_judge_48 : decode cX1_judge 48 = .ok (.aload_n 1, 1) := by decide +kernel
theorem dX1_judge_49 : decode cX1_judge 49 = .ok (.getfield 119, 3) := by decide +kernel
theorem dX1_judge_52 : decode cX1_judge 52 = .ok (.iconst 0, 1) := by decide +kernel
theorem dX1_judge_53 : decode cX1_judge 53 = .ok (.iaload, 1) := by decide +kernel
theorem dX1_judge_54 : decode cX1_judge 54 = .ok (.if_icmp .lt 14, 3) := by decide +kernel
theorem dX1_judge_57 : decode cX1_judge 57 = .ok (.aload_n 0, 1) := by decide +kernel
theorem dX1_judge_58 : decode cX1_judge 58 = .ok (.getfield 28, 3) := by decide +kernel
theorem dX1_judge_61 : decode cX1_judge 61 = .ok (.iload_n 2, 1) := by decide +kernel
theorem dX1_judge_62 : decode cX1_judge 62 = .ok (.iload_n 3, 1) := by decide +kernel
theorem dX1_judge_63 : decode cX1_judge 63 = .ok (.iconst 1, 1) := by decide +kernel
theorem dX1_judge_64 : decode cX1_judge 64 = .ok (.invokestatic 143, 3) := by decide +kernel
theorem dX1_judge_67 : decode cX1_judge 67 = .ok (.pop, 1) := by decide +kernel
theorem dX1_judge_68 : decode cX1_judge 68 = .ok (.iinc 3 1, 3) := by decide +kernel
theorem dX1_judge_71 : decode cX1_judge 71 = .ok (.goto (-45), 3) := by decide +kernel
theorem dX1_judge_74 : decode cX1_judge 74 = .ok (.iinc 2 1, 3) := by decide +kernel
theorem dX1_judge_77 : decode cX1_judge 77 = .ok (.goto (-75), 3) := by decide +kernel
theorem dX1_judge_80 : decode cX1_judge 80 = .ok (.iconst 0, 1) := by decide +kernel
theorem dX1_judge_81 : decode cX1_judge 81 = .ok (.istore_n 2, 1) := by decide +kernel
theorem dX1_judge_82 : decode cX1_judge 82 = .ok (.iload_n 2, 1) := by decide +kernel
theorem dX1_judge_83 : decode cX1_judge 83 = .ok (.aload_n 1, 1) := by decide +kernel
theorem dX1_judge_84 : decode cX1_judge 84 = .ok (.getfield 47, 3) := by decide +kernel
theorem dX1_judge_87 : decode cX1_judge 87 = .ok (.if_icmp .ge 63, 3) := by decide +kernel
theorem dX1_judge_90 : decode cX1_judge 90 = .ok (.iconst 0, 1) := by decide +kernel
theorem dX1_judge_91 : decode cX1_judge 91 = .ok (.istore_n 3, 1) := by decide +kernel
theorem dX1_judge_92 : decode cX1_judge 92 = .ok (.iload_n 3, 1) := by decide +kernel
theorem dX1_judge_93 : decode cX1_judge 93 = .ok (.iload_n 2, 1) := by decide +kernel
theorem dX1_judge_94 : decode cX1_judge 94 = .ok (.if_icmp .ge 50, 3) := by decide +kernel
theorem dX1_judge_97 : decode cX1_judge 97 = .ok (.iload_n 3, 1) := by decide +kernel
theorem dX1_judge_98 : decode cX1_judge 98 = .ok (.aload_n 0, 1) := by decide +kernel
theorem dX1_judge_99 : decode cX1_judge 99 = .ok (.getfield 28, 3) := by decide +kernel
theorem dX1_judge_102 : decode cX1_judge 102 = .ok (.iload_n 2, 1) := by decide +kernel
theorem dX1_judge_103 : decode cX1_judge 103 = .ok (.iaload, 1) := by decide +kernel
theorem dX1_judge_104 : decode cX1_judge 104 = .ok (.invokestatic 147, 3) := by decide +kernel
theorem dX1_judge_107 : decode cX1_judge 107 = .ok (.ifCond .eq 31, 3) := by decide +kernel
theorem dX1_judge_110 : decode cX1_judge 110 = .ok (.aload_n 0, 1) := by decide +kernel
theorem dX1_judge_111 : decode cX1_judge 111 = .ok (.aload_n 1, 1) := by decide +kernel
theorem dX1_judge_112 : decode cX1_judge 112 = .ok (.iload_n 2, 1) := by decide +kernel
theorem dX1_judge_113 : decode cX1_judge 113 = .ok (.iload_n 3, 1) := by decide +kernel
theorem dX1_judge_114 : decode cX1_judge 114 = .ok (.invokevirtual 139, 3) := by decide +kernel
theorem dX1_judge_117 : decode cX1_judge 117 = .ok (.aload_n 0, 1) := by decide +kernel
theorem dX1_judge_118 : decode cX1_judge 118 = .ok (.aload_n 1, 1) := by decide +kernel
theorem dX1_judge_119 : decode cX1_judge 119 = .ok (.iload_n 2, 1) := by decide +kernel
theorem dX1_judge_120 : decode cX1_judge 120 = .ok (.iload_n 3, 1) := by decide +kernel
theorem dX1_judge_121 : decode cX1_judge 121 = .ok (.invokevirtual 151, 3) := by decide +kernel
theorem dX1_judge_124 : decode cX1_judge 124 = .ok (.if_icmp .lt 14, 3) := by decide +kernel
theorem dX1_judge_127 : decode cX1_judge 127 = .ok (.aload_n 0, 1) := by decide +kernel
theorem dX1_judge_128 : decode cX1_judge 128 = .ok (.getfield 31, 3) := by decide +kernel
theorem dX1_judge_131 : decode cX1_judge 131 = .ok (.iload_n 2, 1) := by decide +kernel
theorem dX1_judge_132 : decode cX1_judge 132 = .ok (.iload_n 3, 1) := by decide +kernel
theorem dX1_judge_133 : decode cX1_judge 133 = .ok (.iconst 1, 1) := by decide +kernel
theorem dX1_judge_134 : decode cX1_judge 134 = .ok (.invokestatic 143, 3) := by decide +kernel
theorem dX1_judge_137 : decode cX1_judge 137 = .ok (.pop, 1) := by decide +kernel
theorem dX1_judge_138 : decode cX1_judge 138 = .ok (.iinc 3 1, 3) := by decide +kernel
theorem dX1_judge_141 : decode cX1_judge 141 = .ok (.goto (-49), 3) := by decide +kernel
theorem dX1_judge_144 : decode cX1_judge 144 = .ok (.iinc 2 1, 3) := by decide +kernel
theorem dX1_judge_147 : decode cX1_judge 147 = .ok (.goto (-65), 3) := by decide +kernel
theorem dX1_judge_150 : decode cX1_judge 150 = .ok (.return_, 1) := by decide +kernel
theorem dX1_likenessBorne_0 : decode cX1_likenessBorne 0 = .ok (.aload_n 0, 1) := by decide +kernel
theorem dX1_likenessBorne_1 : decode cX1_likenessBorne 1 = .ok (.aload_n 1, 1) := by decide +kernel
theorem dX1_likenessBorne_2 : decode cX1_likenessBorne 2 = .ok (.iload_n 2, 1) := by decide +kernel
theorem dX1_likenessBorne_3 : decode cX1_likenessBorne 3 = .ok (.invokevirtual 154, 3) := by decide +kernel
theorem dX1_likenessBorne_6 : decode cX1_likenessBorne 6 = .ok (.aload_n 0, 1) := by decide +kernel
theorem dX1_likenessBorne_7 : decode cX1_likenessBorne 7 = .ok (.aload_n 1, 1) := by decide +kernel
theorem dX1_likenessBorne_8 : decode cX1_likenessBorne 8 = .ok (.iload_n 3, 1) := by decide +kernel
theorem dX1_likenessBorne_9 : decode cX1_likenessBorne 9 = .ok (.invokevirtual 154, 3) := by decide +kernel
theorem dX1_likenessBorne_12 : decode cX1_likenessBorne 12 = .ok (.invokestatic 99, 3) := by decide +kernel
theorem dX1_likenessBorne_15 : decode cX1_likenessBorne 15 = .ok (.istore 4, 2) := by decide +kernel
theorem dX1_likenessBorne_17 : decode cX1_likenessBorne 17 = .ok (.bipush 100, 2) := by decide +kernel
theorem dX1_likenessBorne_19 : decode cX1_likenessBorne 19 = .ok (.aload_n 1, 1) := by decide +kernel
theorem dX1_likenessBorne_20 : decode cX1_likenessBorne 20 = .ok (.getfield 119, 3) := by decide +kernel
theorem dX1_likenessBorne_23 : decode cX1_likenessBorne 23 = .ok (.iconst 0, 1) := by decide +kernel
theorem dX1_likenessBorne_24 : decode cX1_likenessBorne 24 = .ok (.iaload, 1) := by decide +kernel
theorem dX1_likenessBorne_25 : decode cX1_likenessBorne 25 = .ok (.aload_n 1, 1) := by decide +kernel
theorem dX1_likenessBorne_26 : decode cX1_likenessBorne 26 = .ok (.getfield 119, 3) := by decide +kernel
theorem dX1_likenessBorne_29 : decode cX1_likenessBorne 29 = .ok (.iconst 1, 1) := by decide +kernel
theorem dX1_likenessBorne_30 : decode cX1_likenessBorne 30 = .ok (.iaload, 1) := by decide +kernel
theorem dX1_likenessBorne_31 : decode cX1_likenessBorne 31 = .ok (.iload 4, 2) := by decide +kernel
theorem dX1_likenessBorne_33 : decode cX1_likenessBorne 33 = .ok (.imul, 1) := by decide +kernel
theorem dX1_likenessBorne_34 : decode cX1_likenessBorne 34 = .ok (.iadd, 1) := by decide +kernel
theorem dX1_likenessBorne_35 : decode cX1_likenessBorne 35 = .ok (.invokestatic 107, 3) := by decide +kernel
theorem dX1_likenessBorne_38 : decode cX1_likenessBorne 38 = .ok (.ireturn, 1) := by decide +kernel
theorem dX1_groupOf_0 : decode cX1_groupOf 0 = .ok (.iconst 1, 1) := by decide +kernel
theorem dX1_groupOf_1 : decode cX1_groupOf 1 = .ok (.iload_n 2, 1) := by decide +kernel
theorem dX1_groupOf_2 : decode cX1_groupOf 2 = .ok (.ishl, 1) := by decide +kernel
theorem dX1_groupOf_3 : decode cX1_groupOf 3 = .ok (.istore_n 3, 1) := by decide +kernel
theorem dX1_groupOf_4 : decode cX1_groupOf 4 = .ok (.iconst 0, 1) := by decide +kernel
theorem dX1_groupOf_5 : decode cX1_groupOf 5 = .ok (.istore 4, 2) := by decide +kernel
theorem dX1_groupOf_7 : decode cX1_groupOf 7 = .ok (.iload 4, 2) := by decide +kernel
theorem dX1_groupOf_9 : decode cX1_groupOf 9 = .ok (.bipush 13, 2) := by decide +kernel
theorem dX1_groupOf_11 : decode cX1_groupOf 11 = .ok (.if_icmp .ge 63, 3) := by decide +kernel
theorem dX1_groupOf_14 : decode cX1_groupOf 14 = .ok (.iload_n 3, 1) := by decide +kernel
theorem dX1_groupOf_15 : decode cX1_groupOf 15 = .ok (.istore 5, 2) := by decide +kernel
theorem dX1_groupOf_17 : decode cX1_groupOf 17 = .ok (.iconst 0, 1) := by decide +kernel
theorem dX1_groupOf_18 : decode cX1_groupOf 18 = .ok (.istore 6, 2) := by decide +kernel
theorem dX1_groupOf_20 : decode cX1_groupOf 20 = .ok (.iload 6, 2) := by decide +kernel
theorem dX1_groupOf_22 : decode cX1_groupOf 22 = .ok (.aload_n 1, 1) := by decide +kernel
theorem dX1_groupOf_23 : decode cX1_groupOf 23 = .ok (.getfield 47, 3) := by decide +kernel
theorem dX1_groupOf_26 : decode cX1_groupOf 26 = .ok (.if_icmp .ge 30, 3) := by decide +kernel
theorem dX1_groupOf_29 : decode cX1_groupOf 29 = .ok (.iload 6, 2) := by decide +kernel
theorem dX1_groupOf_31 : decode cX1_groupOf 31 = .ok (.iload_n 3, 1) := by decide +kernel
theorem dX1_groupOf_32 : decode cX1_groupOf 32 = .ok (.invokestatic 147, 3) := by decide +kernel
theorem dX1_groupOf_35 : decode cX1_groupOf 35 = .ok (.ifCond .eq 15, 3) := by decide +kernel
theorem dX1_groupOf_38 : decode cX1_groupOf 38 = .ok (.iload 5, 2) := by decide +kernel
theorem dX1_groupOf_40 : decode cX1_groupOf 40 = .ok (.aload_n 0, 1) := by decide +kernel
theorem dX1_groupOf_41 : decode cX1_groupOf 41 = .ok (.getfield 31, 3) := by decide +kernel
theorem dX1_groupOf_44 : decode cX1_groupOf 44 = .ok (.iload 6, 2) := by decide +kernel
theorem dX1_groupOf_46 : decode cX1_groupOf 46 = .ok (.iaload, 1) := by decide +kernel
theorem dX1_groupOf_47 : decode cX1_groupOf 47 = .ok (.ior, 1) := by decide +kernel
theorem dX1_groupOf_48 : decode cX1_groupOf 48 = .ok (.istore 5, 2) := by decide +kernel
theorem dX1_groupOf_50 : decode cX1_groupOf 50 = .ok (.iinc 6 1, 3) := by decide +kernel
theorem dX1_groupOf_53 : decode cX1_groupOf 53 = .ok (.goto (-33), 3) := by decide +kernel
theorem dX1_groupOf_56 : decode cX1_groupOf 56 = .ok (.iload 5, 2) := by decide +kernel
theorem dX1_groupOf_58 : decode cX1_groupOf 58 = .ok (.iload_n 3, 1) := by decide +kernel
theorem dX1_groupOf_59 : decode cX1_groupOf 59 = .ok (.if_icmp .ne 6, 3) := by decide +kernel
theorem dX1_groupOf_62 : decode cX1_groupOf 62 = .ok (.goto 12, 3) := by decide +kernel
theorem dX1_groupOf_65 : decode cX1_groupOf 65 = .ok (.iload 5, 2) := by decide +kernel
theorem dX1_groupOf_67 : decode cX1_groupOf 67 = .ok (.istore_n 3, 1) := by decide +kernel
theorem dX1_groupOf_68 : decode cX1_groupOf 68 = .ok (.iinc 4 1, 3) := by decide +kernel
theorem dX1_groupOf_71 : decode cX1_groupOf 71 = .ok (.goto (-64), 3) := by decide +kernel
theorem dX1_groupOf_74 : decode cX1_groupOf 74 = .ok (.iload_n 3, 1) := by decide +kernel
theorem dX1_groupOf_75 : decode cX1_groupOf 75 = .ok (.ireturn, 1) := by decide +kernel
theorem dX2_init_0 : decode cX2_init 0 = .ok (.aload_n 0, 1) := by decide +kernel
theorem dX2_init_1 : decode cX2_init 1 = .ok (.invokespecial 3, 3) := by decide +kernel
theorem dX2_init_4 : decode cX2_init 4 = .ok (.aload_n 0, 1) := by decide +kernel
theorem dX2_init_5 : decode cX2_init 5 = .ok (.iconst 0, 1) := by decide +kernel
theorem dX2_init_6 : decode cX2_init 6 = .ok (.putfield 9, 3) := by decide +kernel
theorem dX2_init_9 : decode cX2_init 9 = .ok (.aload_n 0, 1) := by decide +kernel
theorem dX2_init_10 : decode cX2_init 10 = .ok (.iconst (-1), 1) := by decide +kernel
theorem dX2_init_11 : decode cX2_init 11 = .ok (.putfield 15, 3) := by decide +kernel
theorem dX2_init_14 : decode cX2_init 14 = .ok (.aload_n 0, 1) := by decide +kernel
theorem dX2_init_15 : decode cX2_init 15 = .ok (.iconst 0, 1) := by decide +kernel
theorem dX2_init_16 : decode cX2_init 16 = .ok (.putfield 18, 3) := by decide +kernel
theorem dX2_init_19 : decode cX2_init 19 = .ok (.aload_n 0, 1) := by decide +kernel
theorem dX2_init_20 : decode cX2_init 20 = .ok (.aload_n 1, 1) := by decide +kernel
theorem dX2_init_21 : decode cX2_init 21 = .ok (.putfield 21, 3) := by decide +kernel
theorem dX2_init_24 : decode cX2_init 24 = .ok (.aload_n 0, 1) := by decide +kernel
theorem dX2_init_25 : decode cX2_init 25 = .ok (.aload_n 2, 1) := by decide +kernel
theorem dX2_init_26 : decode cX2_init 26 = .ok (.putfield 25, 3) := by decide +kernel
theorem dX2_init_29 : decode cX2_init 29 = .ok (.aload_n 0, 1) := by decide +kernel
theorem dX2_init_30 : decode cX2_init 30 = .ok (.aload_n 3, 1) := by decide +kernel
theorem dX2_init_31 : decode cX2_init 31 = .ok (.putfield 29, 3) := by decide +kernel
theorem dX2_init_34 : decode cX2_init 34 = .ok (.aload_n 0, 1) := by decide +kernel
theorem dX2_init_35 : decode cX2_init 35 = .ok (.aload 4, 2) := by decide +kernel
theorem dX2_init_37 : decode cX2_init 37 = .ok (.putfield 33, 3) := by decide +kernel
theorem dX2_init_40 : decode cX2_init 40 = .ok (.return_, 1) := by decide +kernel
theorem dX2_read_0 : decode cX2_read 0 = .ok (.aload_n 0, 1) := by decide +kernel
theorem dX2_read_1 : decode cX2_read 1 = .ok (.iconst 0, 1) := by decide +kernel
theorem dX2_read_2 : decode cX2_read 2 = .ok (.putfield 9, 3) := by decide +kernel
theorem dX2_read_5 : decode cX2_read 5 = .ok (.aload_n 0, 1) := by decide +kernel
theorem dX2_read_6 : decode cX2_read 6 = .ok (.iconst (-1), 1) := by decide +kernel
theorem dX2_read_7 : decode cX2_read 7 = .ok (.putfield 15, 3) := by decide +kernel
theorem dX2_read_10 : decode cX2_read 10 = .ok (.aload_n 0, 1) := by decide +kernel
theorem dX2_read_11 : decode cX2_read 11 = .ok (.getfield 21, 3) := by decide +kernel
theorem dX2_read_14 : decode cX2_read 14 = .ok (.iload_n 1, 1) := by decide +kernel
theorem dX2_read_15 : decode cX2_read 15 = .ok (.invokevirtual 37, 3) := by decide +kernel
theorem dX2_read_18 : decode cX2_read 18 = .ok (.aload_n 0, 1) := by decide +kernel
theorem dX2_read_19 : decode cX2_read 19 = .ok (.getfield 21, 3) := by decide +kernel
theorem dX2_read_22 : decode cX2_read 22 = .ok (.ldc 43, 2) := by decide +kernel
theorem dX2_read_24 : decode cX2_read 24 = .ok (.invokevirtual 45, 3) := by decide +kernel
theorem dX2_read_27 : decode cX2_read 27 = .ok (.istore_n 2, 1) := by decide +kernel
theorem dX2_read_28 : decode cX2_read 28 = .ok (.iload_n 2, 1) := by decide +kernel
theorem dX2_read_29 : decode cX2_read 29 = .ok (.ifCond .ne 26, 3) := by decide +kernel
theorem dX2_read_32 : decode cX2_read 32 = .ok (.aload_n 0, 1) := by decide +kernel
theorem dX2_read_33 : decode cX2_read 33 = .ok (.getfield 21, 3) := by decide +kernel
theorem dX2_read_36 : decode cX2_read 36 = .ok (.ldc 49, 2) := by decide +kernel
theorem dX2_read_38 : decode cX2_read 38 = .ok (.invokevirtual 45, 3) := by decide +kernel
theorem dX2_read_41 : decode cX2_read 41 = .ok (.ifCond .ne 14, 3) := by decide +kernel
theorem dX2_read_44 : decode cX2_read 44 = .ok (.aload_n 0, 1) := by decide +kernel
theorem dX2_read_45 : decode cX2_read 45 = .ok (.iconst 1, 1) := by decide +kernel
theorem dX2_read_46 : decode cX2_read 46 = .ok (.invokevirtual 51, 3) := by decide +kernel
theorem dX2_read_49 : decode cX2_read 49 = .ok (.pop, 1) := by decide +kernel
theorem dX2_read_50 : decode cX2_read 50 = .ok (.aload_n 0, 1) := by decide +kernel
theorem dX2_read_51 : decode cX2_read 51 = .ok (.getfield 9, 3) := by decide +kernel
theorem dX2_read_54 : decode cX2_read 54 = .ok (.ireturn, 1) := by decide +kernel
theorem dX2_read_55 : decode cX2_read 55 = .ok (.aload_n 0, 1) := by decide +kernel
theorem dX2_read_56 : decode cX2_read 56 = .ok (.getfield 21, 3) := by decide +kernel
theorem dX2_read_59 : decode cX2_read 59 = .ok (.invokevirtual 55, 3) := by decide +kernel
theorem dX2_read_62 : decode cX2_read 62 = .ok (.aload_n 0, 1) := by decide +kernel
theorem dX2_read_63 : decode cX2_read 63 = .ok (.iconst 0, 1) := by decide +kernel
theorem dX2_read_64 : decode cX2_read 64 = .ok (.invokevirtual 58, 3) := by decide +kernel
theorem dX2_read_67 : decode cX2_read 67 = .ok (.istore_n 3, 1) := by decide +kernel
theorem dX2_read_68 : decode cX2_read 68 = .ok (.aload_n 0, 1) := by decide +kernel
theorem dX2_read_69 : decode cX2_read 69 = .ok (.getfield 9, 3) := by decide +kernel
theorem dX2_read_72 : decode cX2_read 72 = .ok (.ifCond .ne 19, 3) := by decide +kernel
theorem dX2_read_75 : decode cX2_read 75 = .ok (.aload_n 0, 1) := by decide +kernel
theorem dX2_read_76 : decode cX2_read 76 = .ok (.getfield 21, 3) := by decide +kernel
theorem dX2_read_79 : decode cX2_read 79 = .ok (.getfield 61, 3) := by decide +kernel
theorem dX2_read_82 : decode cX2_read 82 = .ok (.ifCond .eq 9, 3) := by decide +kernel
theorem dX2_read_85 : decode cX2_read 85 = .ok (.aload_n 0, 1) := by decide +kernel
theorem dX2_read_86 : decode cX2_read 86 = .ok (.iconst 1, 1) := by decide +kernel
theorem dX2_read_87 : decode cX2_read 87 = .ok (.invokevirtual 51, 3) := by decide +kernel
theorem dX2_read_90 : decode cX2_read 90 = .ok (.pop, 1) := by decide +kernel
theorem dX2_read_91 : decode cX2_read 91 = .ok (.aload_n 0, 1) := by decide +kernel
theorem dX2_read_92 : decode cX2_read 92 = .ok (.iload_n 2, 1) := by decide +kernel
theorem dX2_read_93 : decode cX2_read 93 = .ok (.ifCond .eq 10, 3) := by decide +kernel
theorem dX2_read_96 : decode cX2_read 96 = .ok (.iload_n 3, 1) := by decide +kernel
theorem dX2_read_97 : decode cX2_read 97 = .ok (.invokestatic 64, 3) := by decide +kernel
theorem dX2_read_100 : decode cX2_read 100 = .ok (.goto 8, 3) := by decide +kernel
theorem dX2_read_103 : decode cX2_read 103 = .ok (.aload_n 0, 1) := by decide +kernel
theorem dX2_read_104 : decode cX2_read 104 = .ok (.iload_n 3, 1) := by decide +kernel
theorem dX2_read_105 : decode cX2_read 105 = .ok (.invokevirtual 69, 3) := by decide +kernel
theorem dX2_read_108 : decode cX2_read 108 = .ok (.putfield 18, 3) := by decide +kernel
theorem dX2_read_111 : decode cX2_read 111 = .ok (.aload_n 0, 1) := by decide +kernel
theorem dX2_read_112 : decode cX2_read 112 = .ok (.getfield 9, 3) := by decide +kernel
theorem dX2_read_115 : decode cX2_read 115 = .ok (.ireturn, 1) := by decide +kernel
theorem dX2_firstOf_0 : decode cX2_firstOf 0 = .ok (.iconst 0, 1) := by decide +kernel
theorem dX2_firstOf_1 : decode cX2_firstOf 1 = .ok (.istore_n 2, 1) := by decide +kernel
theorem dX2_firstOf_2 : decode cX2_firstOf 2 = .ok (.iload_n 2, 1) := by decide +kernel
theorem dX2_firstOf_3 : decode cX2_firstOf 3 = .ok (.aload_n 0, 1) := by decide +kernel
theorem dX2_firstOf_4 : decode cX2_firstOf 4 = .ok (.getfield 25, 3) := by decide +kernel
theorem dX2_firstOf_7 : decode cX2_firstOf 7 = .ok (.getfield 72, 3) := by decide +kernel
theorem dX2_firstOf_10 : decode cX2_firstOf 10 = .ok (.if_icmp .ge 19, 3) := by decide +kernel
theorem dX2_firstOf_13 : decode cX2_firstOf 13 = .ok (.iload_n 2, 1) := by decide +kernel
theorem dX2_firstOf_14 : decode cX2_firstOf 14 = .ok (.iload_n 1, 1) := by decide +kernel
theorem dX2_firstOf_15 : decode cX2_firstOf 15 = .ok (.invokestatic 77, 3) := by decide +kernel
theorem dX2_firstOf_18 : decode cX2_firstOf 18 = .ok (.ifCond .eq 5, 3) := by decide +kernel
theorem dX2_firstOf_21 : decode cX2_firstOf 21 = .ok (.iload_n 2, 1) := by decide +kernel
theorem dX2_firstOf_22 : decode cX2_firstOf 22 = .ok (.ireturn, 1) := by decide +kernel
theorem dX2_firstOf_23 : decode cX2_firstOf 23 = .ok (.iinc 2 1, 3) := by decide +kernel
theorem dX2_firstOf_26 : decode cX2_firstOf 26 = .ok (.goto (-24), 3) := by decide +kernel
theorem dX2_firstOf_29 : decode cX2_firstOf 29 = .ok (.iconst (-1), 1) := by decide +kernel
theorem dX2_firstOf_30 : decode cX2_firstOf 30 = .ok (.ireturn, 1) := by decide +kernel
theorem dX2_fail_0 : decode cX2_fail 0 = .ok (.aload_n 0, 1) := by decide +kernel
theorem dX2_fail_1 : decode cX2_fail 1 = .ok (.getfield 9, 3) := by decide +kernel
theorem dX2_fail_4 : decode cX2_fail 4 = .ok (.ifCond .ne 19, 3) := by decide +kernel
theorem dX2_fail_7 : decode cX2_fail 7 = .ok (.aload_n 0, 1) := by decide +kernel
theorem dX2_fail_8 : decode cX2_fail 8 = .ok (.iload_n 1, 1) := by decide +kernel
theorem dX2_fail_9 : decode cX2_fail 9 = .ok (.putfield 9, 3) := by decide +kernel
theorem dX2_fail_12 : decode cX2_fail 12 = .ok (.aload_n 0, 1) := by decide +kernel
theorem dX2_fail_13 : decode cX2_fail 13 = .ok (.aload_n 0, 1) := by decide +kernel
theorem dX2_fail_14 : decode cX2_fail 14 = .ok (.getfield 21, 3) := by decide +kernel
theorem dX2_fail_17 : decode cX2_fail 17 = .ok (.getfield 81, 3) := by decide +kernel
theorem dX2_fail_20 : decode cX2_fail 20 = .ok (.putfield 15, 3) := by decide +kernel
theorem dX2_fail_23 : decode cX2_fail 23 = .ok (.iconst 0, 1) := by decide +kernel
theorem dX2_fail_24 : decode cX2_fail 24 = .ok (.ireturn, 1) := by decide +kernel
theorem dX2_readTest_0 : decode cX2_readTest 0 = .ok (.iconst 0, 1) := by decide +kernel
theorem dX2_readTest_1 : decode cX2_readTest 1 = .ok (.istore_n 2, 1) := by decide +kernel
theorem dX2_readTest_2 : decode cX2_readTest 2 = .ok (.aload_n 0, 1) := by decide +kernel
theorem dX2_readTest_3 : decode cX2_readTest 3 = .ok (.iload_n 1, 1) := by decide +kernel
theorem dX2_readTest_4 : decode cX2_readTest 4 = .ok (.invokevirtual 84, 3) := by decide +kernel
theorem dX2_readTest_7 : decode cX2_readTest 7 = .ok (.istore_n 3, 1) := by decide +kernel
theorem dX2_readTest_8 : decode cX2_readTest 8 = .ok (.iconst 0, 1) := by decide +kernel
theorem dX2_readTest_9 : decode cX2_readTest 9 = .ok (.istore 4, 2) := by decide +kernel
theorem dX2_readTest_11 : decode cX2_readTest 11 = .ok (.iload 4, 2) := by decide +kernel
theorem dX2_readTest_13 : decode cX2_readTest 13 = .ok (.sipush 200, 3) := by decide +kernel
theorem dX2_readTest_16 : decode cX2_readTest 16 = .ok (.if_icmp .ge 75, 3) := by decide +kernel
theorem dX2_readTest_19 : decode cX2_readTest 19 = .ok (.aload_n 0, 1) := by decide +kernel
theorem dX2_readTest_20 : decode cX2_readTest 20 = .ok (.getfield 9, 3) := by decide +kernel
theorem dX2_readTest_23 : decode cX2_readTest 23 = .ok (.ifCond .ne 68, 3) := by decide +kernel
theorem dX2_readTest_26 : decode cX2_readTest 26 = .ok (.aload_n 0, 1) := by decide +kernel
theorem dX2_readTest_27 : decode cX2_readTest 27 = .ok (.getfield 21, 3) := by decide +kernel
theorem dX2_readTest_30 : decode cX2_readTest 30 = .ok (.ldc 87, 2) := by decide +kernel
theorem dX2_readTest_32 : decode cX2_readTest 32 = .ok (.invokevirtual 45, 3) := by decide +kernel
theorem dX2_readTest_35 : decode cX2_readTest 35 = .ok (.ifCond .eq 21, 3) := by decide +kernel
theorem dX2_readTest_38 : decode cX2_readTest 38 = .ok (.aload_n 0, 1) := by decide +kernel
theorem dX2_readTest_39 : decode cX2_readTest 39 = .ok (.getfield 21, 3) := by decide +kernel
theorem dX2_readTest_42 : decode cX2_readTest 42 = .ok (.invokevirtual 55, 3) := by decide +kernel
theorem dX2_readTest_45 : decode cX2_readTest 45 = .ok (.iload_n 3, 1) := by decide +kernel
theorem dX2_readTest_46 : decode cX2_readTest 46 = .ok (.aload_n 0, 1) := by decide +kernel
theorem dX2_readTest_47 : decode cX2_readTest 47 = .ok (.iload_n 1, 1) := by decide +kernel
theorem dX2_readTest_48 : decode cX2_readTest 48 = .ok (.invokevirtual 84, 3) := by decide +kernel
theorem dX2_readTest_51 : decode cX2_readTest 51 = .ok (.iand, 1) := by decide +kernel
theorem dX2_readTest_52 : decode cX2_readTest 52 = .ok (.istore_n 3, 1) := by decide +kernel
theorem dX2_readTest_53 : decode cX2_readTest 53 = .ok (.goto 32, 3) := by decide +kernel
theorem dX2_readTest_56 : decode cX2_readTest 56 = .ok (.aload_n 0, 1) := by decide +kernel
theorem dX2_readTest_57 : decode cX2_readTest 57 = .ok (.getfield 21, 3) := by decide +kernel
theorem dX2_readTest_60 : decode cX2_readTest 60 = .ok (.ldc 89, 2) := by decide +kernel
theorem dX2_readTest_62 : decode cX2_readTest 62 = .ok (.invokevirtual 45, 3) := by decide +kernel
theorem dX2_readTest_65 : decode cX2_readTest 65 = .ok (.ifCond .eq 26, 3) := by decide +kernel
theorem dX2_readTest_68 : decode cX2_readTest 68 = .ok (.aload_n 0, 1) := by decide +kernel
theorem dX2_readTest_69 : decode cX2_readTest 69 = .ok (.getfield 21, 3) := by decide +kernel
theorem dX2_readTest_72 : decode cX2_readTest 72 = .ok (.invokevirtual 55, 3) := by decide +kernel
theorem dX2_readTest_75 : decode cX2_readTest 75 = .ok (.iload_n 2, 1) := by decide +kernel
theorem dX2_readTest_76 : decode cX2_readTest 76 = .ok (.iload_n 3, 1) := by decide +kernel
theorem dX2_readTest_77 : decode cX2_readTest 77 = .ok (.ior, 1) := by decide +kernel
theorem dX2_readTest_78 : decode cX2_readTest 78 = .ok (.istore_n 2, 1) := by decide +kernel
theorem dX2_readTest_79 : decode cX2_readTest 79 = .ok (.aload_n 0, 1) := by decide +kernel
theorem dX2_readTest_80 : decode cX2_readTest 80 = .ok (.iload_n 1, 1) := by decide +kernel
theorem dX2_readTest_81 : decode cX2_readTest 81 = .ok (.invokevirtual 84, 3) := by decide +kernel
theorem dX2_readTest_84 : decode cX2_readTest 84 = .ok (.istore_n 3, 1) := by decide +kernel
theorem dX2_readTest_85 : decode cX2_readTest 85 = .ok (.iinc 4 1, 3) := by decide +kernel
theorem dX2_readTest_88 : decode cX2_readTest 88 = .ok (.goto (-77), 3) := by decide +kernel
theorem dX2_readTest_91 : decode cX2_readTest 91 = .ok (.iload_n 2, 1) := by decide +kernel
theorem dX2_readTest_92 : decode cX2_readTest 92 = .ok (.iload_n 3, 1) := by decide +kernel
theorem dX2_readTest_93 : decode cX2_readTest 93 = .ok (.ior, 1) := by decide +kernel
theorem dX2_readTest_94 : decode cX2_readTest 94 = .ok (.ireturn, 1) := by decide +kernel
theorem dX2_readFact_0 : decode cX2_readFact 0 = .ok (.aload_n 0, 1) := by decide +kernel
theorem dX2_readFact_1 : decode cX2_readFact 1 = .ok (.getfield 21, 3) := by decide +kernel
theorem dX2_readFact_4 : decode cX2_readFact 4 = .ok (.ldc 91, 2) := by decide +kernel
theorem dX2_readFact_6 : decode cX2_readFact 6 = .ok (.invokevirtual 45, 3) := by decide +kernel
theorem dX2_readFact_9 : decode cX2_readFact 9 = .ok (.istore_n 2, 1) := by decide +kernel
theorem dX2_readFact_10 : decode cX2_readFact 10 = .ok (.iload_n 2, 1) := by decide +kernel
theorem dX2_readFact_11 : decode cX2_readFact 11 = .ok (.ifCond .ne 20, 3) := by decide +kernel
theorem dX2_readFact_14 : decode cX2_readFact 14 = .ok (.aload_n 0, 1) := by decide +kernel
theorem dX2_readFact_15 : decode cX2_readFact 15 = .ok (.getfield 21, 3) := by decide +kernel
theorem dX2_readFact_18 : decode cX2_readFact 18 = .ok (.bipush 40, 2) := by decide +kernel
theorem dX2_readFact_20 : decode cX2_readFact 20 = .ok (.invokevirtual 93, 3) := by decide +kernel
theorem dX2_readFact_23 : decode cX2_readFact 23 = .ok (.ifCond .ne 8, 3) := by decide +kernel
theorem dX2_readFact_26 : decode cX2_readFact 26 = .ok (.aload_n 0, 1) := by decide +kernel
theorem dX2_readFact_27 : decode cX2_readFact 27 = .ok (.invokevirtual 97, 3) := by decide +kernel
theorem dX2_readFact_30 : decode cX2_readFact 30 = .ok (.ireturn, 1) := by decide +kernel
theorem dX2_readFact_31 : decode cX2_readFact 31 = .ok (.iload_n 1, 1) := by decide +kernel
theorem dX2_readFact_32 : decode cX2_readFact 32 = .ok (.bipush 6, 2) := by decide +kernel
theorem dX2_readFact_34 : decode cX2_readFact 34 = .ok (.if_icmp .lt 9, 3) := by decide +kernel
theorem dX2_readFact_37 : decode cX2_readFact 37 = .ok (.aload_n 0, 1) := by decide +kernel
theorem dX2_readFact_38 : decode cX2_readFact 38 = .ok (.iconst 3, 1) := by decide +kernel
theorem dX2_readFact_39 : decode cX2_readFact 39 = .ok (.invokevirtual 51, 3) := by decide +kernel
theorem dX2_readFact_42 : decode cX2_readFact 42 = .ok (.ireturn, 1) := by decide +kernel
theorem dX2_readFact_43 : decode cX2_readFact 43 = .ok (.aload_n 0, 1) := by decide +kernel
theorem dX2_readFact_44 : decode cX2_readFact 44 = .ok (.getfield 21, 3) := by decide +kernel
theorem dX2_readFact_47 : decode cX2_readFact 47 = .ok (.invokevirtual 55, 3) := by decide +kernel
theorem dX2_readFact_50 : decode cX2_readFact 50 = .ok (.iload_n 2, 1) := by decide +kernel
theorem dX2_readFact_51 : decode cX2_readFact 51 = .ok (.ifCond .eq 21, 3) := by decide +kernel
theorem dX2_readFact_54 : decode cX2_readFact 54 = .ok (.aload_n 0, 1) := by decide +kernel
theorem dX2_readFact_55 : decode cX2_readFact 55 = .ok (.getfield 25, 3) := by decide +kernel
theorem dX2_readFact_58 : decode cX2_readFact 58 = .ok (.invokevirtual 101, 3) := by decide +kernel
theorem dX2_readFact_61 : decode cX2_readFact 61 = .ok (.aload_n 0, 1) := by decide +kernel
theorem dX2_readFact_62 : decode cX2_readFact 62 = .ok (.iload_n 1, 1) := by decide +kernel
theorem dX2_readFact_63 : decode cX2_readFact 63 = .ok (.iconst 1, 1) := by decide +kernel
theorem dX2_readFact_64 : decode cX2_readFact 64 = .ok (.iadd, 1) := by decide +kernel
theorem dX2_readFact_65 : decode cX2_readFact 65 = .ok (.invokevirtual 84, 3) := by decide +kernel
theorem dX2_readFact_68 : decode cX2_readFact 68 = .ok (.iconst (-1), 1) := by decide +kernel
theorem dX2_readFact_69 : decode cX2_readFact 69 = .ok (.ixor, 1) := by decide +kernel
theorem dX2_readFact_70 : decode cX2_readFact 70 = .ok (.iand, 1) := by decide +kernel
theorem dX2_readFact_71 : decode cX2_readFact 71 = .ok (.ireturn, 1) := by decide +kernel
theorem dX2_readFact_72 : decode cX2_readFact 72 = .ok (.aload_n 0, 1) := by decide +kernel
theorem dX2_readFact_73 : decode cX2_readFact 73 = .ok (.iload_n 1, 1) := by decide +kernel
theorem dX2_readFact_74 : decode cX2_readFact 74 = .ok (.iconst 1, 1) := by decide +kernel
theorem dX2_readFact_75 : decode cX2_readFact 75 = .ok (.iadd, 1) := by decide +kernel
theorem dX2_readFact_76 : decode cX2_readFact 76 = .ok (.invokevirtual 58, 3) := by decide +kernel
theorem dX2_readFact_79 : decode cX2_readFact 79 = .ok (.istore_n 3, 1) := by decide +kernel
theorem dX2_readFact_80 : decode cX2_readFact 80 = .ok (.aload_n 0, 1) := by decide +kernel
theorem dX2_readFact_81 : decode cX2_readFact 81 = .ok (.getfield 9, 3) := by decide +kernel
theorem dX2_readFact_84 : decode cX2_readFact 84 = .ok (.ifCond .ne 21, 3) := by decide +kernel
theorem dX2_readFact_87 : decode cX2_readFact 87 = .ok (.aload_n 0, 1) := by decide +kernel
theorem dX2_readFact_88 : decode cX2_readFact 88 = .ok (.getfield 21, 3) := by decide +kernel
theorem dX2_readFact_91 : decode cX2_readFact 91 = .ok (.bipush 41, 2) := by decide +kernel
theorem dX2_readFact_93 : decode cX2_readFact 93 = .ok (.invokevirtual 93, 3) := by decide +kernel
theorem dX2_readFact_96 : decode cX2_readFact 96 = .ok (.ifCond .ne 9, 3) := by decide +kernel
theorem dX2_readFact_99 : decode cX2_readFact 99 = .ok (.aload_n 0, 1) := by decide +kernel
theorem dX2_readFact_100 : decode cX2_readFact 100 = .ok (.iconst 1, 1) := by decide +kernel
theorem dX2_readFact_101 : decode cX2_readFact 101 = .ok (.invokevirtual 51, 3) := by decide +kernel
theorem dX2_readFact_104 : decode cX2_readFact 104 = .ok (.ireturn, 1) := by decide +kernel
theorem dX2_readFact_105 : decode cX2_readFact 105 = .ok (.aload_n 0, 1) := by decide +kernel
theorem dX2_readFact_106 : decode cX2_readFact 106 = .ok (.getfield 9, 3) := by decide +kernel
theorem dX2_readFact_109 : decode cX2_readFact 109 = .ok (.ifCond .ne 10, 3) := by decide +kernel
theorem dX2_readFact_112 : decode cX2_readFact 112 = .ok (.aload_n 0, 1) := by decide +kernel
theorem dX2_readFact_113 : decode cX2_readFact 113 = .ok (.getfield 21, 3) := by decide +kernel
theorem dX2_readFact_116 : decode cX2_readFact 116 = .ok (.invokevirtual 55, 3) := by decide +kernel
theorem dX2_readFact_119 : decode cX2_readFact 119 = .ok (.iload_n 3, 1) := by decide +kernel
theorem dX2_readFact_120 : decode cX2_readFact 120 = .ok (.ireturn, 1) := by decide +kernel
theorem dX2_readComparison_0 : decode cX2_readComparison 0 = .ok (.aload_n 0, 1) := by decide +kernel
theorem dX2_readComparison_1 : decode cX2_readComparison 1 = .ok (.invokevirtual 104, 3) := by decide +kernel
theorem dX2_readComparison_4 : decode cX2_readComparison 4 = .ok (.istore_n 1, 1) := by decide +kernel
theorem dX2_readComparison_5 : decode cX2_readComparison 5 = .ok (.aload_n 0, 1) := by decide +kernel
theorem dX2_readComparison_6 : decode cX2_readComparison 6 = .ok (.getfield 21, 3) := by decide +kernel
theorem dX2_readComparison_9 : decode cX2_readComparison 9 = .ok (.bipush 60, 2) := by decide +kernel
theorem dX2_readComparison_11 : decode cX2_readComparison 11 = .ok (.invokevirtual 93, 3) := by decide +kernel
theorem dX2_readComparison_14 : decode cX2_readComparison 14 = .ok (.istore_n 2, 1) := by decide +kernel
theorem dX2_readComparison_15 : decode cX2_readComparison 15 = .ok (.aload_n 0, 1) := by decide +kernel
theorem dX2_readComparison_16 : decode cX2_readComparison 16 = .ok (.getfield 21, 3) := by decide +kernel
theorem dX2_readComparison_19 : decode cX2_readComparison 19 = .ok (.bipush 62, 2) := by decide +kernel
theorem dX2_readComparison_21 : decode cX2_readComparison 21 = .ok (.invokevirtual 93, 3) := by decide +kernel
theorem dX2_readComparison_24 : decode cX2_readComparison 24 = .ok (.istore_n 3, 1) := by decide +kernel
theorem dX2_readComparison_25 : decode cX2_readComparison 25 = .ok (.aload_n 0, 1) := by decide +kernel
theorem dX2_readComparison_26 : decode cX2_readComparison 26 = .ok (.getfield 9, 3) := by decide +kernel
theorem dX2_readComparison_29 : decode cX2_readComparison 29 = .ok (.ifCond .ne 23, 3) := by decide +kernel
theorem dX2_readComparison_32 : decode cX2_readComparison 32 = .ok (.iload_n 2, 1) := by decide +kernel
theorem dX2_readComparison_33 : decode cX2_readComparison 33 = .ok (.ifCond .ne 25, 3) := by decide +kernel
theorem dX2_readComparison_36 : decode cX2_readComparison 36 = .ok (.iload_n 3, 1) := by decide +kernel
theorem dX2_readComparison_37 : decode cX2_readComparison 37 = .ok (.ifCond .ne 21, 3) := by decide +kernel
theorem dX2_readComparison_40 : decode cX2_readComparison 40 = .ok (.aload_n 0, 1) := by decide +kernel
theorem dX2_readComparison_41 : decode cX2_readComparison 41 = .ok (.getfield 21, 3) := by decide +kernel
theorem dX2_readComparison_44 : decode cX2_readComparison 44 = .ok (.bipush 61, 2) := by decide +kernel
theorem dX2_readComparison_46 : decode cX2_readComparison 46 = .ok (.invokevirtual 93, 3) := by decide +kernel
theorem dX2_readComparison_49 : decode cX2_readComparison 49 = .ok (.ifCond .ne 9, 3) := by decide +kernel
theorem dX2_readComparison_52 : decode cX2_readComparison 52 = .ok (.aload_n 0, 1) := by decide +kernel
theorem dX2_readComparison_53 : decode cX2_readComparison 53 = .ok (.iconst 1, 1) := by decide +kernel
theorem dX2_readComparison_54 : decode cX2_readComparison 54 = .ok (.invokevirtual 51, 3) := by decide +kernel
theorem dX2_readComparison_57 : decode cX2_readComparison 57 = .ok (.ireturn, 1) := by decide +kernel
theorem dX2_readComparison_58 : decode cX2_readComparison 58 = .ok (.aload_n 0, 1) := by decide +kernel
theorem dX2_readComparison_59 : decode cX2_readComparison 59 = .ok (.getfield 21, 3) := by decide +kernel
theorem dX2_readComparison_62 : decode cX2_readComparison 62 = .ok (.invokevirtual 55, 3) := by decide +kernel
theorem dX2_readComparison_65 : decode cX2_readComparison 65 = .ok (.aload_n 0, 1) := by decide +kernel
theorem dX2_readComparison_66 : decode cX2_readComparison 66 = .ok (.invokevirtual 104, 3) := by decide +kernel
theorem dX2_readComparison_69 : decode cX2_readComparison 69 = .ok (.istore 4, 2) := by decide +kernel
theorem dX2_readComparison_71 : decode cX2_readComparison 71 = .ok (.iconst 0, 1) := by decide +kernel
theorem dX2_readComparison_72 : decode cX2_readComparison 72 = .ok (.istore 5, 2) := by decide +kernel
theorem dX2_readComparison_74 : decode cX2_readComparison 74 = .ok (.iconst 0, 1) := by decide +kernel
theorem dX2_readComparison_75 : decode cX2_readComparison 75 = .ok (.istore 6, 2) := by decide +kernel
theorem dX2_readComparison_77 : decode cX2_readComparison 77 = .ok (.iload 6, 2) := by decide +kernel
theorem dX2_readComparison_79 : decode cX2_readComparison 79 = .ok (.aload_n 0, 1) := by decide +kernel
theorem dX2_readComparison_80 : decode cX2_readComparison 80 = .ok (.getfield 25, 3) := by decide +kernel
theorem dX2_readComparison_83 : decode cX2_readComparison 83 = .ok (.getfield 72, 3) := by decide +kernel
theorem dX2_readComparison_86 : decode cX2_readComparison 86 = .ok (.if_icmp .ge 79, 3) := by decide +kernel
theorem dX2_readComparison_89 : decode cX2_readComparison 89 = .ok (.aload_n 0, 1) := by decide +kernel
theorem dX2_readComparison_90 : decode cX2_readComparison 90 = .ok (.getfield 9, 3) := by decide +kernel
theorem dX2_readComparison_93 : decode cX2_readComparison 93 = .ok (.ifCond .ne 72, 3) := by decide +kernel
theorem dX2_readComparison_96 : decode cX2_readComparison 96 = .ok (.aload_n 0, 1) := by decide +kernel
theorem dX2_readComparison_97 : decode cX2_readComparison 97 = .ok (.iload_n 1, 1) := by decide +kernel
theorem dX2_readComparison_98 : decode cX2_readComparison 98 = .ok (.iload 6, 2) := by decide +kernel
theorem dX2_readComparison_100 : decode cX2_readComparison 100 = .ok (.invokevirtual 107, 3) := by decide +kernel
theorem dX2_readComparison_103 : decode cX2_readComparison 103 = .ok (.istore 7, 2) := by decide +kernel
theorem dX2_readComparison_105 : decode cX2_readComparison 105 = .ok (.aload_n 0, 1) := by decide +kernel
theorem dX2_readComparison_106 : decode cX2_readComparison 106 = .ok (.iload 4, 2) := by decide +kernel
theorem dX2_readComparison_108 : decode cX2_readComparison 108 = .ok (.iload 6, 2) := by decide +kernel
theorem dX2_readComparison_110 : decode cX2_readComparison 110 = .ok (.invokevirtual 107, 3) := by decide +kernel
theorem dX2_readComparison_113 : decode cX2_readComparison 113 = .ok (.istore 8, 2) := by decide +kernel
theorem dX2_readComparison_115 : decode cX2_readComparison 115 = .ok (.iload_n 2, 1) := by decide +kernel
theorem dX2_readComparison_116 : decode cX2_readComparison 116 = .ok (.ifCond .eq 13, 3) := by decide +kernel
theorem dX2_readComparison_119 : decode cX2_readComparison 119 = .ok (.iload 7, 2) := by decide +kernel
theorem dX2_readComparison_121 : decode cX2_readComparison 121 = .ok (.iload 8, 2) := by decide +kernel
theorem dX2_readComparison_123 : decode cX2_readComparison 123 = .ok (.if_icmp .ge 36, 3) := by decide +kernel
theorem dX2_readComparison_126 : decode cX2_readComparison 126 = .ok (.goto 24, 3) := by decide +kernel
theorem dX2_readComparison_129 : decode cX2_readComparison 129 = .ok (.iload_n 3, 1) := by decide +kernel
theorem dX2_readComparison_130 : decode cX2_readComparison 130 = .ok (.ifCond .eq 13, 3) := by decide +kernel
theorem dX2_readComparison_133 : decode cX2_readComparison 133 = .ok (.iload 7, 2) := by decide +kernel
theorem dX2_readComparison_135 : decode cX2_readComparison 135 = .ok (.iload 8, 2) := by decide +kernel
theorem dX2_readComparison_137 : decode cX2_readComparison 137 = .ok (.if_icmp .le 22, 3) := by decide +kernel
theorem dX2_readComparison_140 : decode cX2_readComparison 140 = .ok (.goto 10, 3) := by decide +kernel
theorem dX2_readComparison_143 : decode cX2_readComparison 143 = .ok (.iload 7, 2) := by decide +kernel
theorem dX2_readComparison_145 : decode cX2_readComparison 145 = .ok (.iload 8, 2) := by decide +kernel
theorem dX2_readComparison_147 : decode cX2_readComparison 147 = .ok (.if_icmp .ne 12, 3) := by decide +kernel
theorem dX2_readComparison_150 : decode cX2_readComparison 150 = .ok (.iload 5, 2) := by decide +kernel
theorem dX2_readComparison_152 : decode cX2_readComparison 152 = .ok (.iconst 1, 1) := by decide +kernel
theorem dX2_readComparison_153 : decode cX2_readComparison 153 = .ok (.iload 6, 2) := by decide +kernel
theorem dX2_readComparison_155 : decode cX2_readComparison 155 = .ok (.ishl, 1) := by decide +kernel
theorem dX2_readComparison_156 : decode cX2_readComparison 156 = .ok (.ior, 1) := by decide +kernel
theorem dX2_readComparison_157 : decode cX2_readComparison 157 = .ok (.istore 5, 2) := by decide +kernel
theorem dX2_readComparison_159 : decode cX2_readComparison 159 = .ok (.iinc 6 1, 3) := by decide +kernel
theorem dX2_readComparison_162 : decode cX2_readComparison 162 = .ok (.goto (-85), 3) := by decide +kernel
theorem dX2_readComparison_165 : decode cX2_readComparison 165 = .ok (.iload 5, 2) := by decide +kernel
theorem dX2_readComparison_167 : decode cX2_readComparison 167 = .ok (.ireturn, 1) := by decide +kernel
theorem dX2_readValue_0 : decode cX2_readValue 0 = .ok (.aload_n 0, 1) := by decide +kernel
theorem dX2_readValue_1 : decode cX2_readValue 1 = .ok (.getfield 21, 3) := by decide +kernel
theorem dX2_readValue_4 : decode cX2_readValue 4 = .ok (.getfield 61, 3) := by decide +kernel
theorem dX2_readValue_7 : decode cX2_readValue 7 = .ok (.iconst 2, 1) := by decide +kernel
theorem dX2_readValue_8 : decode cX2_readValue 8 = .ok (.if_icmp .ne 13, 3) := by decide +kernel
theorem dX2_readValue_11 : decode cX2_readValue 11 = .ok (.aload_n 0, 1) := by decide +kernel
theorem dX2_readValue_12 : decode cX2_readValue 12 = .ok (.getfield 21, 3) := by decide +kernel
theorem dX2_readValue_15 : decode cX2_readValue 15 = .ok (.getfield 111, 3) := by decide +kernel
theorem dX2_readValue_18 : decode cX2_readValue 18 = .ok (.goto 7, 3) := by decide +kernel
theorem dX2_readValue_21 : decode cX2_readValue 21 = .ok (.aload_n 0, 1) := by decide +kernel
theorem dX2_readValue_22 : decode cX2_readValue 22 = .ok (.invokevirtual 114, 3) := by decide +kernel
theorem dX2_readValue_25 : decode cX2_readValue 25 = .ok (.istore_n 1, 1) := by decide +kernel
theorem dX2_readValue_26 : decode cX2_readValue 26 = .ok (.iload_n 1, 1) := by decide +kernel
theorem dX2_readValue_27 : decode cX2_readValue 27 = .ok (.ifCond .ne 20, 3) := by decide +kernel
theorem dX2_readValue_30 : decode cX2_readValue 30 = .ok (.aload_n 0, 1) := by decide +kernel
theorem dX2_readValue_31 : decode cX2_readValue 31 = .ok (.getfield 21, 3) := by decide +kernel
theorem dX2_readValue_34 : decode cX2_readValue 34 = .ok (.getfield 61, 3) := by decide +kernel
theorem dX2_readValue_37 : decode cX2_readValue 37 = .ok (.iconst 2, 1) := by decide +kernel
theorem dX2_readValue_38 : decode cX2_readValue 38 = .ok (.if_icmp .eq 9, 3) := by decide +kernel
theorem dX2_readValue_41 : decode cX2_readValue 41 = .ok (.aload_n 0, 1) := by decide +kernel
theorem dX2_readValue_42 : decode cX2_readValue 42 = .ok (.iconst 1, 1) := by decide +kernel
theorem dX2_readValue_43 : decode cX2_readValue 43 = .ok (.invokevirtual 51, 3) := by decide +kernel
theorem dX2_readValue_46 : decode cX2_readValue 46 = .ok (.ireturn, 1) := by decide +kernel
theorem dX2_readValue_47 : decode cX2_readValue 47 = .ok (.iload_n 1, 1) := by decide +kernel
theorem dX2_readValue_48 : decode cX2_readValue 48 = .ok (.sipush 9999, 3) := by decide +kernel
theorem dX2_readValue_51 : decode cX2_readValue 51 = .ok (.if_icmp .le 9, 3) := by decide +kernel
theorem dX2_readValue_54 : decode cX2_readValue 54 = .ok (.aload_n 0, 1) := by decide +kernel
theorem dX2_readValue_55 : decode cX2_readValue 55 = .ok (.iconst 2, 1) := by decide +kernel
theorem dX2_readValue_56 : decode cX2_readValue 56 = .ok (.invokevirtual 51, 3) := by decide +kernel
theorem dX2_readValue_59 : decode cX2_readValue 59 = .ok (.ireturn, 1) := by decide +kernel
theorem dX2_readValue_60 : decode cX2_readValue 60 = .ok (.aload_n 0, 1) := by decide +kernel
theorem dX2_readValue_61 : decode cX2_readValue 61 = .ok (.getfield 9, 3) := by decide +kernel
theorem dX2_readValue_64 : decode cX2_readValue 64 = .ok (.ifCond .ne 10, 3) := by decide +kernel
theorem dX2_readValue_67 : decode cX2_readValue 67 = .ok (.aload_n 0, 1) := by decide +kernel
theorem dX2_readValue_68 : decode cX2_readValue 68 = .ok (.getfield 21, 3) := by decide +kernel
theorem dX2_readValue_71 : decode cX2_readValue 71 = .ok (.invokevirtual 55, 3) := by decide +kernel
theorem dX2_readValue_74 : decode cX2_readValue 74 = .ok (.iload_n 1, 1) := by decide +kernel
theorem dX2_readValue_75 : decode cX2_readValue 75 = .ok (.ireturn, 1) := by decide +kernel
theorem dX2_valueOfWord_0 : decode cX2_valueOfWord 0 = .ok (.aload_n 0, 1) := by decide +kernel
theorem dX2_valueOfWord_1 : decode cX2_valueOfWord 1 = .ok (.getfield 21, 3) := by decide +kernel
theorem dX2_valueOfWord_4 : decode cX2_valueOfWord 4 = .ok (.ldc 117, 2) := by decide +kernel
theorem dX2_valueOfWord_6 : decode cX2_valueOfWord 6 = .ok (.invokevirtual 45, 3) := by decide +kernel
theorem dX2_valueOfWord_9 : decode cX2_valueOfWord 9 = .ok (.ifCond .eq 5, 3) := by decide +kernel
theorem dX2_valueOfWord_12 : decode cX2_valueOfWord 12 = .ok (.iconst (-1), 1) := by decide +kernel
theorem dX2_valueOfWord_13 : decode cX2_valueOfWord 13 = .ok (.ireturn, 1) := by decide +kernel
theorem dX2_valueOfWord_14 : decode cX2_valueOfWord 14 = .ok (.aload_n 0, 1) := by decide +kernel
theorem dX2_valueOfWord_15 : decode cX2_valueOfWord 15 = .ok (.getfield 21, 3) := by decide +kernel
theorem dX2_valueOfWord_18 : decode cX2_valueOfWord 18 = .ok (.ldc 119, 2) := by decide +kernel
theorem dX2_valueOfWord_20 : decode cX2_valueOfWord 20 = .ok (.invokevirtual 45, 3) := by decide +kernel
theorem dX2_valueOfWord_23 : decode cX2_valueOfWord 23 = .ok (.ifCond .eq 6, 3) := by decide +kernel
theorem dX2_valueOfWord_26 : decode cX2_valueOfWord 26 = .ok (.bipush (-2), 2) := by decide +kernel
theorem dX2_valueOfWord_28 : decode cX2_valueOfWord 28 = .ok (.ireturn, 1) := by decide +kernel
theorem dX2_valueOfWord_29 : decode cX2_valueOfWord 29 = .ok (.aload_n 0, 1) := by decide +kernel
theorem dX2_valueOfWord_30 : decode cX2_valueOfWord 30 = .ok (.getfield 21, 3) := by decide +kernel
theorem dX2_valueOfWord_33 : decode cX2_valueOfWord 33 = .ok (.ldc 121, 2) := by decide +kernel
theorem dX2_valueOfWord_35 : decode cX2_valueOfWord 35 = .ok (.invokevirtual 45, 3) := by decide +kernel
theorem dX2_valueOfWord_38 : decode cX2_valueOfWord 38 = .ok (.ifCond .eq 6, 3) := by decide +kernel
theorem dX2_valueOfWord_41 : decode cX2_valueOfWord 41 = .ok (.bipush (-3), 2) := by decide +kernel
theorem dX2_valueOfWord_43 : decode cX2_valueOfWord 43 = .ok (.ireturn, 1) := by decide +kernel
theorem dX2_valueOfWord_44 : decode cX2_valueOfWord 44 = .ok (.aload_n 0, 1) := by decide +kernel
theorem dX2_valueOfWord_45 : decode cX2_valueOfWord 45 = .ok (.getfield 21, 3) := by decide +kernel
theorem dX2_valueOfWord_48 : decode cX2_valueOfWord 48 = .ok (.ldc 123, 2) := by decide +kernel
theorem dX2_valueOfWord_50 : decode cX2_valueOfWord 50 = .ok (.invokevirtual 45, 3) := by decide +kernel
theorem dX2_valueOfWord_53 : decode cX2_valueOfWord 53 = .ok (.ifCond .eq 6, 3) := by decide +kernel
theorem dX2_valueOfWord_56 : decode cX2_valueOfWord 56 = .ok (.bipush (-4), 2) := by decide +kernel
theorem dX2_valueOfWord_58 : decode cX2_valueOfWord 58 = .ok (.ireturn, 1) := by decide +kernel
theorem dX2_valueOfWord_59 : decode cX2_valueOfWord 59 = .ok (.aload_n 0, 1) := by decide +kernel
theorem dX2_valueOfWord_60 : decode cX2_valueOfWord 60 = .ok (.getfield 21, 3) := by decide +kernel
theorem dX2_valueOfWord_63 : decode cX2_valueOfWord 63 = .ok (.ldc 125, 2) := by decide +kernel
theorem dX2_valueOfWord_65 : decode cX2_valueOfWord 65 = .ok (.invokevirtual 45, 3) := by decide +kernel
theorem dX2_valueOfWord_68 : decode cX2_valueOfWord 68 = .ok (.ifCond .eq 6, 3) := by decide +kernel
theorem dX2_valueOfWord_71 : decode cX2_valueOfWord 71 = .ok (.bipush (-5), 2) := by decide +kernel
theorem dX2_valueOfWord_73 : decode cX2_valueOfWord 73 = .ok (.ireturn, 1) := by decide +kernel
theorem dX2_valueOfWord_74 : decode cX2_valueOfWord 74 = .ok (.aload_n 0, 1) := by decide +kernel
theorem dX2_valueOfWord_75 : decode cX2_valueOfWord 75 = .ok (.getfield 21, 3) := by decide +kernel
theorem dX2_valueOfWord_78 : decode cX2_valueOfWord 78 = .ok (.ldc 127, 2) := by decide +kernel
theorem dX2_valueOfWord_80 : decode cX2_valueOfWord 80 = .ok (.invokevirtual 45, 3) := by decide +kernel
theorem dX2_valueOfWord_83 : decode cX2_valueOfWord 83 = .ok (.ifCond .eq 6, 3) := by decide +kernel
theorem dX2_valueOfWord_86 : decode cX2_valueOfWord 86 = .ok (.bipush (-6), 2) := by decide +kernel
theorem dX2_valueOfWord_88 : decode cX2_valueOfWord 88 = .ok (.ireturn, 1) := by decide +kernel
theorem dX2_valueOfWord_89 : decode cX2_valueOfWord 89 = .ok (.aload_n 0, 1) := by decide +kernel
theorem dX2_valueOfWord_90 : decode cX2_valueOfWord 90 = .ok (.getfield 21, 3) := by decide +kernel
theorem dX2_valueOfWord_93 : decode cX2_valueOfWord 93 = .ok (.ldc 129, 2) := by decide +kernel
theorem dX2_valueOfWord_95 : decode cX2_valueOfWord 95 = .ok (.invokevirtual 45, 3) := by decide +kernel
theorem dX2_valueOfWord_98 : decode cX2_valueOfWord 98 = .ok (.ifCond .eq 6, 3) := by decide +kernel
theorem dX2_valueOfWord_101 : decode cX2_valueOfWord 101 = .ok (.bipush (-7), 2) := by decide +kernel
theorem dX2_valueOfWord_103 : decode cX2_valueOfWord 103 = .ok (.ireturn, 1) := by decide +kernel
theorem dX2_valueOfWord_104 : decode cX2_valueOfWord 104 = .ok (.aload_n 0, 1) := by decide +kernel
theorem dX2_valueOfWord_105 : decode cX2_valueOfWord 105 = .ok (.getfield 21, 3) := by decide +kernel
theorem dX2_valueOfWord_108 : decode cX2_valueOfWord 108 = .ok (.ldc 131, 2) := by decide +kernel
theorem dX2_valueOfWord_110 : decode cX2_valueOfWord 110 = .ok (.invokevirtual 45, 3) := by decide +kernel
theorem dX2_valueOfWord_113 : decode cX2_valueOfWord 113 = .ok (.ifCond .eq 6, 3) := by decide +kernel
theorem dX2_valueOfWord_116 : decode cX2_valueOfWord 116 = .ok (.bipush (-8), 2) := by decide +kernel
theorem dX2_valueOfWord_118 : decode cX2_valueOfWord 118 = .ok (.ireturn, 1) := by decide +kernel
theorem dX2_valueOfWord_119 : decode cX2_valueOfWord 119 = .ok (.aload_n 0, 1) := by decide +kernel
theorem dX2_valueOfWord_120 : decode cX2_valueOfWord 120 = .ok (.getfield 21, 3) := by decide +kernel
theorem dX2_valueOfWord_123 : decode cX2_valueOfWord 123 = .ok (.ldc 133, 2) := by decide +kernel
theorem dX2_valueOfWord_125 : decode cX2_valueOfWord 125 = .ok (.invokevirtual 45, 3) := by decide +kernel
theorem dX2_valueOfWord_128 : decode cX2_valueOfWord 128 = .ok (.ifCond .eq 8, 3) := by decide +kernel
theorem dX2_valueOfWord_131 : decode cX2_valueOfWord 131 = .ok (.bipush (-9), 2) := by decide +kernel
theorem dX2_valueOfWord_133 : decode cX2_valueOfWord 133 = .ok (.goto 4, 3) := by decide +kernel
theorem dX2_valueOfWord_136 : decode cX2_valueOfWord 136 = .ok (.iconst 0, 1) := by decide +kernel
theorem dX2_valueOfWord_137 : decode cX2_valueOfWord 137 = .ok (.ireturn, 1) := by decide +kernel
theorem dX2_valueOf_0 : decode cX2_valueOf 0 = .ok (.iload_n 1, 1) := by decide +kernel
theorem dX2_valueOf_1 : decode cX2_valueOf 1 = .ok (.tableswitch 140 (-9) (-1) #[128, 115, 106, 96, 86, 76, 63, 53, 51], 51) := by decide +kernel
theorem dX2_valueOf_52 : decode cX2_valueOf 52 = .ok (.iload_n 2, 1) := by decide +kernel
theorem dX2_valueOf_53 : decode cX2_valueOf 53 = .ok (.ireturn, 1) := by decide +kernel
theorem dX2_valueOf_54 : decode cX2_valueOf 54 = .ok (.aload_n 0, 1) := by decide +kernel
theorem dX2_valueOf_55 : decode cX2_valueOf 55 = .ok (.getfield 25, 3) := by decide +kernel
theorem dX2_valueOf_58 : decode cX2_valueOf 58 = .ok (.getfield 135, 3) := by decide +kernel
theorem dX2_valueOf_61 : decode cX2_valueOf 61 = .ok (.iload_n 2, 1) := by decide +kernel
theorem dX2_valueOf_62 : decode cX2_valueOf 62 = .ok (.iaload, 1) := by decide +kernel
theorem dX2_valueOf_63 : decode cX2_valueOf 63 = .ok (.ireturn, 1) := by decide +kernel
theorem dX2_valueOf_64 : decode cX2_valueOf 64 = .ok (.aload_n 0, 1) := by decide +kernel
theorem dX2_valueOf_65 : decode cX2_valueOf 65 = .ok (.getfield 25, 3) := by decide +kernel
theorem dX2_valueOf_68 : decode cX2_valueOf 68 = .ok (.getfield 138, 3) := by decide +kernel
theorem dX2_valueOf_71 : decode cX2_valueOf 71 = .ok (.iload_n 2, 1) := by decide +kernel
theorem dX2_valueOf_72 : decode cX2_valueOf 72 = .ok (.iaload, 1) := by decide +kernel
theorem dX2_valueOf_73 : decode cX2_valueOf 73 = .ok (.invokestatic 64, 3) := by decide +kernel
theorem dX2_valueOf_76 : decode cX2_valueOf 76 = .ok (.ireturn, 1) := by decide +kernel
theorem dX2_valueOf_77 : decode cX2_valueOf 77 = .ok (.aload_n 0, 1) := by decide +kernel
theorem dX2_valueOf_78 : decode cX2_valueOf 78 = .ok (.getfield 25, 3) := by decide +kernel
theorem dX2_valueOf_81 : decode cX2_valueOf 81 = .ok (.getfield 140, 3) := by decide +kernel
theorem dX2_valueOf_84 : decode cX2_valueOf 84 = .ok (.iload_n 2, 1) := by decide +kernel
theorem dX2_valueOf_85 : decode cX2_valueOf 85 = .ok (.iaload, 1) := by decide +kernel
theorem dX2_valueOf_86 : decode cX2_valueOf 86 = .ok (.ireturn, 1) := by decide +kernel
theorem dX2_valueOf_87 : decode cX2_valueOf 87 = .ok (.aload_n 0, 1) := by decide +kernel
theorem dX2_valueOf_88 : decode cX2_valueOf 88 = .ok (.getfield 25, 3) := by decide +kernel
theorem dX2_valueOf_91 : decode cX2_valueOf 91 = .ok (.getfield 143, 3) := by decide +kernel
theorem dX2_valueOf_94 : decode cX2_valueOf 94 = .ok (.iload_n 2, 1) := by decide +kernel
theorem dX2_valueOf_95 : decode cX2_valueOf 95 = .ok (.iaload, 1) := by decide +kernel
theorem dX2_valueOf_96 : decode cX2_valueOf 96 = .ok (.ireturn, 1) := by decide +kernel
theorem dX2_valueOf_97 : decode cX2_valueOf 97 = .ok (.aload_n 0, 1) := by decide +kernel
theorem dX2_valueOf_98 : decode cX2_valueOf 98 = .ok (.getfield 29, 3) := by decide +kernel
theorem dX2_valueOf_101 : decode cX2_valueOf 101 = .ok (.getfield 146, 3) := by decide +kernel
theorem dX2_valueOf_104 : decode cX2_valueOf 104 = .ok (.iload_n 2, 1) := by decide +kernel
theorem dX2_valueOf_105 : decode cX2_valueOf 105 = .ok (.iaload, 1) := by decide +kernel
theorem dX2_valueOf_106 : decode cX2_valueOf 106 = .ok (.ireturn, 1) := by decide +kernel
theorem dX2_valueOf_107 : decode cX2_valueOf 107 = .ok (.aload_n 0, 1) := by decide +kernel
theorem dX2_valueOf_108 : decode cX2_valueOf 108 = .ok (.getfield 29, 3) := by decide +kernel
theorem dX2_valueOf_111 : decode cX2_valueOf 111 = .ok (.iload_n 2, 1) := by decide +kernel
theorem dX2_valueOf_112 : decode cX2_valueOf 112 = .ok (.invokevirtual 151, 3) := by decide +kernel
theorem dX2_valueOf_115 : decode cX2_valueOf 115 = .ok (.ireturn, 1) := by decide +kernel
theorem dX2_valueOf_116 : decode cX2_valueOf 116 = .ok (.aload_n 0, 1) := by decide +kernel
theorem dX2_valueOf_117 : decode cX2_valueOf 117 = .ok (.getfield 33, 3) := by decide +kernel
theorem dX2_valueOf_120 : decode cX2_valueOf 120 = .ok (.getfield 154, 3) := by decide +kernel
theorem dX2_valueOf_123 : decode cX2_valueOf 123 = .ok (.iload_n 2, 1) := by decide +kernel
theorem dX2_valueOf_124 : decode cX2_valueOf 124 = .ok (.iaload, 1) := by decide +kernel
theorem dX2_valueOf_125 : decode cX2_valueOf 125 = .ok (.invokestatic 64, 3) := by decide +kernel
theorem dX2_valueOf_128 : decode cX2_valueOf 128 = .ok (.ireturn, 1) := by decide +kernel
theorem dX2_valueOf_129 : decode cX2_valueOf 129 = .ok (.aload_n 0, 1) := by decide +kernel
theorem dX2_valueOf_130 : decode cX2_valueOf 130 = .ok (.getfield 33, 3) := by decide +kernel
theorem dX2_valueOf_133 : decode cX2_valueOf 133 = .ok (.iload_n 2, 1) := by decide +kernel
theorem dX2_valueOf_134 : decode cX2_valueOf 134 = .ok (.invokevirtual 159, 3) := by decide +kernel
theorem dX2_valueOf_137 : decode cX2_valueOf 137 = .ok (.invokestatic 64, 3) := by decide +kernel
theorem dX2_valueOf_140 : decode cX2_valueOf 140 = .ok (.ireturn, 1) := by decide +kernel
theorem dX2_valueOf_141 : decode cX2_valueOf 141 = .ok (.iload_n 1, 1) := by decide +kernel
theorem dX2_valueOf_142 : decode cX2_valueOf 142 = .ok (.ireturn, 1) := by decide +kernel
theorem dX3_init_0 : decode cX3_init 0 = .ok (.aload_n 0, 1) := by decide +kernel
theorem dX3_init_1 : decode cX3_init 1 = .ok (.invokespecial 3, 3) := by decide +kernel
theorem dX3_init_4 : decode cX3_init 4 = .ok (.aload_n 0, 1) := by decide +kernel
theorem dX3_init_5 : decode cX3_init 5 = .ok (.iconst 0, 1) := by decide +kernel
theorem dX3_init_6 : decode cX3_init 6 = .ok (.putfield 9, 3) := by decide +kernel
theorem dX3_init_9 : decode cX3_init 9 = .ok (.aload_n 0, 1) := by decide +kernel
theorem dX3_init_10 : decode cX3_init 10 = .ok (.iconst 0, 1) := by decide +kernel
theorem dX3_init_11 : decode cX3_init 11 = .ok (.putfield 15, 3) := by decide +kernel
theorem dX3_init_14 : decode cX3_init 14 = .ok (.aload_n 0, 1) := by decide +kernel
theorem dX3_init_15 : decode cX3_init 15 = .ok (.iconst (-1), 1) := by decide +kernel
theorem dX3_init_16 : decode cX3_init 16 = .ok (.putfield 18, 3) := by decide +kernel
theorem dX3_init_19 : decode cX3_init 19 = .ok (.aload_n 0, 1) := by decide +kernel
theorem dX3_init_20 : decode cX3_init 20 = .ok (.aload_n 1, 1) := by decide +kernel
theorem dX3_init_21 : decode cX3_init 21 = .ok (.putfield 21, 3) := by decide +kernel
theorem dX3_init_24 : decode cX3_init 24 = .ok (.aload_n 0, 1) := by decide +kernel
theorem dX3_init_25 : decode cX3_init 25 = .ok (.aload_n 2, 1) := by decide +kernel
theorem dX3_init_26 : decode cX3_init 26 = .ok (.putfield 25, 3) := by decide +kernel
theorem dX3_init_29 : decode cX3_init 29 = .ok (.return_, 1) := by decide +kernel
theorem dX3_read_0 : decode cX3_read 0 = .ok (.aload_n 0, 1) := by decide +kernel
theorem dX3_read_1 : decode cX3_read 1 = .ok (.iconst 0, 1) := by decide +kernel
theorem dX3_read_2 : decode cX3_read 2 = .ok (.putfield 15, 3) := by decide +kernel
theorem dX3_read_5 : decode cX3_read 5 = .ok (.aload_n 0, 1) := by decide +kernel
theorem dX3_read_6 : decode cX3_read 6 = .ok (.iconst (-1), 1) := by decide +kernel
theorem dX3_read_7 : decode cX3_read 7 = .ok (.putfield 18, 3) := by decide +kernel
theorem dX3_read_10 : decode cX3_read 10 = .ok (.aload_n 0, 1) := by decide +kernel
theorem dX3_read_11 : decode cX3_read 11 = .ok (.getfield 25, 3) := by decide +kernel
theorem dX3_read_14 : decode cX3_read 14 = .ok (.invokevirtual 29, 3) := by decide +kernel
theorem dX3_read_17 : decode cX3_read 17 = .ok (.aload_n 0, 1) := by decide +kernel
theorem dX3_read_18 : decode cX3_read 18 = .ok (.getfield 21, 3) := by decide +kernel
theorem dX3_read_21 : decode cX3_read 21 = .ok (.iload_n 1, 1) := by decide +kernel
theorem dX3_read_22 : decode cX3_read 22 = .ok (.invokevirtual 34, 3) := by decide +kernel
theorem dX3_read_25 : decode cX3_read 25 = .ok (.aload_n 0, 1) := by decide +kernel
theorem dX3_read_26 : decode cX3_read 26 = .ok (.invokevirtual 40, 3) := by decide +kernel
theorem dX3_read_29 : decode cX3_read 29 = .ok (.istore_n 2, 1) := by decide +kernel
theorem dX3_read_30 : decode cX3_read 30 = .ok (.iconst 0, 1) := by decide +kernel
theorem dX3_read_31 : decode cX3_read 31 = .ok (.istore_n 3, 1) := by decide +kernel
theorem dX3_read_32 : decode cX3_read 32 = .ok (.iload_n 2, 1) := by decide +kernel
theorem dX3_read_33 : decode cX3_read 33 = .ok (.ifCond .eq 46, 3) := by decide +kernel
theorem dX3_read_36 : decode cX3_read 36 = .ok (.iload_n 3, 1) := by decide +kernel
theorem dX3_read_37 : decode cX3_read 37 = .ok (.sipush 700, 3) := by decide +kernel
theorem dX3_read_40 : decode cX3_read 40 = .ok (.if_icmp .ge 39, 3) := by decide +kernel
theorem dX3_read_43 : decode cX3_read 43 = .ok (.aload_n 0, 1) := by decide +kernel
theorem dX3_read_44 : decode cX3_read 44 = .ok (.getfield 21, 3) := by decide +kernel
theorem dX3_read_47 : decode cX3_read 47 = .ok (.getfield 44, 3) := by decide +kernel
theorem dX3_read_50 : decode cX3_read 50 = .ok (.ifCond .eq 29, 3) := by decide +kernel
theorem dX3_read_53 : decode cX3_read 53 = .ok (.aload_n 0, 1) := by decide +kernel
theorem dX3_read_54 : decode cX3_read 54 = .ok (.invokevirtual 47, 3) := by decide +kernel
theorem dX3_read_57 : decode cX3_read 57 = .ok (.ifCond .eq 14, 3) := by decide +kernel
theorem dX3_read_60 : decode cX3_read 60 = .ok (.aload_n 0, 1) := by decide +kernel
theorem dX3_read_61 : decode cX3_read 61 = .ok (.invokevirtual 50, 3) := by decide +kernel
theorem dX3_read_64 : decode cX3_read 64 = .ok (.ifCond .eq 7, 3) := by decide +kernel
theorem dX3_read_67 : decode cX3_read 67 = .ok (.iconst 1, 1) := by decide +kernel
theorem dX3_read_68 : decode cX3_read 68 = .ok (.goto 4, 3) := by decide +kernel
theorem dX3_read_71 : decode cX3_read 71 = .ok (.iconst 0, 1) := by decide +kernel
theorem dX3_read_72 : decode cX3_read 72 = .ok (.istore_n 2, 1) := by decide +kernel
theorem dX3_read_73 : decode cX3_read 73 = .ok (.iinc 3 1, 3) := by decide +kernel
theorem dX3_read_76 : decode cX3_read 76 = .ok (.goto (-44), 3) := by decide +kernel
theorem dX3_read_79 : decode cX3_read 79 = .ok (.aload_n 0, 1) := by decide +kernel
theorem dX3_read_80 : decode cX3_read 80 = .ok (.getfield 15, 3) := by decide +kernel
theorem dX3_read_83 : decode cX3_read 83 = .ok (.ireturn, 1) := by decide +kernel
theorem dX3_fail_0 : decode cX3_fail 0 = .ok (.aload_n 0, 1) := by decide +kernel
theorem dX3_fail_1 : decode cX3_fail 1 = .ok (.iload_n 1, 1) := by decide +kernel
theorem dX3_fail_2 : decode cX3_fail 2 = .ok (.putfield 15, 3) := by decide +kernel
theorem dX3_fail_5 : decode cX3_fail 5 = .ok (.aload_n 0, 1) := by decide +kernel
theorem dX3_fail_6 : decode cX3_fail 6 = .ok (.aload_n 0, 1) := by decide +kernel
theorem dX3_fail_7 : decode cX3_fail 7 = .ok (.getfield 21, 3) := by decide +kernel
theorem dX3_fail_10 : decode cX3_fail 10 = .ok (.getfield 53, 3) := by decide +kernel
theorem dX3_fail_13 : decode cX3_fail 13 = .ok (.putfield 18, 3) := by decide +kernel
theorem dX3_fail_16 : decode cX3_fail 16 = .ok (.iconst 0, 1) := by decide +kernel
theorem dX3_fail_17 : decode cX3_fail 17 = .ok (.ireturn, 1) := by decide +kernel
theorem dX3_takeSemicolon_0 : decode cX3_takeSemicolon 0 = .ok (.aload_n 0, 1) := by decide +kernel
theorem dX3_takeSemicolon_1 : decode cX3_takeSemicolon 1 = .ok (.getfield 21, 3) := by decide +kernel
theorem dX3_takeSemicolon_4 : decode cX3_takeSemicolon 4 = .ok (.bipush 59, 2) := by decide +kernel
theorem dX3_takeSemicolon_6 : decode cX3_takeSemicolon 6 = .ok (.invokevirtual 56, 3) := by decide +kernel
theorem dX3_takeSemicolon_9 : decode cX3_takeSemicolon 9 = .ok (.ifCond .ne 9, 3) := by decide +kernel
theorem dX3_takeSemicolon_12 : decode cX3_takeSemicolon 12 = .ok (.aload_n 0, 1) := by decide +kernel
theorem dX3_takeSemicolon_13 : decode cX3_takeSemicolon 13 = .ok (.iconst 1, 1) := by decide +kernel
theorem dX3_takeSemicolon_14 : decode cX3_takeSemicolon 14 = .ok (.invokevirtual 60, 3) := by decide +kernel
theorem dX3_takeSemicolon_17 : decode cX3_takeSemicolon 17 = .ok (.ireturn, 1) := by decide +kernel
theorem dX3_takeSemicolon_18 : decode cX3_takeSemicolon 18 = .ok (.aload_n 0, 1) := by decide +kernel
theorem dX3_takeSemicolon_19 : decode cX3_takeSemicolon 19 = .ok (.getfield 21, 3) := by decide +kernel
theorem dX3_takeSemicolon_22 : decode cX3_takeSemicolon 22 = .ok (.invokevirtual 64, 3) := by decide +kernel
theorem dX3_takeSemicolon_25 : decode cX3_takeSemicolon 25 = .ok (.iconst 1, 1) := by decide +kernel
theorem dX3_takeSemicolon_26 : decode cX3_takeSemicolon 26 = .ok (.ireturn, 1) := by decide +kernel
theorem dX3_takeNumber_0 : decode cX3_takeNumber 0 = .ok (.aload_n 0, 1) := by decide +kernel
theorem dX3_takeNumber_1 : decode cX3_takeNumber 1 = .ok (.getfield 21, 3) := by decide +kernel
theorem dX3_takeNumber_4 : decode cX3_takeNumber 4 = .ok (.getfield 44, 3) := by decide +kernel
theorem dX3_takeNumber_7 : decode cX3_takeNumber 7 = .ok (.iconst 2, 1) := by decide +kernel
theorem dX3_takeNumber_8 : decode cX3_takeNumber 8 = .ok (.if_icmp .eq 9, 3) := by decide +kernel
theorem dX3_takeNumber_11 : decode cX3_takeNumber 11 = .ok (.aload_n 0, 1) := by decide +kernel
theorem dX3_takeNumber_12 : decode cX3_takeNumber 12 = .ok (.iconst 1, 1) := by decide +kernel
theorem dX3_takeNumber_13 : decode cX3_takeNumber 13 = .ok (.invokevirtual 60, 3) := by decide +kernel
theorem dX3_takeNumber_16 : decode cX3_takeNumber 16 = .ok (.ireturn, 1) := by decide +kernel
theorem dX3_takeNumber_17 : decode cX3_takeNumber 17 = .ok (.aload_n 0, 1) := by decide +kernel
theorem dX3_takeNumber_18 : decode cX3_takeNumber 18 = .ok (.getfield 21, 3) := by decide +kernel
theorem dX3_takeNumber_21 : decode cX3_takeNumber 21 = .ok (.getfield 67, 3) := by decide +kernel
theorem dX3_takeNumber_24 : decode cX3_takeNumber 24 = .ok (.iload_n 1, 1) := by decide +kernel
theorem dX3_takeNumber_25 : decode cX3_takeNumber 25 = .ok (.if_icmp .lt 25, 3) := by decide +kernel
theorem dX3_takeNumber_28 : decode cX3_takeNumber 28 = .ok (.aload_n 0, 1) := by decide +kernel
theorem dX3_takeNumber_29 : decode cX3_takeNumber 29 = .ok (.getfield 21, 3) := by decide +kernel
theorem dX3_takeNumber_32 : decode cX3_takeNumber 32 = .ok (.getfield 67, 3) := by decide +kernel
theorem dX3_takeNumber_35 : decode cX3_takeNumber 35 = .ok (.iload_n 2, 1) := by decide +kernel
theorem dX3_takeNumber_36 : decode cX3_takeNumber 36 = .ok (.if_icmp .gt 14, 3) := by decide +kernel
theorem dX3_takeNumber_39 : decode cX3_takeNumber 39 = .ok (.aload_n 0, 1) := by decide +kernel
theorem dX3_takeNumber_40 : decode cX3_takeNumber 40 = .ok (.getfield 21, 3) := by decide +kernel
theorem dX3_takeNumber_43 : decode cX3_takeNumber 43 = .ok (.getfield 67, 3) := by decide +kernel
theorem dX3_takeNumber_46 : decode cX3_takeNumber 46 = .ok (.iload_n 3, 1) := by decide +kernel
theorem dX3_takeNumber_47 : decode cX3_takeNumber 47 = .ok (.if_icmp .ne 9, 3) := by decide +kernel
theorem dX3_takeNumber_50 : decode cX3_takeNumber 50 = .ok (.aload_n 0, 1) := by decide +kernel
theorem dX3_takeNumber_51 : decode cX3_takeNumber 51 = .ok (.iconst 2, 1) := by decide +kernel
theorem dX3_takeNumber_52 : decode cX3_takeNumber 52 = .ok (.invokevirtual 60, 3) := by decide +kernel
theorem dX3_takeNumber_55 : decode cX3_takeNumber 55 = .ok (.ireturn, 1) := by decide +kernel
theorem dX3_takeNumber_56 : decode cX3_takeNumber 56 = .ok (.aload_n 0, 1) := by decide +kernel
theorem dX3_takeNumber_57 : decode cX3_takeNumber 57 = .ok (.aload_n 0, 1) := by decide +kernel
theorem dX3_takeNumber_58 : decode cX3_takeNumber 58 = .ok (.getfield 21, 3) := by decide +kernel
theorem dX3_takeNumber_61 : decode cX3_takeNumber 61 = .ok (.getfield 67, 3) := by decide +kernel
theorem dX3_takeNumber_64 : decode cX3_takeNumber 64 = .ok (.putfield 9, 3) := by decide +kernel
theorem dX3_takeNumber_67 : decode cX3_takeNumber 67 = .ok (.aload_n 0, 1) := by decide +kernel
theorem dX3_takeNumber_68 : decode cX3_takeNumber 68 = .ok (.getfield 21, 3) := by decide +kernel
theorem dX3_takeNumber_71 : decode cX3_takeNumber 71 = .ok (.invokevirtual 64, 3) := by decide +kernel
theorem dX3_takeNumber_74 : decode cX3_takeNumber 74 = .ok (.iconst 1, 1) := by decide +kernel
theorem dX3_takeNumber_75 : decode cX3_takeNumber 75 = .ok (.ireturn, 1) := by decide +kernel
theorem dX3_readLands_0 : decode cX3_readLands 0 = .ok (.aload_n 0, 1) := by decide +kernel
theorem dX3_readLands_1 : decode cX3_readLands 1 = .ok (.getfield 21, 3) := by decide +kernel
theorem dX3_readLands_4 : decode cX3_readLands 4 = .ok (.ldc 70, 2) := by decide +kernel
theorem dX3_readLands_6 : decode cX3_readLands 6 = .ok (.invokevirtual 72, 3) := by decide +kernel
theorem dX3_readLands_9 : decode cX3_readLands 9 = .ok (.ifCond .ne 9, 3) := by decide +kernel
theorem dX3_readLands_12 : decode cX3_readLands 12 = .ok (.aload_n 0, 1) := by decide +kernel
theorem dX3_readLands_13 : decode cX3_readLands 13 = .ok (.iconst 1, 1) := by decide +kernel
theorem dX3_readLands_14 : decode cX3_readLands 14 = .ok (.invokevirtual 60, 3) := by decide +kernel
theorem dX3_readLands_17 : decode cX3_readLands 17 = .ok (.ireturn, 1) := by decide +kernel
theorem dX3_readLands_18 : decode cX3_readLands 18 = .ok (.aload_n 0, 1) := by decide +kernel
theorem dX3_readLands_19 : decode cX3_readLands 19 = .ok (.getfield 21, 3) := by decide +kernel
theorem dX3_readLands_22 : decode cX3_readLands 22 = .ok (.invokevirtual 64, 3) := by decide +kernel
theorem dX3_readLands_25 : decode cX3_readLands 25 = .ok (.aload_n 0, 1) := by decide +kernel
theorem dX3_readLands_26 : decode cX3_readLands 26 = .ok (.iconst 1, 1) := by decide +kernel
theorem dX3_readLands_27 : decode cX3_readLands 27 = .ok (.bipush 6, 2) := by decide +kernel
theorem dX3_readLands_29 : decode cX3_readLands 29 = .ok (.iconst (-1), 1) := by decide +kernel
theorem dX3_readLands_30 : decode cX3_readLands 30 = .ok (.invokevirtual 76, 3) := by decide +kernel
theorem dX3_readLands_33 : decode cX3_readLands 33 = .ok (.ifCond .ne 5, 3) := by decide +kernel
theorem dX3_readLands_36 : decode cX3_readLands 36 = .ok (.iconst 0, 1) := by decide +kernel
theorem dX3_readLands_37 : decode cX3_readLands 37 = .ok (.ireturn, 1) := by decide +kernel
theorem dX3_readLands_38 : decode cX3_readLands 38 = .ok (.aload_n 0, 1) := by decide +kernel
theorem dX3_readLands_39 : decode cX3_readLands 39 = .ok (.getfield 25, 3) := by decide +kernel
theorem dX3_readLands_42 : decode cX3_readLands 42 = .ok (.aload_n 0, 1) := by decide +kernel
theorem dX3_readLands_43 : decode cX3_readLands 43 = .ok (.getfield 9, 3) := by decide +kernel
theorem dX3_readLands_46 : decode cX3_readLands 46 = .ok (.putfield 80, 3) := by decide +kernel
theorem dX3_readLands_49 : decode cX3_readLands 49 = .ok (.aload_n 0, 1) := by decide +kernel
theorem dX3_readLands_50 : decode cX3_readLands 50 = .ok (.invokevirtual 50, 3) := by decide +kernel
theorem dX3_readLands_53 : decode cX3_readLands 53 = .ok (.ireturn, 1) := by decide +kernel
theorem dX3_readLine_0 : decode cX3_readLine 0 = .ok (.aload_n 0, 1) := by decide +kernel
theorem dX3_readLine_1 : decode cX3_readLine 1 = .ok (.getfield 21, 3) := by decide +kernel
theorem dX3_readLine_4 : decode cX3_readLine 4 = .ok (.ldc 82, 2) := by decide +kernel
theorem dX3_readLine_6 : decode cX3_readLine 6 = .ok (.invokevirtual 72, 3) := by decide +kernel
theorem dX3_readLine_9 : decode cX3_readLine 9 = .ok (.ifCond .eq 8, 3) := by decide +kernel
theorem dX3_readLine_12 : decode cX3_readLine 12 = .ok (.aload_n 0, 1) := by decide +kernel
theorem dX3_readLine_13 : decode cX3_readLine 13 = .ok (.invokevirtual 84, 3) := by decide +kernel
theorem dX3_readLine_16 : decode cX3_readLine 16 = .ok (.ireturn, 1) := by decide +kernel
theorem dX3_readLine_17 : decode cX3_readLine 17 = .ok (.aload_n 0, 1) := by decide +kernel
theorem dX3_readLine_18 : decode cX3_readLine 18 = .ok (.getfield 21, 3) := by decide +kernel
theorem dX3_readLine_21 : decode cX3_readLine 21 = .ok (.ldc 87, 2) := by decide +kernel
theorem dX3_readLine_23 : decode cX3_readLine 23 = .ok (.invokevirtual 72, 3) := by decide +kernel
theorem dX3_readLine_26 : decode cX3_readLine 26 = .ok (.ifCond .eq 8, 3) := by decide +kernel
theorem dX3_readLine_29 : decode cX3_readLine 29 = .ok (.aload_n 0, 1) := by decide +kernel
theorem dX3_readLine_30 : decode cX3_readLine 30 = .ok (.invokevirtual 89, 3) := by decide +kernel
theorem dX3_readLine_33 : decode cX3_readLine 33 = .ok (.ireturn, 1) := by decide +kernel
theorem dX3_readLine_34 : decode cX3_readLine 34 = .ok (.aload_n 0, 1) := by decide +kernel
theorem dX3_readLine_35 : decode cX3_readLine 35 = .ok (.getfield 21, 3) := by decide +kernel
theorem dX3_readLine_38 : decode cX3_readLine 38 = .ok (.ldc 92, 2) := by decide +kernel
theorem dX3_readLine_40 : decode cX3_readLine 40 = .ok (.invokevirtual 72, 3) := by decide +kernel
theorem dX3_readLine_43 : decode cX3_readLine 43 = .ok (.ifCond .eq 17, 3) := by decide +kernel
theorem dX3_readLine_46 : decode cX3_readLine 46 = .ok (.aload_n 0, 1) := by decide +kernel
theorem dX3_readLine_47 : decode cX3_readLine 47 = .ok (.aload_n 0, 1) := by decide +kernel
theorem dX3_readLine_48 : decode cX3_readLine 48 = .ok (.getfield 25, 3) := by decide +kernel
theorem dX3_readLine_51 : decode cX3_readLine 51 = .ok (.getfield 94, 3) := by decide +kernel
theorem dX3_readLine_54 : decode cX3_readLine 54 = .ok (.bipush 10, 2) := by decide +kernel
theorem dX3_readLine_56 : decode cX3_readLine 56 = .ok (.invokevirtual 98, 3) := by decide +kernel
theorem dX3_readLine_59 : decode cX3_readLine 59 = .ok (.ireturn, 1) := by decide +kernel
theorem dX3_readLine_60 : decode cX3_readLine 60 = .ok (.aload_n 0, 1) := by decide +kernel
theorem dX3_readLine_61 : decode cX3_readLine 61 = .ok (.getfield 21, 3) := by decide +kernel
theorem dX3_readLine_64 : decode cX3_readLine 64 = .ok (.ldc 102, 2) := by decide +kernel
theorem dX3_readLine_66 : decode cX3_readLine 66 = .ok (.invokevirtual 72, 3) := by decide +kernel
theorem dX3_readLine_69 : decode cX3_readLine 69 = .ok (.ifCond .eq 22, 3) := by decide +kernel
theorem dX3_readLine_72 : decode cX3_readLine 72 = .ok (.aload_n 0, 1) := by decide +kernel
theorem dX3_readLine_73 : decode cX3_readLine 73 = .ok (.aload_n 0, 1) := by decide +kernel
theorem dX3_readLine_74 : decode cX3_readLine 74 = .ok (.getfield 25, 3) := by decide +kernel
theorem dX3_readLine_77 : decode cX3_readLine 77 = .ok (.getfield 104, 3) := by decide +kernel
theorem dX3_readLine_80 : decode cX3_readLine 80 = .ok (.aload_n 0, 1) := by decide +kernel
theorem dX3_readLine_81 : decode cX3_readLine 81 = .ok (.getfield 25, 3) := by decide +kernel
theorem dX3_readLine_84 : decode cX3_readLine 84 = .ok (.getfield 107, 3) := by decide +kernel
theorem dX3_readLine_87 : decode cX3_readLine 87 = .ok (.invokevirtual 98, 3) := by decide +kernel
theorem dX3_readLine_90 : decode cX3_readLine 90 = .ok (.ireturn, 1) := by decide +kernel
theorem dX3_readLine_91 : decode cX3_readLine 91 = .ok (.aload_n 0, 1) := by decide +kernel
theorem dX3_readLine_92 : decode cX3_readLine 92 = .ok (.invokevirtual 110, 3) := by decide +kernel
theorem dX3_readLine_95 : decode cX3_readLine 95 = .ok (.istore_n 1, 1) := by decide +kernel
theorem dX3_readLine_96 : decode cX3_readLine 96 = .ok (.iload_n 1, 1) := by decide +kernel
theorem dX3_readLine_97 : decode cX3_readLine 97 = .ok (.iconst (-1), 1) := by decide +kernel
theorem dX3_readLine_98 : decode cX3_readLine 98 = .ok (.if_icmp .ne 9, 3) := by decide +kernel
theorem dX3_readLine_101 : decode cX3_readLine 101 = .ok (.aload_n 0, 1) := by decide +kernel
theorem dX3_readLine_102 : decode cX3_readLine 102 = .ok (.iconst 1, 1) := by decide +kernel
theorem dX3_readLine_103 : decode cX3_readLine 103 = .ok (.invokevirtual 60, 3) := by decide +kernel
theorem dX3_readLine_106 : decode cX3_readLine 106 = .ok (.ireturn, 1) := by decide +kernel
theorem dX3_readLine_107 : decode cX3_readLine 107 = .ok (.aload_n 0, 1) := by decide +kernel
theorem dX3_readLine_108 : decode cX3_readLine 108 = .ok (.getfield 21, 3) := by decide +kernel
theorem dX3_readLine_111 : decode cX3_readLine 111 = .ok (.invokevirtual 64, 3) := by decide +kernel
theorem dX3_readLine_114 : decode cX3_readLine 114 = .ok (.aload_n 0, 1) := by decide +kernel
theorem dX3_readLine_115 : decode cX3_readLine 115 = .ok (.iconst 0, 1) := by decide +kernel
theorem dX3_readLine_116 : decode cX3_readLine 116 = .ok (.getstatic 114, 3) := by decide +kernel
theorem dX3_readLine_119 : decode cX3_readLine 119 = .ok (.iload_n 1, 1) := by decide +kernel
theorem dX3_readLine_120 : decode cX3_readLine 120 = .ok (.iaload, 1) := by decide +kernel
theorem dX3_readLine_121 : decode cX3_readLine 121 = .ok (.iconst (-1), 1) := by decide +kernel
theorem dX3_readLine_122 : decode cX3_readLine 122 = .ok (.invokevirtual 76, 3) := by decide +kernel
theorem dX3_readLine_125 : decode cX3_readLine 125 = .ok (.ifCond .ne 5, 3) := by decide +kernel
theorem dX3_readLine_128 : decode cX3_readLine 128 = .ok (.iconst 0, 1) := by decide +kernel
theorem dX3_readLine_129 : decode cX3_readLine 129 = .ok (.ireturn, 1) := by decide +kernel
theorem dX3_readLine_130 : decode cX3_readLine 130 = .ok (.aload_n 0, 1) := by decide +kernel
theorem dX3_readLine_131 : decode cX3_readLine 131 = .ok (.getfield 25, 3) := by decide +kernel
theorem dX3_readLine_134 : decode cX3_readLine 134 = .ok (.getfield 117, 3) := by decide +kernel
theorem dX3_readLine_137 : decode cX3_readLine 137 = .ok (.iload_n 1, 1) := by decide +kernel
theorem dX3_readLine_138 : decode cX3_readLine 138 = .ok (.aload_n 0, 1) := by decide +kernel
theorem dX3_readLine_139 : decode cX3_readLine 139 = .ok (.getfield 9, 3) := by decide +kernel
theorem dX3_readLine_142 : decode cX3_readLine 142 = .ok (.iastore, 1) := by decide +kernel
theorem dX3_readLine_143 : decode cX3_readLine 143 = .ok (.iconst 1, 1) := by decide +kernel
theorem dX3_readLine_144 : decode cX3_readLine 144 = .ok (.ireturn, 1) := by decide +kernel
theorem dX3_ruleOfWord_0 : decode cX3_ruleOfWord 0 = .ok (.aload_n 0, 1) := by decide +kernel
theorem dX3_ruleOfWord_1 : decode cX3_ruleOfWord 1 = .ok (.getfield 21, 3) := by decide +kernel
theorem dX3_ruleOfWord_4 : decode cX3_ruleOfWord 4 = .ok (.ldc 120, 2) := by decide +kernel
theorem dX3_ruleOfWord_6 : decode cX3_ruleOfWord 6 = .ok (.invokevirtual 72, 3) := by decide +kernel
theorem dX3_ruleOfWord_9 : decode cX3_ruleOfWord 9 = .ok (.ifCond .eq 5, 3) := by decide +kernel
theorem dX3_ruleOfWord_12 : decode cX3_ruleOfWord 12 = .ok (.iconst 0, 1) := by decide +kernel
theorem dX3_ruleOfWord_13 : decode cX3_ruleOfWord 13 = .ok (.ireturn, 1) := by decide +kernel
theorem dX3_ruleOfWord_14 : decode cX3_ruleOfWord 14 = .ok (.aload_n 0, 1) := by decide +kernel
theorem dX3_ruleOfWord_15 : decode cX3_ruleOfWord 15 = .ok (.getfield 21, 3) := by decide +kernel
theorem dX3_ruleOfWord_18 : decode cX3_ruleOfWord 18 = .ok (.ldc 122, 2) := by decide +kernel
theorem dX3_ruleOfWord_20 : decode cX3_ruleOfWord 20 = .ok (.invokevirtual 72, 3) := by decide +kernel
theorem dX3_ruleOfWord_23 : decode cX3_ruleOfWord 23 = .ok (.ifCond .eq 5, 3) := by decide +kernel
theorem dX3_ruleOfWord_26 : decode cX3_ruleOfWord 26 = .ok (.iconst 1, 1) := by decide +kernel
theorem dX3_ruleOfWord_27 : decode cX3_ruleOfWord 27 = .ok (.ireturn, 1) := by decide +kernel
theorem dX3_ruleOfWord_28 : decode cX3_ruleOfWord 28 = .ok (.aload_n 0, 1) := by decide +kernel
theorem dX3_ruleOfWord_29 : decode cX3_ruleOfWord 29 = .ok (.getfield 21, 3) := by decide +kernel
theorem dX3_ruleOfWord_32 : decode cX3_ruleOfWord 32 = .ok (.ldc 124, 2) := by decide +kernel
theorem dX3_ruleOfWord_34 : decode cX3_ruleOfWord 34 = .ok (.invokevirtual 72, 3) := by decide +kernel
theorem dX3_ruleOfWord_37 : decode cX3_ruleOfWord 37 = .ok (.ifCond .eq 5, 3) := by decide +kernel
theorem dX3_ruleOfWord_40 : decode cX3_ruleOfWord 40 = .ok (.iconst 2, 1) := by decide +kernel
theorem dX3_ruleOfWord_41 : decode cX3_ruleOfWord 41 = .ok (.ireturn, 1) := by decide +kernel
theorem dX3_ruleOfWord_42 : decode cX3_ruleOfWord 42 = .ok (.aload_n 0, 1) := by decide +kernel
theorem dX3_ruleOfWord_43 : decode cX3_ruleOfWord 43 = .ok (.getfield 21, 3) := by decide +kernel
theorem dX3_ruleOfWord_46 : decode cX3_ruleOfWord 46 = .ok (.ldc 126, 2) := by decide +kernel
theorem dX3_ruleOfWord_48 : decode cX3_ruleOfWord 48 = .ok (.invokevirtual 72, 3) := by decide +kernel
theorem dX3_ruleOfWord_51 : decode cX3_ruleOfWord 51 = .ok (.ifCond .eq 5, 3) := by decide +kernel
theorem dX3_ruleOfWord_54 : decode cX3_ruleOfWord 54 = .ok (.iconst 3, 1) := by decide +kernel
theorem dX3_ruleOfWord_55 : decode cX3_ruleOfWord 55 = .ok (.ireturn, 1) := by decide +kernel
theorem dX3_ruleOfWord_56 : decode cX3_ruleOfWord 56 = .ok (.aload_n 0, 1) := by decide +kernel
theorem dX3_ruleOfWord_57 : decode cX3_ruleOfWord 57 = .ok (.getfield 21, 3) := by decide +kernel
theorem dX3_ruleOfWord_60 : decode cX3_ruleOfWord 60 = .ok (.ldc 128, 2) := by decide +kernel
theorem dX3_ruleOfWord_62 : decode cX3_ruleOfWord 62 = .ok (.invokevirtual 72, 3) := by decide +kernel
theorem dX3_ruleOfWord_65 : decode cX3_ruleOfWord 65 = .ok (.ifCond .eq 5, 3) := by decide +kernel
theorem dX3_ruleOfWord_68 : decode cX3_ruleOfWord 68 = .ok (.iconst 4, 1) := by decide +kernel
theorem dX3_ruleOfWord_69 : decode cX3_ruleOfWord 69 = .ok (.ireturn, 1) := by decide +kernel
theorem dX3_ruleOfWord_70 : decode cX3_ruleOfWord 70 = .ok (.aload_n 0, 1) := by decide +kernel
theorem dX3_ruleOfWord_71 : decode cX3_ruleOfWord 71 = .ok (.getfield 21, 3) := by decide +kernel
theorem dX3_ruleOfWord_74 : decode cX3_ruleOfWord 74 = .ok (.ldc 130, 2) := by decide +kernel
theorem dX3_ruleOfWord_76 : decode cX3_ruleOfWord 76 = .ok (.invokevirtual 72, 3) := by decide +kernel
theorem dX3_ruleOfWord_79 : decode cX3_ruleOfWord 79 = .ok (.ifCond .eq 7, 3) := by decide +kernel
theorem dX3_ruleOfWord_82 : decode cX3_ruleOfWord 82 = .ok (.iconst 5, 1) := by decide +kernel
theorem dX3_ruleOfWord_83 : decode cX3_ruleOfWord 83 = .ok (.goto 4, 3) := by decide +kernel
theorem dX3_ruleOfWord_86 : decode cX3_ruleOfWord 86 = .ok (.iconst (-1), 1) := by decide +kernel
theorem dX3_ruleOfWord_87 : decode cX3_ruleOfWord 87 = .ok (.ireturn, 1) := by decide +kernel
theorem dX3_readMark_0 : decode cX3_readMark 0 = .ok (.aload_n 0, 1) := by decide +kernel
theorem dX3_readMark_1 : decode cX3_readMark 1 = .ok (.getfield 25, 3) := by decide +kernel
theorem dX3_readMark_4 : decode cX3_readMark 4 = .ok (.getfield 107, 3) := by decide +kernel
theorem dX3_readMark_7 : decode cX3_readMark 7 = .ok (.bipush 12, 2) := by decide +kernel
theorem dX3_readMark_9 : decode cX3_readMark 9 = .ok (.if_icmp .lt 9, 3) := by decide +kernel
theorem dX3_readMark_12 : decode cX3_readMark 12 = .ok (.aload_n 0, 1) := by decide +kernel
theorem dX3_readMark_13 : decode cX3_readMark 13 = .ok (.iconst 4, 1) := by decide +kernel
theorem dX3_readMark_14 : decode cX3_readMark 14 = .ok (.invokevirtual 60, 3) := by decide +kernel
theorem dX3_readMark_17 : decode cX3_readMark 17 = .ok (.ireturn, 1) := by decide +kernel
theorem dX3_readMark_18 : decode cX3_readMark 18 = .ok (.aload_n 0, 1) := by decide +kernel
theorem dX3_readMark_19 : decode cX3_readMark 19 = .ok (.getfield 21, 3) := by decide +kernel
theorem dX3_readMark_22 : decode cX3_readMark 22 = .ok (.invokevirtual 64, 3) := by decide +kernel
theorem dX3_readMark_25 : decode cX3_readMark 25 = .ok (.aload_n 0, 1) := by decide +kernel
theorem dX3_readMark_26 : decode cX3_readMark 26 = .ok (.getfield 21, 3) := by decide +kernel
theorem dX3_readMark_29 : decode cX3_readMark 29 = .ok (.getfield 44, 3) := by decide +kernel
theorem dX3_readMark_32 : decode cX3_readMark 32 = .ok (.iconst 1, 1) := by decide +kernel
theorem dX3_readMark_33 : decode cX3_readMark 33 = .ok (.if_icmp .eq 9, 3) := by decide +kernel
theorem dX3_readMark_36 : decode cX3_readMark 36 = .ok (.aload_n 0, 1) := by decide +kernel
theorem dX3_readMark_37 : decode cX3_readMark 37 = .ok (.iconst 1, 1) := by decide +kernel
theorem dX3_readMark_38 : decode cX3_readMark 38 = .ok (.invokevirtual 60, 3) := by decide +kernel
theorem dX3_readMark_41 : decode cX3_readMark 41 = .ok (.ireturn, 1) := by decide +kernel
theorem dX3_readMark_42 : decode cX3_readMark 42 = .ok (.aload_n 0, 1) := by decide +kernel
theorem dX3_readMark_43 : decode cX3_readMark 43 = .ok (.getfield 21, 3) := by decide +kernel
theorem dX3_readMark_46 : decode cX3_readMark 46 = .ok (.invokevirtual 132, 3) := by decide +kernel
theorem dX3_readMark_49 : decode cX3_readMark 49 = .ok (.bipush 10, 2) := by decide +kernel
theorem dX3_readMark_51 : decode cX3_readMark 51 = .ok (.if_icmp .le 9, 3) := by decide +kernel
theorem dX3_readMark_54 : decode cX3_readMark 54 = .ok (.aload_n 0, 1) := by decide +kernel
theorem dX3_readMark_55 : decode cX3_readMark 55 = .ok (.iconst 3, 1) := by decide +kernel
theorem dX3_readMark_56 : decode cX3_readMark 56 = .ok (.invokevirtual 60, 3) := by decide +kernel
theorem dX3_readMark_59 : decode cX3_readMark 59 = .ok (.ireturn, 1) := by decide +kernel
theorem dX3_readMark_60 : decode cX3_readMark 60 = .ok (.aload_n 0, 1) := by decide +kernel
theorem dX3_readMark_61 : decode cX3_readMark 61 = .ok (.getfield 21, 3) := by decide +kernel
theorem dX3_readMark_64 : decode cX3_readMark 64 = .ok (.getfield 53, 3) := by decide +kernel
theorem dX3_readMark_67 : decode cX3_readMark 67 = .ok (.istore_n 1, 1) := by decide +kernel
theorem dX3_readMark_68 : decode cX3_readMark 68 = .ok (.aload_n 0, 1) := by decide +kernel
theorem dX3_readMark_69 : decode cX3_readMark 69 = .ok (.getfield 21, 3) := by decide +kernel
theorem dX3_readMark_72 : decode cX3_readMark 72 = .ok (.invokevirtual 132, 3) := by decide +kernel
theorem dX3_readMark_75 : decode cX3_readMark 75 = .ok (.istore_n 2, 1) := by decide +kernel
theorem dX3_readMark_76 : decode cX3_readMark 76 = .ok (.aload_n 0, 1) := by decide +kernel
theorem dX3_readMark_77 : decode cX3_readMark 77 = .ok (.getfield 21, 3) := by decide +kernel
theorem dX3_readMark_80 : decode cX3_readMark 80 = .ok (.invokevirtual 64, 3) := by decide +kernel
theorem dX3_readMark_83 : decode cX3_readMark 83 = .ok (.aload_n 0, 1) := by decide +kernel
theorem dX3_readMark_84 : decode cX3_readMark 84 = .ok (.iconst 0, 1) := by decide +kernel
theorem dX3_readMark_85 : decode cX3_readMark 85 = .ok (.sipush 9999, 3) := by decide +kernel
theorem dX3_readMark_88 : decode cX3_readMark 88 = .ok (.iconst (-1), 1) := by decide +kernel
theorem dX3_readMark_89 : decode cX3_readMark 89 = .ok (.invokevirtual 76, 3) := by decide +kernel
theorem dX3_readMark_92 : decode cX3_readMark 92 = .ok (.ifCond .ne 5, 3) := by decide +kernel
theorem dX3_readMark_95 : decode cX3_readMark 95 = .ok (.iconst 0, 1) := by decide +kernel
theorem dX3_readMark_96 : decode cX3_readMark 96 = .ok (.ireturn, 1) := by decide +kernel
theorem dX3_readMark_97 : decode cX3_readMark 97 = .ok (.aload_n 0, 1) := by decide +kernel
theorem dX3_readMark_98 : decode cX3_readMark 98 = .ok (.getfield 25, 3) := by decide +kernel
theorem dX3_readMark_101 : decode cX3_readMark 101 = .ok (.aload_n 0, 1) := by decide +kernel
theorem dX3_readMark_102 : decode cX3_readMark 102 = .ok (.getfield 21, 3) := by decide +kernel
theorem dX3_readMark_105 : decode cX3_readMark 105 = .ok (.getfield 135, 3) := by decide +kernel
theorem dX3_readMark_108 : decode cX3_readMark 108 = .ok (.iload_n 1, 1) := by decide +kernel
theorem dX3_readMark_109 : decode cX3_readMark 109 = .ok (.iload_n 2, 1) := by decide +kernel
theorem dX3_readMark_110 : decode cX3_readMark 110 = .ok (.aload_n 0, 1) := by decide +kernel
theorem dX3_readMark_111 : decode cX3_readMark 111 = .ok (.getfield 9, 3) := by decide +kernel
theorem dX3_readMark_114 : decode cX3_readMark 114 = .ok (.invokevirtual 139, 3) := by decide +kernel
theorem dX3_readMark_117 : decode cX3_readMark 117 = .ok (.istore_n 3, 1) := by decide +kernel
theorem dX3_readMark_118 : decode cX3_readMark 118 = .ok (.iconst 0, 1) := by decide +kernel
theorem dX3_readMark_119 : decode cX3_readMark 119 = .ok (.istore 4, 2) := by decide +kernel
theorem dX3_readMark_121 : decode cX3_readMark 121 = .ok (.iload 4, 2) := by decide +kernel
theorem dX3_readMark_123 : decode cX3_readMark 123 = .ok (.bipush 10, 2) := by decide +kernel
theorem dX3_readMark_125 : decode cX3_readMark 125 = .ok (.if_icmp .gt 92, 3) := by decide +kernel
theorem dX3_readMark_128 : decode cX3_readMark 128 = .ok (.aload_n 0, 1) := by decide +kernel
theorem dX3_readMark_129 : decode cX3_readMark 129 = .ok (.getfield 21, 3) := by decide +kernel
theorem dX3_readMark_132 : decode cX3_readMark 132 = .ok (.getfield 44, 3) := by decide +kernel
theorem dX3_readMark_135 : decode cX3_readMark 135 = .ok (.iconst 2, 1) := by decide +kernel
theorem dX3_readMark_136 : decode cX3_readMark 136 = .ok (.if_icmp .ne 81, 3) := by decide +kernel
theorem dX3_readMark_139 : decode cX3_readMark 139 = .ok (.aload_n 0, 1) := by decide +kernel
theorem dX3_readMark_140 : decode cX3_readMark 140 = .ok (.getfield 21, 3) := by decide +kernel
theorem dX3_readMark_143 : decode cX3_readMark 143 = .ok (.getfield 67, 3) := by decide +kernel
theorem dX3_readMark_146 : decode cX3_readMark 146 = .ok (.invokestatic 143, 3) := by decide +kernel
theorem dX3_readMark_149 : decode cX3_readMark 149 = .ok (.ifCond .eq 31, 3) := by decide +kernel
theorem dX3_readMark_152 : decode cX3_readMark 152 = .ok (.aload_n 0, 1) := by decide +kernel
theorem dX3_readMark_153 : decode cX3_readMark 153 = .ok (.getfield 21, 3) := by decide +kernel
theorem dX3_readMark_156 : decode cX3_readMark 156 = .ok (.getfield 67, 3) := by decide +kernel
theorem dX3_readMark_159 : decode cX3_readMark 159 = .ok (.aload_n 0, 1) := by decide +kernel
theorem dX3_readMark_160 : decode cX3_readMark 160 = .ok (.getfield 25, 3) := by decide +kernel
theorem dX3_readMark_163 : decode cX3_readMark 163 = .ok (.getfield 146, 3) := by decide +kernel
theorem dX3_readMark_166 : decode cX3_readMark 166 = .ok (.iload_n 3, 1) := by decide +kernel
theorem dX3_readMark_167 : decode cX3_readMark 167 = .ok (.iaload, 1) := by decide +kernel
theorem dX3_readMark_168 : decode cX3_readMark 168 = .ok (.invokestatic 149, 3) := by decide +kernel
theorem dX3_readMark_171 : decode cX3_readMark 171 = .ok (.ifCond .eq 9, 3) := by decide +kernel
theorem dX3_readMark_174 : decode cX3_readMark 174 = .ok (.aload_n 0, 1) := by decide +kernel
theorem dX3_readMark_175 : decode cX3_readMark 175 = .ok (.iconst 2, 1) := by decide +kernel
theorem dX3_readMark_176 : decode cX3_readMark 176 = .ok (.invokevirtual 60, 3) := by decide +kernel
theorem dX3_readMark_179 : decode cX3_readMark 179 = .ok (.ireturn, 1) := by decide +kernel
theorem dX3_readMark_180 : decode cX3_readMark 180 = .ok (.aload_n 0, 1) := by decide +kernel
theorem dX3_readMark_181 : decode cX3_readMark 181 = .ok (.iconst 0, 1) := by decide +kernel
theorem dX3_readMark_182 : decode cX3_readMark 182 = .ok (.bipush 9, 2) := by decide +kernel
theorem dX3_readMark_184 : decode cX3_readMark 184 = .ok (.iconst (-1), 1) := by decide +kernel
theorem dX3_readMark_185 : decode cX3_readMark 185 = .ok (.invokevirtual 76, 3) := by decide +kernel
theorem dX3_readMark_188 : decode cX3_readMark 188 = .ok (.ifCond .ne 5, 3) := by decide +kernel
theorem dX3_readMark_191 : decode cX3_readMark 191 = .ok (.iconst 0, 1) := by decide +kernel
theorem dX3_readMark_192 : decode cX3_readMark 192 = .ok (.ireturn, 1) := by decide +kernel
theorem dX3_readMark_193 : decode cX3_readMark 193 = .ok (.aload_n 0, 1) := by decide +kernel
theorem dX3_readMark_194 : decode cX3_readMark 194 = .ok (.getfield 25, 3) := by decide +kernel
theorem dX3_readMark_197 : decode cX3_readMark 197 = .ok (.getfield 146, 3) := by decide +kernel
theorem dX3_readMark_200 : decode cX3_readMark 200 = .ok (.iload_n 3, 1) := by decide +kernel
theorem dX3_readMark_201 : decode cX3_readMark 201 = .ok (.dup2, 1) := by decide +kernel
theorem dX3_readMark_202 : decode cX3_readMark 202 = .ok (.iaload, 1) := by decide +kernel
theorem dX3_readMark_203 : decode cX3_readMark 203 = .ok (.iconst 1, 1) := by decide +kernel
theorem dX3_readMark_204 : decode cX3_readMark 204 = .ok (.aload_n 0, 1) := by decide +kernel
theorem dX3_readMark_205 : decode cX3_readMark 205 = .ok (.getfield 9, 3) := by decide +kernel
theorem dX3_readMark_208 : decode cX3_readMark 208 = .ok (.ishl, 1) := by decide +kernel
theorem dX3_readMark_209 : decode cX3_readMark 209 = .ok (.ior, 1) := by decide +kernel
theorem dX3_readMark_210 : decode cX3_readMark 210 = .ok (.iastore, 1) := by decide +kernel
theorem dX3_readMark_211 : decode cX3_readMark 211 = .ok (.iinc 4 1, 3) := by decide +kernel
theorem dX3_readMark_214 : decode cX3_readMark 214 = .ok (.goto (-93), 3) := by decide +kernel
theorem dX3_readMark_217 : decode cX3_readMark 217 = .ok (.iconst 1, 1) := by decide +kernel
theorem dX3_readMark_218 : decode cX3_readMark 218 = .ok (.ireturn, 1) := by decide +kernel
theorem dX3_readUse_0 : decode cX3_readUse 0 = .ok (.aload_n 0, 1) := by decide +kernel
theorem dX3_readUse_1 : decode cX3_readUse 1 = .ok (.getfield 21, 3) := by decide +kernel
theorem dX3_readUse_4 : decode cX3_readUse 4 = .ok (.invokevirtual 64, 3) := by decide +kernel
theorem dX3_readUse_7 : decode cX3_readUse 7 = .ok (.aload_n 0, 1) := by decide +kernel
theorem dX3_readUse_8 : decode cX3_readUse 8 = .ok (.getfield 21, 3) := by decide +kernel
theorem dX3_readUse_11 : decode cX3_readUse 11 = .ok (.getfield 44, 3) := by decide +kernel
theorem dX3_readUse_14 : decode cX3_readUse 14 = .ok (.iconst 2, 1) := by decide +kernel
theorem dX3_readUse_15 : decode cX3_readUse 15 = .ok (.if_icmp .ne 24, 3) := by decide +kernel
theorem dX3_readUse_18 : decode cX3_readUse 18 = .ok (.aload_n 0, 1) := by decide +kernel
theorem dX3_readUse_19 : decode cX3_readUse 19 = .ok (.getfield 21, 3) := by decide +kernel
theorem dX3_readUse_22 : decode cX3_readUse 22 = .ok (.getfield 67, 3) := by decide +kernel
theorem dX3_readUse_25 : decode cX3_readUse 25 = .ok (.aload_n 0, 1) := by decide +kernel
theorem dX3_readUse_26 : decode cX3_readUse 26 = .ok (.getfield 25, 3) := by decide +kernel
theorem dX3_readUse_29 : decode cX3_readUse 29 = .ok (.getfield 107, 3) := by decide +kernel
theorem dX3_readUse_32 : decode cX3_readUse 32 = .ok (.if_icmp .ge 7, 3) := by decide +kernel
theorem dX3_readUse_35 : decode cX3_readUse 35 = .ok (.iconst 1, 1) := by decide +kernel
theorem dX3_readUse_36 : decode cX3_readUse 36 = .ok (.goto 4, 3) := by decide +kernel
theorem dX3_readUse_39 : decode cX3_readUse 39 = .ok (.iconst 0, 1) := by decide +kernel
theorem dX3_readUse_40 : decode cX3_readUse 40 = .ok (.istore_n 1, 1) := by decide +kernel
theorem dX3_readUse_41 : decode cX3_readUse 41 = .ok (.iload_n 1, 1) := by decide +kernel
theorem dX3_readUse_42 : decode cX3_readUse 42 = .ok (.ifCond .eq 29, 3) := by decide +kernel
theorem dX3_readUse_45 : decode cX3_readUse 45 = .ok (.aload_n 0, 1) := by decide +kernel
theorem dX3_readUse_46 : decode cX3_readUse 46 = .ok (.getfield 25, 3) := by decide +kernel
theorem dX3_readUse_49 : decode cX3_readUse 49 = .ok (.getfield 153, 3) := by decide +kernel
theorem dX3_readUse_52 : decode cX3_readUse 52 = .ok (.aload_n 0, 1) := by decide +kernel
theorem dX3_readUse_53 : decode cX3_readUse 53 = .ok (.getfield 21, 3) := by decide +kernel
theorem dX3_readUse_56 : decode cX3_readUse 56 = .ok (.getfield 67, 3) := by decide +kernel
theorem dX3_readUse_59 : decode cX3_readUse 59 = .ok (.iaload, 1) := by decide +kernel
theorem dX3_readUse_60 : decode cX3_readUse 60 = .ok (.bipush 12, 2) := by decide +kernel
theorem dX3_readUse_62 : decode cX3_readUse 62 = .ok (.if_icmp .lt 9, 3) := by decide +kernel
theorem dX3_readUse_65 : decode cX3_readUse 65 = .ok (.aload_n 0, 1) := by decide +kernel
theorem dX3_readUse_66 : decode cX3_readUse 66 = .ok (.iconst 4, 1) := by decide +kernel
theorem dX3_readUse_67 : decode cX3_readUse 67 = .ok (.invokevirtual 60, 3) := by decide +kernel
theorem dX3_readUse_70 : decode cX3_readUse 70 = .ok (.ireturn, 1) := by decide +kernel
theorem dX3_readUse_71 : decode cX3_readUse 71 = .ok (.aload_n 0, 1) := by decide +kernel
theorem dX3_readUse_72 : decode cX3_readUse 72 = .ok (.iconst 0, 1) := by decide +kernel
theorem dX3_readUse_73 : decode cX3_readUse 73 = .ok (.aload_n 0, 1) := by decide +kernel
theorem dX3_readUse_74 : decode cX3_readUse 74 = .ok (.getfield 25, 3) := by decide +kernel
theorem dX3_readUse_77 : decode cX3_readUse 77 = .ok (.getfield 107, 3) := by decide +kernel
theorem dX3_readUse_80 : decode cX3_readUse 80 = .ok (.iconst 1, 1) := by decide +kernel
theorem dX3_readUse_81 : decode cX3_readUse 81 = .ok (.isub, 1) := by decide +kernel
theorem dX3_readUse_82 : decode cX3_readUse 82 = .ok (.iconst (-1), 1) := by decide +kernel
theorem dX3_readUse_83 : decode cX3_readUse 83 = .ok (.invokevirtual 76, 3) := by decide +kernel
theorem dX3_readUse_86 : decode cX3_readUse 86 = .ok (.ifCond .ne 5, 3) := by decide +kernel
theorem dX3_readUse_89 : decode cX3_readUse 89 = .ok (.iconst 0, 1) := by decide +kernel
theorem dX3_readUse_90 : decode cX3_readUse 90 = .ok (.ireturn, 1) := by decide +kernel
theorem dX3_readUse_91 : decode cX3_readUse 91 = .ok (.aload_n 0, 1) := by decide +kernel
theorem dX3_readUse_92 : decode cX3_readUse 92 = .ok (.getfield 9, 3) := by decide +kernel
theorem dX3_readUse_95 : decode cX3_readUse 95 = .ok (.istore_n 2, 1) := by decide +kernel
theorem dX3_readUse_96 : decode cX3_readUse 96 = .ok (.aload_n 0, 1) := by decide +kernel
theorem dX3_readUse_97 : decode cX3_readUse 97 = .ok (.iconst 0, 1) := by decide +kernel
theorem dX3_readUse_98 : decode cX3_readUse 98 = .ok (.aload_n 0, 1) := by decide +kernel
theorem dX3_readUse_99 : decode cX3_readUse 99 = .ok (.getfield 25, 3) := by decide +kernel
theorem dX3_readUse_102 : decode cX3_readUse 102 = .ok (.invokevirtual 156, 3) := by decide +kernel
theorem dX3_readUse_105 : decode cX3_readUse 105 = .ok (.iconst 1, 1) := by decide +kernel
theorem dX3_readUse_106 : decode cX3_readUse 106 = .ok (.isub, 1) := by decide +kernel
theorem dX3_readUse_107 : decode cX3_readUse 107 = .ok (.iconst (-1), 1) := by decide +kernel
theorem dX3_readUse_108 : decode cX3_readUse 108 = .ok (.invokevirtual 76, 3) := by decide +kernel
theorem dX3_readUse_111 : decode cX3_readUse 111 = .ok (.ifCond .ne 5, 3) := by decide +kernel
theorem dX3_readUse_114 : decode cX3_readUse 114 = .ok (.iconst 0, 1) := by decide +kernel
theorem dX3_readUse_115 : decode cX3_readUse 115 = .ok (.ireturn, 1) := by decide +kernel
theorem dX3_readUse_116 : decode cX3_readUse 116 = .ok (.aload_n 0, 1) := by decide +kernel
theorem dX3_readUse_117 : decode cX3_readUse 117 = .ok (.getfield 9, 3) := by decide +kernel
theorem dX3_readUse_120 : decode cX3_readUse 120 = .ok (.istore_n 3, 1) := by decide +kernel
theorem dX3_readUse_121 : decode cX3_readUse 121 = .ok (.aload_n 0, 1) := by decide +kernel
theorem dX3_readUse_122 : decode cX3_readUse 122 = .ok (.iconst 0, 1) := by decide +kernel
theorem dX3_readUse_123 : decode cX3_readUse 123 = .ok (.sipush 9999, 3) := by decide +kernel
theorem dX3_readUse_126 : decode cX3_readUse 126 = .ok (.iconst (-1), 1) := by decide +kernel
theorem dX3_readUse_127 : decode cX3_readUse 127 = .ok (.invokevirtual 76, 3) := by decide +kernel
theorem dX3_readUse_130 : decode cX3_readUse 130 = .ok (.ifCond .ne 5, 3) := by decide +kernel
theorem dX3_readUse_133 : decode cX3_readUse 133 = .ok (.iconst 0, 1) := by decide +kernel
theorem dX3_readUse_134 : decode cX3_readUse 134 = .ok (.ireturn, 1) := by decide +kernel
theorem dX3_readUse_135 : decode cX3_readUse 135 = .ok (.aload_n 0, 1) := by decide +kernel
theorem dX3_readUse_136 : decode cX3_readUse 136 = .ok (.getfield 9, 3) := by decide +kernel
theorem dX3_readUse_139 : decode cX3_readUse 139 = .ok (.istore 4, 2) := by decide +kernel
theorem dX3_readUse_141 : decode cX3_readUse 141 = .ok (.aload_n 0, 1) := by decide +kernel
theorem dX3_readUse_142 : decode cX3_readUse 142 = .ok (.iload 4, 2) := by decide +kernel
theorem dX3_readUse_144 : decode cX3_readUse 144 = .ok (.sipush 9999, 3) := by decide +kernel
theorem dX3_readUse_147 : decode cX3_readUse 147 = .ok (.iconst (-1), 1) := by decide +kernel
theorem dX3_readUse_148 : decode cX3_readUse 148 = .ok (.invokevirtual 76, 3) := by decide +kernel
theorem dX3_readUse_151 : decode cX3_readUse 151 = .ok (.ifCond .ne 5, 3) := by decide +kernel
theorem dX3_readUse_154 : decode cX3_readUse 154 = .ok (.iconst 0, 1) := by decide +kernel
theorem dX3_readUse_155 : decode cX3_readUse 155 = .ok (.ireturn, 1) := by decide +kernel
theorem dX3_readUse_156 : decode cX3_readUse 156 = .ok (.aload_n 0, 1) := by decide +kernel
theorem dX3_readUse_157 : decode cX3_readUse 157 = .ok (.getfield 25, 3) := by decide +kernel
theorem dX3_readUse_160 : decode cX3_readUse 160 = .ok (.iload_n 2, 1) := by decide +kernel
theorem dX3_readUse_161 : decode cX3_readUse 161 = .ok (.iload_n 3, 1) := by decide +kernel
theorem dX3_readUse_162 : decode cX3_readUse 162 = .ok (.iload 4, 2) := by decide +kernel
theorem dX3_readUse_164 : decode cX3_readUse 164 = .ok (.aload_n 0, 1) := by decide +kernel
theorem dX3_readUse_165 : decode cX3_readUse 165 = .ok (.getfield 9, 3) := by decide +kernel
theorem dX3_readUse_168 : decode cX3_readUse 168 = .ok (.invokevirtual 159, 3) := by decide +kernel
theorem dX3_readUse_171 : decode cX3_readUse 171 = .ok (.pop, 1) := by decide +kernel
theorem dX3_readUse_172 : decode cX3_readUse 172 = .ok (.iconst 1, 1) := by decide +kernel
theorem dX3_readUse_173 : decode cX3_readUse 173 = .ok (.ireturn, 1) := by decide +kernel
theorem dX3_readCouple_0 : decode cX3_readCouple 0 = .ok (.aload_n 0, 1) := by decide +kernel
theorem dX3_readCouple_1 : decode cX3_readCouple 1 = .ok (.getfield 21, 3) := by decide +kernel
theorem dX3_readCouple_4 : decode cX3_readCouple 4 = .ok (.invokevirtual 64, 3) := by decide +kernel
theorem dX3_readCouple_7 : decode cX3_readCouple 7 = .ok (.aload_n 0, 1) := by decide +kernel
theorem dX3_readCouple_8 : decode cX3_readCouple 8 = .ok (.iconst 0, 1) := by decide +kernel
theorem dX3_readCouple_9 : decode cX3_readCouple 9 = .ok (.iload_n 2, 1) := by decide +kernel
theorem dX3_readCouple_10 : decode cX3_readCouple 10 = .ok (.iconst 1, 1) := by decide +kernel
theorem dX3_readCouple_11 : decode cX3_readCouple 11 = .ok (.isub, 1) := by decide +kernel
theorem dX3_readCouple_12 : decode cX3_readCouple 12 = .ok (.iconst (-1), 1) := by decide +kernel
theorem dX3_readCouple_13 : decode cX3_readCouple 13 = .ok (.invokevirtual 76, 3) := by decide +kernel
theorem dX3_readCouple_16 : decode cX3_readCouple 16 = .ok (.ifCond .ne 5, 3) := by decide +kernel
theorem dX3_readCouple_19 : decode cX3_readCouple 19 = .ok (.iconst 0, 1) := by decide +kernel
theorem dX3_readCouple_20 : decode cX3_readCouple 20 = .ok (.ireturn, 1) := by decide +kernel
theorem dX3_readCouple_21 : decode cX3_readCouple 21 = .ok (.aload_n 0, 1) := by decide +kernel
theorem dX3_readCouple_22 : decode cX3_readCouple 22 = .ok (.getfield 9, 3) := by decide +kernel
theorem dX3_readCouple_25 : decode cX3_readCouple 25 = .ok (.istore_n 3, 1) := by decide +kernel
theorem dX3_readCouple_26 : decode cX3_readCouple 26 = .ok (.aload_n 0, 1) := by decide +kernel
theorem dX3_readCouple_27 : decode cX3_readCouple 27 = .ok (.iconst 0, 1) := by decide +kernel
theorem dX3_readCouple_28 : decode cX3_readCouple 28 = .ok (.iload_n 2, 1) := by decide +kernel
theorem dX3_readCouple_29 : decode cX3_readCouple 29 = .ok (.iconst 1, 1) := by decide +kernel
theorem dX3_readCouple_30 : decode cX3_readCouple 30 = .ok (.isub, 1) := by decide +kernel
theorem dX3_readCouple_31 : decode cX3_readCouple 31 = .ok (.iload_n 3, 1) := by decide +kernel
theorem dX3_readCouple_32 : decode cX3_readCouple 32 = .ok (.invokevirtual 76, 3) := by decide +kernel
theorem dX3_readCouple_35 : decode cX3_readCouple 35 = .ok (.ifCond .ne 5, 3) := by decide +kernel
theorem dX3_readCouple_38 : decode cX3_readCouple 38 = .ok (.iconst 0, 1) := by decide +kernel
theorem dX3_readCouple_39 : decode cX3_readCouple 39 = .ok (.ireturn, 1) := by decide +kernel
theorem dX3_readCouple_40 : decode cX3_readCouple 40 = .ok (.aload_n 1, 1) := by decide +kernel
theorem dX3_readCouple_41 : decode cX3_readCouple 41 = .ok (.iload_n 3, 1) := by decide +kernel
theorem dX3_readCouple_42 : decode cX3_readCouple 42 = .ok (.aload_n 0, 1) := by decide +kernel
theorem dX3_readCouple_43 : decode cX3_readCouple 43 = .ok (.getfield 9, 3) := by decide +kernel
theorem dX3_readCouple_46 : decode cX3_readCouple 46 = .ok (.iconst 1, 1) := by decide +kernel
theorem dX3_readCouple_47 : decode cX3_readCouple 47 = .ok (.invokestatic 163, 3) := by decide +kernel
theorem dX3_readCouple_50 : decode cX3_readCouple 50 = .ok (.pop, 1) := by decide +kernel
theorem dX3_readCouple_51 : decode cX3_readCouple 51 = .ok (.iconst 1, 1) := by decide +kernel
theorem dX3_readCouple_52 : decode cX3_readCouple 52 = .ok (.ireturn, 1) := by decide +kernel
theorem dX4_init_0 : decode cX4_init 0 = .ok (.aload_n 0, 1) := by decide +kernel
theorem dX4_init_1 : decode cX4_init 1 = .ok (.invokespecial 3, 3) := by decide +kernel
theorem dX4_init_4 : decode cX4_init 4 = .ok (.aload_n 0, 1) := by decide +kernel
theorem dX4_init_5 : decode cX4_init 5 = .ok (.bipush 13, 2) := by decide +kernel
theorem dX4_init_7 : decode cX4_init 7 = .ok (.newarray .int, 2) := by decide +kernel
theorem dX4_init_9 : decode cX4_init 9 = .ok (.putfield 9, 3) := by decide +kernel
theorem dX4_init_12 : decode cX4_init 12 = .ok (.aload_n 0, 1) := by decide +kernel
theorem dX4_init_13 : decode cX4_init 13 = .ok (.bipush 13, 2) := by decide +kernel
theorem dX4_init_15 : decode cX4_init 15 = .ok (.newarray .int, 2) := by decide +kernel
theorem dX4_init_17 : decode cX4_init 17 = .ok (.putfield 15, 3) := by decide +kernel
theorem dX4_init_20 : decode cX4_init 20 = .ok (.aload_n 0, 1) := by decide +kernel
theorem dX4_init_21 : decode cX4_init 21 = .ok (.bipush 13, 2) := by decide +kernel
theorem dX4_init_23 : decode cX4_init 23 = .ok (.newarray .int, 2) := by decide +kernel
theorem dX4_init_25 : decode cX4_init 25 = .ok (.putfield 18, 3) := by decide +kernel
theorem dX4_init_28 : decode cX4_init 28 = .ok (.aload_n 0, 1) := by decide +kernel
theorem dX4_init_29 : decode cX4_init 29 = .ok (.sipush 130, 3) := by decide +kernel
theorem dX4_init_32 : decode cX4_init 32 = .ok (.newarray .byte, 2) := by decide +kernel
theorem dX4_init_34 : decode cX4_init 34 = .ok (.putfield 21, 3) := by decide +kernel
theorem dX4_init_37 : decode cX4_init 37 = .ok (.aload_n 0, 1) := by decide +kernel
theorem dX4_init_38 : decode cX4_init 38 = .ok (.bipush 13, 2) := by decide +kernel
theorem dX4_init_40 : decode cX4_init 40 = .ok (.newarray .int, 2) := by decide +kernel
theorem dX4_init_42 : decode cX4_init 42 = .ok (.putfield 25, 3) := by decide +kernel
theorem dX4_init_45 : decode cX4_init 45 = .ok (.aload_n 0, 1) := by decide +kernel
theorem dX4_init_46 : decode cX4_init 46 = .ok (.sipush 468, 3) := by decide +kernel
theorem dX4_init_49 : decode cX4_init 49 = .ok (.newarray .int, 2) := by decide +kernel
theorem dX4_init_51 : decode cX4_init 51 = .ok (.putfield 28, 3) := by decide +kernel
theorem dX4_init_54 : decode cX4_init 54 = .ok (.aload_n 0, 1) := by decide +kernel
theorem dX4_init_55 : decode cX4_init 55 = .ok (.bipush 13, 2) := by decide +kernel
theorem dX4_init_57 : decode cX4_init 57 = .ok (.newarray .int, 2) := by decide +kernel
theorem dX4_init_59 : decode cX4_init 59 = .ok (.putfield 31, 3) := by decide +kernel
theorem dX4_init_62 : decode cX4_init 62 = .ok (.aload_n 0, 1) := by decide +kernel
theorem dX4_init_63 : decode cX4_init 63 = .ok (.bipush 10, 2) := by decide +kernel
theorem dX4_init_65 : decode cX4_init 65 = .ok (.newarray .int, 2) := by decide +kernel
theorem dX4_init_67 : decode cX4_init 67 = .ok (.putfield 34, 3) := by decide +kernel
theorem dX4_init_70 : decode cX4_init 70 = .ok (.aload_n 0, 1) := by decide +kernel
theorem dX4_init_71 : decode cX4_init 71 = .ok (.bipush 6, 2) := by decide +kernel
theorem dX4_init_73 : decode cX4_init 73 = .ok (.newarray .int, 2) := by decide +kernel
theorem dX4_init_75 : decode cX4_init 75 = .ok (.putfield 37, 3) := by decide +kernel
theorem dX4_init_78 : decode cX4_init 78 = .ok (.aload_n 0, 1) := by decide +kernel
theorem dX4_init_79 : decode cX4_init 79 = .ok (.iconst 1, 1) := by decide +kernel
theorem dX4_init_80 : decode cX4_init 80 = .ok (.putfield 40, 3) := by decide +kernel
theorem dX4_init_83 : decode cX4_init 83 = .ok (.aload_n 0, 1) := by decide +kernel
theorem dX4_init_84 : decode cX4_init 84 = .ok (.iconst 0, 1) := by decide +kernel
theorem dX4_init_85 : decode cX4_init 85 = .ok (.putfield 44, 3) := by decide +kernel
theorem dX4_init_88 : decode cX4_init 88 = .ok (.getstatic 47, 3) := by decide +kernel
theorem dX4_init_91 : decode cX4_init 91 = .ok (.iconst 0, 1) := by decide +kernel
theorem dX4_init_92 : decode cX4_init 92 = .ok (.aload_n 0, 1) := by decide +kernel
theorem dX4_init_93 : decode cX4_init 93 = .ok (.getfield 37, 3) := by decide +kernel
theorem dX4_init_96 : decode cX4_init 96 = .ok (.iconst 0, 1) := by decide +kernel
theorem dX4_init_97 : decode cX4_init 97 = .ok (.bipush 6, 2) := by decide +kernel
theorem dX4_init_99 : decode cX4_init 99 = .ok (.invokestatic 50, 3) := by decide +kernel
theorem dX4_init_102 : decode cX4_init 102 = .ok (.return_, 1) := by decide +kernel
theorem dX4_clear_0 : decode cX4_clear 0 = .ok (.aload_n 0, 1) := by decide +kernel
theorem dX4_clear_1 : decode cX4_clear 1 = .ok (.iconst 1, 1) := by decide +kernel
theorem dX4_clear_2 : decode cX4_clear 2 = .ok (.putfield 40, 3) := by decide +kernel
theorem dX4_clear_5 : decode cX4_clear 5 = .ok (.aload_n 0, 1) := by decide +kernel
theorem dX4_clear_6 : decode cX4_clear 6 = .ok (.iconst 0, 1) := by decide +kernel
theorem dX4_clear_7 : decode cX4_clear 7 = .ok (.putfield 44, 3) := by decide +kernel
theorem dX4_clear_10 : decode cX4_clear 10 = .ok (.aload_n 0, 1) := by decide +kernel
theorem dX4_clear_11 : decode cX4_clear 11 = .ok (.getfield 34, 3) := by decide +kernel
theorem dX4_clear_14 : decode cX4_clear 14 = .ok (.iconst 0, 1) := by decide +kernel
theorem dX4_clear_15 : decode cX4_clear 15 = .ok (.invokestatic 56, 3) := by decide +kernel
theorem dX4_clear_18 : decode cX4_clear 18 = .ok (.getstatic 47, 3) := by decide +kernel
theorem dX4_clear_21 : decode cX4_clear 21 = .ok (.iconst 0, 1) := by decide +kernel
theorem dX4_clear_22 : decode cX4_clear 22 = .ok (.aload_n 0, 1) := by decide +kernel
theorem dX4_clear_23 : decode cX4_clear 23 = .ok (.getfield 37, 3) := by decide +kernel
theorem dX4_clear_26 : decode cX4_clear 26 = .ok (.iconst 0, 1) := by decide +kernel
theorem dX4_clear_27 : decode cX4_clear 27 = .ok (.bipush 6, 2) := by decide +kernel
theorem dX4_clear_29 : decode cX4_clear 29 = .ok (.invokestatic 50, 3) := by decide +kernel
theorem dX4_clear_32 : decode cX4_clear 32 = .ok (.return_, 1) := by decide +kernel
theorem dX4_copy_0 : decode cX4_copy 0 = .ok (.aload_n 0, 1) := by decide +kernel
theorem dX4_copy_1 : decode cX4_copy 1 = .ok (.aload_n 1, 1) := by decide +kernel
theorem dX4_copy_2 : decode cX4_copy 2 = .ok (.getfield 40, 3) := by decide +kernel
theorem dX4_copy_5 : decode cX4_copy 5 = .ok (.putfield 40, 3) := by decide +kernel
theorem dX4_copy_8 : decode cX4_copy 8 = .ok (.aload_n 0, 1) := by decide +kernel
theorem dX4_copy_9 : decode cX4_copy 9 = .ok (.aload_n 1, 1) := by decide +kernel
theorem dX4_copy_10 : decode cX4_copy 10 = .ok (.getfield 44, 3) := by decide +kernel
theorem dX4_copy_13 : decode cX4_copy 13 = .ok (.putfield 44, 3) := by decide +kernel
theorem dX4_copy_16 : decode cX4_copy 16 = .ok (.aload_n 1, 1) := by decide +kernel
theorem dX4_copy_17 : decode cX4_copy 17 = .ok (.getfield 9, 3) := by decide +kernel
theorem dX4_copy_20 : decode cX4_copy 20 = .ok (.iconst 0, 1) := by decide +kernel
theorem dX4_copy_21 : decode cX4_copy 21 = .ok (.aload_n 0, 1) := by decide +kernel
theorem dX4_copy_22 : decode cX4_copy 22 = .ok (.getfield 9, 3) := by decide +kernel
theorem dX4_copy_25 : decode cX4_copy 25 = .ok (.iconst 0, 1) := by decide +kernel
theorem dX4_copy_26 : decode cX4_copy 26 = .ok (.aload_n 0, 1) := by decide +kernel
theorem dX4_copy_27 : decode cX4_copy 27 = .ok (.getfield 44, 3) := by decide +kernel
theorem dX4_copy_30 : decode cX4_copy 30 = .ok (.invokestatic 50, 3) := by decide +kernel
theorem dX4_copy_33 : decode cX4_copy 33 = .ok (.aload_n 1, 1) := by decide +kernel
theorem dX4_copy_34 : decode cX4_copy 34 = .ok (.getfield 15, 3) := by decide +kernel
theorem dX4_copy_37 : decode cX4_copy 37 = .ok (.iconst 0, 1) := by decide +kernel
theorem dX4_copy_38 : decode cX4_copy 38 = .ok (.aload_n 0, 1) := by decide +kernel
theorem dX4_copy_39 : decode cX4_copy 39 = .ok (.getfield 15, 3) := by decide +kernel
theorem dX4_copy_42 : decode cX4_copy 42 = .ok (.iconst 0, 1) := by decide +kernel
theorem dX4_copy_43 : decode cX4_copy 43 = .ok (.aload_n 0, 1) := by decide +kernel
theorem dX4_copy_44 : decode cX4_copy 44 = .ok (.getfield 44, 3) := by decide +kernel
theorem dX4_copy_47 : decode cX4_copy 47 = .ok (.invokestatic 50, 3) := by decide +kernel
theorem dX4_copy_50 : decode cX4_copy 50 = .ok (.aload_n 1, 1) := by decide +kernel
theorem dX4_copy_51 : decode cX4_copy 51 = .ok (.getfield 18, 3) := by decide +kernel
theorem dX4_copy_54 : decode cX4_copy 54 = .ok (.iconst 0, 1) := by decide +kernel
theorem dX4_copy_55 : decode cX4_copy 55 = .ok (.aload_n 0, 1) := by decide +kernel
theorem dX4_copy_56 : decode cX4_copy 56 = .ok (.getfield 18, 3) := by decide +kernel
theorem dX4_copy_59 : decode cX4_copy 59 = .ok (.iconst 0, 1) := by decide +kernel
theorem dX4_copy_60 : decode cX4_copy 60 = .ok (.aload_n 0, 1) := by decide +kernel
theorem dX4_copy_61 : decode cX4_copy 61 = .ok (.getfield 44, 3) := by decide +kernel
theorem dX4_copy_64 : decode cX4_copy 64 = .ok (.invokestatic 50, 3) := by decide +kernel
theorem dX4_copy_67 : decode cX4_copy 67 = .ok (.aload_n 1, 1) := by decide +kernel
theorem dX4_copy_68 : decode cX4_copy 68 = .ok (.getfield 21, 3) := by decide +kernel
theorem dX4_copy_71 : decode cX4_copy 71 = .ok (.iconst 0, 1) := by decide +kernel
theorem dX4_copy_72 : decode cX4_copy 72 = .ok (.aload_n 0, 1) := by decide +kernel
theorem dX4_copy_73 : decode cX4_copy 73 = .ok (.getfield 21, 3) := by decide +kernel
theorem dX4_copy_76 : decode cX4_copy 76 = .ok (.iconst 0, 1) := by decide +kernel
theorem dX4_copy_77 : decode cX4_copy 77 = .ok (.aload_n 0, 1) := by decide +kernel
theorem dX4_copy_78 : decode cX4_copy 78 = .ok (.getfield 44, 3) := by decide +kernel
theorem dX4_copy_81 : decode cX4_copy 81 = .ok (.bipush 10, 2) := by decide +kernel
theorem dX4_copy_83 : decode cX4_copy 83 = .ok (.imul, 1) := by decide +kernel
theorem dX4_copy_84 : decode cX4_copy 84 = .ok (.invokestatic 50, 3) := by decide +kernel
theorem dX4_copy_87 : decode cX4_copy 87 = .ok (.aload_n 1, 1) := by decide +kernel
theorem dX4_copy_88 : decode cX4_copy 88 = .ok (.getfield 25, 3) := by decide +kernel
theorem dX4_copy_91 : decode cX4_copy 91 = .ok (.iconst 0, 1) := by decide +kernel
theorem dX4_copy_92 : decode cX4_copy 92 = .ok (.aload_n 0, 1) := by decide +kernel
theorem dX4_copy_93 : decode cX4_copy 93 = .ok (.getfield 25, 3) := by decide +kernel
theorem dX4_copy_96 : decode cX4_copy 96 = .ok (.iconst 0, 1) := by decide +kernel
theorem dX4_copy_97 : decode cX4_copy 97 = .ok (.aload_n 0, 1) := by decide +kernel
theorem dX4_copy_98 : decode cX4_copy 98 = .ok (.getfield 44, 3) := by decide +kernel
theorem dX4_copy_101 : decode cX4_copy 101 = .ok (.invokestatic 50, 3) := by decide +kernel
theorem dX4_copy_104 : decode cX4_copy 104 = .ok (.aload_n 1, 1) := by decide +kernel
theorem dX4_copy_105 : decode cX4_copy 105 = .ok (.getfield 28, 3) := by decide +kernel
theorem dX4_copy_108 : decode cX4_copy 108 = .ok (.iconst 0, 1) := by decide +kernel
theorem dX4_copy_109 : decode cX4_copy 109 = .ok (.aload_n 0, 1) := by decide +kernel
theorem dX4_copy_110 : decode cX4_copy 110 = .ok (.getfield 28, 3) := by decide +kernel
theorem dX4_copy_113 : decode cX4_copy 113 = .ok (.iconst 0, 1) := by decide +kernel
theorem dX4_copy_114 : decode cX4_copy 114 = .ok (.aload_n 0, 1) := by decide +kernel
theorem dX4_copy_115 : decode cX4_copy 115 = .ok (.getfield 44, 3) := by decide +kernel
theorem dX4_copy_118 : decode cX4_copy 118 = .ok (.bipush 36, 2) := by decide +kernel
theorem dX4_copy_120 : decode cX4_copy 120 = .ok (.imul, 1) := by decide +kernel
theorem dX4_copy_121 : decode cX4_copy 121 = .ok (.invokestatic 50, 3) := by decide +kernel
theorem dX4_copy_124 : decode cX4_copy 124 = .ok (.aload_n 1, 1) := by decide +kernel
theorem dX4_copy_125 : decode cX4_copy 125 = .ok (.getfield 31, 3) := by decide +kernel
theorem dX4_copy_128 : decode cX4_copy 128 = .ok (.iconst 0, 1) := by decide +kernel
theorem dX4_copy_129 : decode cX4_copy 129 = .ok (.aload_n 0, 1) := by decide +kernel
theorem dX4_copy_130 : decode cX4_copy 130 = .ok (.getfield 31, 3) := by decide +kernel
theorem dX4_copy_133 : decode cX4_copy 133 = .ok (.iconst 0, 1) := by decide +kernel
theorem dX4_copy_134 : decode cX4_copy 134 = .ok (.aload_n 0, 1) := by decide +kernel
theorem dX4_copy_135 : decode cX4_copy 135 = .ok (.getfield 44, 3) := by decide +kernel
theorem dX4_copy_138 : decode cX4_copy 138 = .ok (.invokestatic 50, 3) := by decide +kernel
theorem dX4_copy_141 : decode cX4_copy 141 = .ok (.aload_n 1, 1) := by decide +kernel
theorem dX4_copy_142 : decode cX4_copy 142 = .ok (.getfield 34, 3) := by decide +kernel
theorem dX4_copy_145 : decode cX4_copy 145 = .ok (.iconst 0, 1) := by decide +kernel
theorem dX4_copy_146 : decode cX4_copy 146 = .ok (.aload_n 0, 1) := by decide +kernel
theorem dX4_copy_147 : decode cX4_copy 147 = .ok (.getfield 34, 3) := by decide +kernel
theorem dX4_copy_150 : decode cX4_copy 150 = .ok (.iconst 0, 1) := by decide +kernel
theorem dX4_copy_151 : decode cX4_copy 151 = .ok (.bipush 10, 2) := by decide +kernel
theorem dX4_copy_153 : decode cX4_copy 153 = .ok (.invokestatic 50, 3) := by decide +kernel
theorem dX4_copy_156 : decode cX4_copy 156 = .ok (.aload_n 1, 1) := by decide +kernel
theorem dX4_copy_157 : decode cX4_copy 157 = .ok (.getfield 37, 3) := by decide +kernel
theorem dX4_copy_160 : decode cX4_copy 160 = .ok (.iconst 0, 1) := by decide +kernel
theorem dX4_copy_161 : decode cX4_copy 161 = .ok (.aload_n 0, 1) := by decide +kernel
theorem dX4_copy_162 : decode cX4_copy 162 = .ok (.getfield 37, 3) := by decide +kernel
theorem dX4_copy_165 : decode cX4_copy 165 = .ok (.iconst 0, 1) := by decide +kernel
theorem dX4_copy_166 : decode cX4_copy 166 = .ok (.bipush 6, 2) := by decide +kernel
theorem dX4_copy_168 : decode cX4_copy 168 = .ok (.invokestatic 50, 3) := by decide +kernel
theorem dX4_copy_171 : decode cX4_copy 171 = .ok (.return_, 1) := by decide +kernel
theorem dX4_halfCount_0 : decode cX4_halfCount 0 = .ok (.iconst 2, 1) := by decide +kernel
theorem dX4_halfCount_1 : decode cX4_halfCount 1 = .ok (.aload_n 0, 1) := by decide +kernel
theorem dX4_halfCount_2 : decode cX4_halfCount 2 = .ok (.getfield 40, 3) := by decide +kernel
theorem dX4_halfCount_5 : decode cX4_halfCount 5 = .ok (.imul, 1) := by decide +kernel
theorem dX4_halfCount_6 : decode cX4_halfCount 6 = .ok (.ireturn, 1) := by decide +kernel
theorem dX4_allHalves_0 : decode cX4_allHalves 0 = .ok (.iconst 1, 1) := by decide +kernel
theorem dX4_allHalves_1 : decode cX4_allHalves 1 = .ok (.aload_n 0, 1) := by decide +kernel
theorem dX4_allHalves_2 : decode cX4_allHalves 2 = .ok (.invokevirtual 62, 3) := by decide +kernel
theorem dX4_allHalves_5 : decode cX4_allHalves 5 = .ok (.ishl, 1) := by decide +kernel
theorem dX4_allHalves_6 : decode cX4_allHalves 6 = .ok (.iconst 1, 1) := by decide +kernel
theorem dX4_allHalves_7 : decode cX4_allHalves 7 = .ok (.isub, 1) := by decide +kernel
theorem dX4_allHalves_8 : decode cX4_allHalves 8 = .ok (.ireturn, 1) := by decide +kernel
theorem dX4_allMarks_0 : decode cX4_allMarks 0 = .ok (.iconst 1, 1) := by decide +kernel
theorem dX4_allMarks_1 : decode cX4_allMarks 1 = .ok (.aload_n 0, 1) := by decide +kernel
theorem dX4_allMarks_2 : decode cX4_allMarks 2 = .ok (.getfield 44, 3) := by decide +kernel
theorem dX4_allMarks_5 : decode cX4_allMarks 5 = .ok (.ishl, 1) := by decide +kernel
theorem dX4_allMarks_6 : decode cX4_allMarks 6 = .ok (.iconst 1, 1) := by decide +kernel
theorem dX4_allMarks_7 : decode cX4_allMarks 7 = .ok (.isub, 1) := by decide +kernel
theorem dX4_allMarks_8 : decode cX4_allMarks 8 = .ok (.ireturn, 1) := by decide +kernel
theorem dX4_useAt_0 : decode cX4_useAt 0 = .ok (.iload_n 1, 1) := by decide +kernel
theorem dX4_useAt_1 : decode cX4_useAt 1 = .ok (.bipush 36, 2) := by decide +kernel
theorem dX4_useAt_3 : decode cX4_useAt 3 = .ok (.imul, 1) := by decide +kernel
theorem dX4_useAt_4 : decode cX4_useAt 4 = .ok (.iload_n 2, 1) := by decide +kernel
theorem dX4_useAt_5 : decode cX4_useAt 5 = .ok (.iconst 3, 1) := by decide +kernel
theorem dX4_useAt_6 : decode cX4_useAt 6 = .ok (.imul, 1) := by decide +kernel
theorem dX4_useAt_7 : decode cX4_useAt 7 = .ok (.iadd, 1) := by decide +kernel
theorem dX4_useAt_8 : decode cX4_useAt 8 = .ok (.ireturn, 1) := by decide +kernel
theorem dX4_addMark_0 : decode cX4_addMark 0 = .ok (.aload_n 0, 1) := by decide +kernel
theorem dX4_addMark_1 : decode cX4_addMark 1 = .ok (.getfield 44, 3) := by decide +kernel
theorem dX4_addMark_4 : decode cX4_addMark 4 = .ok (.istore 5, 2) := by decide +kernel
theorem dX4_addMark_6 : decode cX4_addMark 6 = .ok (.aload_n 0, 1) := by decide +kernel
theorem dX4_addMark_7 : decode cX4_addMark 7 = .ok (.getfield 9, 3) := by decide +kernel
theorem dX4_addMark_10 : decode cX4_addMark 10 = .ok (.iload 5, 2) := by decide +kernel
theorem dX4_addMark_12 : decode cX4_addMark 12 = .ok (.iload 4, 2) := by decide +kernel
theorem dX4_addMark_14 : decode cX4_addMark 14 = .ok (.iastore, 1) := by decide +kernel
theorem dX4_addMark_15 : decode cX4_addMark 15 = .ok (.aload_n 0, 1) := by decide +kernel
theorem dX4_addMark_16 : decode cX4_addMark 16 = .ok (.getfield 15, 3) := by decide +kernel
theorem dX4_addMark_19 : decode cX4_addMark 19 = .ok (.iload 5, 2) := by decide +kernel
theorem dX4_addMark_21 : decode cX4_addMark 21 = .ok (.iconst 0, 1) := by decide +kernel
theorem dX4_addMark_22 : decode cX4_addMark 22 = .ok (.iastore, 1) := by decide +kernel
theorem dX4_addMark_23 : decode cX4_addMark 23 = .ok (.aload_n 0, 1) := by decide +kernel
theorem dX4_addMark_24 : decode cX4_addMark 24 = .ok (.getfield 18, 3) := by decide +kernel
theorem dX4_addMark_27 : decode cX4_addMark 27 = .ok (.iload 5, 2) := by decide +kernel
theorem dX4_addMark_29 : decode cX4_addMark 29 = .ok (.iload_n 3, 1) := by decide +kernel
theorem dX4_addMark_30 : decode cX4_addMark 30 = .ok (.iastore, 1) := by decide +kernel
theorem dX4_addMark_31 : decode cX4_addMark 31 = .ok (.aload_n 0, 1) := by decide +kernel
theorem dX4_addMark_32 : decode cX4_addMark 32 = .ok (.getfield 25, 3) := by decide +kernel
theorem dX4_addMark_35 : decode cX4_addMark 35 = .ok (.iload 5, 2) := by decide +kernel
theorem dX4_addMark_37 : decode cX4_addMark 37 = .ok (.iconst 0, 1) := by decide +kernel
theorem dX4_addMark_38 : decode cX4_addMark 38 = .ok (.iastore, 1) := by decide +kernel
theorem dX4_addMark_39 : decode cX4_addMark 39 = .ok (.aload_n 0, 1) := by decide +kernel
theorem dX4_addMark_40 : decode cX4_addMark 40 = .ok (.getfield 31, 3) := by decide +kernel
theorem dX4_addMark_43 : decode cX4_addMark 43 = .ok (.iload 5, 2) := by decide +kernel
theorem dX4_addMark_45 : decode cX4_addMark 45 = .ok (.iconst 0, 1) := by decide +kernel
theorem dX4_addMark_46 : decode cX4_addMark 46 = .ok (.iastore, 1) := by decide +kernel
theorem dX4_addMark_47 : decode cX4_addMark 47 = .ok (.iconst 0, 1) := by decide +kernel
theorem dX4_addMark_48 : decode cX4_addMark 48 = .ok (.istore 6, 2) := by decide +kernel
theorem dX4_addMark_50 : decode cX4_addMark 50 = .ok (.iload 6, 2) := by decide +kernel
theorem dX4_addMark_52 : decode cX4_addMark 52 = .ok (.iload_n 3, 1) := by decide +kernel
theorem dX4_addMark_53 : decode cX4_addMark 53 = .ok (.if_icmp .ge 32, 3) := by decide +kernel
theorem dX4_addMark_56 : decode cX4_addMark 56 = .ok (.aload_n 0, 1) := by decide +kernel
theorem dX4_addMark_57 : decode cX4_addMark 57 = .ok (.getfield 21, 3) := by decide +kernel
theorem dX4_addMark_60 : decode cX4_addMark 60 = .ok (.iload 5, 2) := by decide +kernel
theorem dX4_addMark_62 : decode cX4_addMark 62 = .ok (.bipush 10, 2) := by decide +kernel
theorem dX4_addMark_64 : decode cX4_addMark 64 = .ok (.imul, 1) := by decide +kernel
theorem dX4_addMark_65 : decode cX4_addMark 65 = .ok (.iload 6, 2) := by decide +kernel
theorem dX4_addMark_67 : decode cX4_addMark 67 = .ok (.iadd, 1) := by decide +kernel
theorem dX4_addMark_68 : decode cX4_addMark 68 = .ok (.aload_n 1, 1) := by decide +kernel
theorem dX4_addMark_69 : decode cX4_addMark 69 = .ok (.iload_n 2, 1) := by decide +kernel
theorem dX4_addMark_70 : decode cX4_addMark 70 = .ok (.iload 6, 2) := by decide +kernel
theorem dX4_addMark_72 : decode cX4_addMark 72 = .ok (.iadd, 1) := by decide +kernel
theorem dX4_addMark_73 : decode cX4_addMark 73 = .ok (.baload, 1) := by decide +kernel
theorem dX4_addMark_74 : decode cX4_addMark 74 = .ok (.bipush 97, 2) := by decide +kernel
theorem dX4_addMark_76 : decode cX4_addMark 76 = .ok (.isub, 1) := by decide +kernel
theorem dX4_addMark_77 : decode cX4_addMark 77 = .ok (.i2b, 1) := by decide +kernel
theorem dX4_addMark_78 : decode cX4_addMark 78 = .ok (.bastore, 1) := by decide +kernel
theorem dX4_addMark_79 : decode cX4_addMark 79 = .ok (.iinc 6 1, 3) := by decide +kernel
theorem dX4_addMark_82 : decode cX4_addMark 82 = .ok (.goto (-32), 3) := by decide +kernel
theorem dX4_addMark_85 : decode cX4_addMark 85 = .ok (.aload_n 0, 1) := by decide +kernel
theorem dX4_addMark_86 : decode cX4_addMark 86 = .ok (.dup, 1) := by decide +kernel
theorem dX4_addMark_87 : decode cX4_addMark 87 = .ok (.getfield 44, 3) := by decide +kernel
theorem dX4_addMark_90 : decode cX4_addMark 90 = .ok (.iconst 1, 1) := by decide +kernel
theorem dX4_addMark_91 : decode cX4_addMark 91 = .ok (.iadd, 1) := by decide +kernel
theorem dX4_addMark_92 : decode cX4_addMark 92 = .ok (.putfield 44, 3) := by decide +kernel
theorem dX4_addMark_95 : decode cX4_addMark 95 = .ok (.iload 5, 2) := by decide +kernel
theorem dX4_addMark_97 : decode cX4_addMark 97 = .ok (.ireturn, 1) := by decide +kernel
theorem dX4_addUse_0 : decode cX4_addUse 0 = .ok (.aload_n 0, 1) := by decide +kernel
theorem dX4_addUse_1 : decode cX4_addUse 1 = .ok (.getfield 25, 3) := by decide +kernel
theorem dX4_addUse_4 : decode cX4_addUse 4 = .ok (.iload_n 1, 1) := by decide +kernel
theorem dX4_addUse_5 : decode cX4_addUse 5 = .ok (.iaload, 1) := by decide +kernel
theorem dX4_addUse_6 : decode cX4_addUse 6 = .ok (.istore 5, 2) := by decide +kernel
theorem dX4_addUse_8 : decode cX4_addUse 8 = .ok (.aload_n 0, 1) := by decide +kernel
theorem dX4_addUse_9 : decode cX4_addUse 9 = .ok (.iload_n 1, 1) := by decide +kernel
theorem dX4_addUse_10 : decode cX4_addUse 10 = .ok (.iload 5, 2) := by decide +kernel
theorem dX4_addUse_12 : decode cX4_addUse 12 = .ok (.invokevirtual 66, 3) := by decide +kernel
theorem dX4_addUse_15 : decode cX4_addUse 15 = .ok (.istore 6, 2) := by decide +kernel
theorem dX4_addUse_17 : decode cX4_addUse 17 = .ok (.aload_n 0, 1) := by decide +kernel
theorem dX4_addUse_18 : decode cX4_addUse 18 = .ok (.getfield 28, 3) := by decide +kernel
theorem dX4_addUse_21 : decode cX4_addUse 21 = .ok (.iload 6, 2) := by decide +kernel
theorem dX4_addUse_23 : decode cX4_addUse 23 = .ok (.iload_n 2, 1) := by decide +kernel
theorem dX4_addUse_24 : decode cX4_addUse 24 = .ok (.iastore, 1) := by decide +kernel
theorem dX4_addUse_25 : decode cX4_addUse 25 = .ok (.aload_n 0, 1) := by decide +kernel
theorem dX4_addUse_26 : decode cX4_addUse 26 = .ok (.getfield 28, 3) := by decide +kernel
theorem dX4_addUse_29 : decode cX4_addUse 29 = .ok (.iload 6, 2) := by decide +kernel
theorem dX4_addUse_31 : decode cX4_addUse 31 = .ok (.iconst 1, 1) := by decide +kernel
theorem dX4_addUse_32 : decode cX4_addUse 32 = .ok (.iadd, 1) := by decide +kernel
theorem dX4_addUse_33 : decode cX4_addUse 33 = .ok (.iload_n 3, 1) := by decide +kernel
theorem dX4_addUse_34 : decode cX4_addUse 34 = .ok (.iastore, 1) := by decide +kernel
theorem dX4_addUse_35 : decode cX4_addUse 35 = .ok (.aload_n 0, 1) := by decide +kernel
theorem dX4_addUse_36 : decode cX4_addUse 36 = .ok (.getfield 28, 3) := by decide +kernel
theorem dX4_addUse_39 : decode cX4_addUse 39 = .ok (.iload 6, 2) := by decide +kernel
theorem dX4_addUse_41 : decode cX4_addUse 41 = .ok (.iconst 2, 1) := by decide +kernel
theorem dX4_addUse_42 : decode cX4_addUse 42 = .ok (.iadd, 1) := by decide +kernel
theorem dX4_addUse_43 : decode cX4_addUse 43 = .ok (.iload 4, 2) := by decide +kernel
theorem dX4_addUse_45 : decode cX4_addUse 45 = .ok (.iastore, 1) := by decide +kernel
theorem dX4_addUse_46 : decode cX4_addUse 46 = .ok (.aload_n 0, 1) := by decide +kernel
theorem dX4_addUse_47 : decode cX4_addUse 47 = .ok (.getfield 25, 3) := by decide +kernel
theorem dX4_addUse_50 : decode cX4_addUse 50 = .ok (.iload_n 1, 1) := by decide +kernel
theorem dX4_addUse_51 : decode cX4_addUse 51 = .ok (.dup2, 1) := by decide +kernel
theorem dX4_addUse_52 : decode cX4_addUse 52 = .ok (.iaload, 1) := by decide +kernel
theorem dX4_addUse_53 : decode cX4_addUse 53 = .ok (.iconst 1, 1) := by decide +kernel
theorem dX4_addUse_54 : decode cX4_addUse 54 = .ok (.iadd, 1) := by decide +kernel
theorem dX4_addUse_55 : decode cX4_addUse 55 = .ok (.iastore, 1) := by decide +kernel
theorem dX4_addUse_56 : decode cX4_addUse 56 = .ok (.iload 5, 2) := by decide +kernel
theorem dX4_addUse_58 : decode cX4_addUse 58 = .ok (.ireturn, 1) := by decide +kernel
theorem dX4_removeMark_0 : decode cX4_removeMark 0 = .ok (.aload_n 0, 1) := by decide +kernel
theorem dX4_removeMark_1 : decode cX4_removeMark 1 = .ok (.getfield 44, 3) := by decide +kernel
theorem dX4_removeMark_4 : decode cX4_removeMark 4 = .ok (.iload_n 1, 1) := by decide +kernel
theorem dX4_removeMark_5 : decode cX4_removeMark 5 = .ok (.isub, 1) := by decide +kernel
theorem dX4_removeMark_6 : decode cX4_removeMark 6 = .ok (.iconst 1, 1) := by decide +kernel
theorem dX4_removeMark_7 : decode cX4_removeMark 7 = .ok (.isub, 1) := by decide +kernel
theorem dX4_removeMark_8 : decode cX4_removeMark 8 = .ok (.istore_n 2, 1) := by decide +kernel
theorem dX4_removeMark_9 : decode cX4_removeMark 9 = .ok (.aload_n 0, 1) := by decide +kernel
theorem dX4_removeMark_10 : decode cX4_removeMark 10 = .ok (.getfield 9, 3) := by decide +kernel
theorem dX4_removeMark_13 : decode cX4_removeMark 13 = .ok (.iload_n 1, 1) := by decide +kernel
theorem dX4_removeMark_14 : decode cX4_removeMark 14 = .ok (.iload_n 2, 1) := by decide +kernel
theorem dX4_removeMark_15 : decode cX4_removeMark 15 = .ok (.iconst 1, 1) := by decide +kernel
theorem dX4_removeMark_16 : decode cX4_removeMark 16 = .ok (.invokestatic 70, 3) := by decide +kernel
theorem dX4_removeMark_19 : decode cX4_removeMark 19 = .ok (.aload_n 0, 1) := by decide +kernel
theorem dX4_removeMark_20 : decode cX4_removeMark 20 = .ok (.getfield 15, 3) := by decide +kernel
theorem dX4_removeMark_23 : decode cX4_removeMark 23 = .ok (.iload_n 1, 1) := by decide +kernel
theorem dX4_removeMark_24 : decode cX4_removeMark 24 = .ok (.iload_n 2, 1) := by decide +kernel
theorem dX4_removeMark_25 : decode cX4_removeMark 25 = .ok (.iconst 1, 1) := by decide +kernel
theorem dX4_removeMark_26 : decode cX4_removeMark 26 = .ok (.invokestatic 70, 3) := by decide +kernel
theorem dX4_removeMark_29 : decode cX4_removeMark 29 = .ok (.aload_n 0, 1) := by decide +kernel
theorem dX4_removeMark_30 : decode cX4_removeMark 30 = .ok (.getfield 18, 3) := by decide +kernel
theorem dX4_removeMark_33 : decode cX4_removeMark 33 = .ok (.iload_n 1, 1) := by decide +kernel
theorem dX4_removeMark_34 : decode cX4_removeMark 34 = .ok (.iload_n 2, 1) := by decide +kernel
theorem dX4_removeMark_35 : decode cX4_removeMark 35 = .ok (.iconst 1, 1) := by decide +kernel
theorem dX4_removeMark_36 : decode cX4_removeMark 36 = .ok (.invokestatic 70, 3) := by decide +kernel
theorem dX4_removeMark_39 : decode cX4_removeMark 39 = .ok (.aload_n 0, 1) := by decide +kernel
theorem dX4_removeMark_40 : decode cX4_removeMark 40 = .ok (.getfield 25, 3) := by decide +kernel
theorem dX4_removeMark_43 : decode cX4_removeMark 43 = .ok (.iload_n 1, 1) := by decide +kernel
theorem dX4_removeMark_44 : decode cX4_removeMark 44 = .ok (.iload_n 2, 1) := by decide +kernel
theorem dX4_removeMark_45 : decode cX4_removeMark 45 = .ok (.iconst 1, 1) := by decide +kernel
theorem dX4_removeMark_46 : decode cX4_removeMark 46 = .ok (.invokestatic 70, 3) := by decide +kernel
theorem dX4_removeMark_49 : decode cX4_removeMark 49 = .ok (.aload_n 0, 1) := by decide +kernel
theorem dX4_removeMark_50 : decode cX4_removeMark 50 = .ok (.getfield 31, 3) := by decide +kernel
theorem dX4_removeMark_53 : decode cX4_removeMark 53 = .ok (.iload_n 1, 1) := by decide +kernel
theorem dX4_removeMark_54 : decode cX4_removeMark 54 = .ok (.iload_n 2, 1) := by decide +kernel
theorem dX4_removeMark_55 : decode cX4_removeMark 55 = .ok (.iconst 1, 1) := by decide +kernel
theorem dX4_removeMark_56 : decode cX4_removeMark 56 = .ok (.invokestatic 70, 3) := by decide +kernel
theorem dX4_removeMark_59 : decode cX4_removeMark 59 = .ok (.aload_n 0, 1) := by decide +kernel
theorem dX4_removeMark_60 : decode cX4_removeMark 60 = .ok (.getfield 28, 3) := by decide +kernel
theorem dX4_removeMark_63 : decode cX4_removeMark 63 = .ok (.iload_n 1, 1) := by decide +kernel
theorem dX4_removeMark_64 : decode cX4_removeMark 64 = .ok (.iload_n 2, 1) := by decide +kernel
theorem dX4_removeMark_65 : decode cX4_removeMark 65 = .ok (.bipush 36, 2) := by decide +kernel
theorem dX4_removeMark_67 : decode cX4_removeMark 67 = .ok (.invokestatic 70, 3) := by decide +kernel
theorem dX4_removeMark_70 : decode cX4_removeMark 70 = .ok (.aload_n 0, 1) := by decide +kernel
theorem dX4_removeMark_71 : decode cX4_removeMark 71 = .ok (.getfield 21, 3) := by decide +kernel
theorem dX4_removeMark_74 : decode cX4_removeMark 74 = .ok (.iload_n 1, 1) := by decide +kernel
theorem dX4_removeMark_75 : decode cX4_removeMark 75 = .ok (.iconst 1, 1) := by decide +kernel
theorem dX4_removeMark_76 : decode cX4_removeMark 76 = .ok (.iadd, 1) := by decide +kernel
theorem dX4_removeMark_77 : decode cX4_removeMark 77 = .ok (.bipush 10, 2) := by decide +kernel
theorem dX4_removeMark_79 : decode cX4_removeMark 79 = .ok (.imul, 1) := by decide +kernel
theorem dX4_removeMark_80 : decode cX4_removeMark 80 = .ok (.aload_n 0, 1) := by decide +kernel
theorem dX4_removeMark_81 : decode cX4_removeMark 81 = .ok (.getfield 21, 3) := by decide +kernel
theorem dX4_removeMark_84 : decode cX4_removeMark 84 = .ok (.iload_n 1, 1) := by decide +kernel
theorem dX4_removeMark_85 : decode cX4_removeMark 85 = .ok (.bipush 10, 2) := by decide +kernel
theorem dX4_removeMark_87 : decode cX4_removeMark 87 = .ok (.imul, 1) := by decide +kernel
theorem dX4_removeMark_88 : decode cX4_removeMark 88 = .ok (.iload_n 2, 1) := by decide +kernel
theorem dX4_removeMark_89 : decode cX4_removeMark 89 = .ok (.bipush 10, 2) := by decide +kernel
theorem dX4_removeMark_91 : decode cX4_removeMark 91 = .ok (.imul, 1) := by decide +kernel
theorem dX4_removeMark_92 : decode cX4_removeMark 92 = .ok (.invokestatic 50, 3) := by decide +kernel
theorem dX4_removeMark_95 : decode cX4_removeMark 95 = .ok (.aload_n 0, 1) := by decide +kernel
theorem dX4_removeMark_96 : decode cX4_removeMark 96 = .ok (.dup, 1) := by decide +kernel
theorem dX4_removeMark_97 : decode cX4_removeMark 97 = .ok (.getfield 44, 3) := by decide +kernel
theorem dX4_removeMark_100 : decode cX4_removeMark 100 = .ok (.iconst 1, 1) := by decide +kernel
theorem dX4_removeMark_101 : decode cX4_removeMark 101 = .ok (.isub, 1) := by decide +kernel
theorem dX4_removeMark_102 : decode cX4_removeMark 102 = .ok (.putfield 44, 3) := by decide +kernel
theorem dX4_removeMark_105 : decode cX4_removeMark 105 = .ok (.iconst 0, 1) := by decide +kernel
theorem dX4_removeMark_106 : decode cX4_removeMark 106 = .ok (.istore_n 3, 1) := by decide +kernel
theorem dX4_removeMark_107 : decode cX4_removeMark 107 = .ok (.iload_n 3, 1) := by decide +kernel
theorem dX4_removeMark_108 : decode cX4_removeMark 108 = .ok (.aload_n 0, 1) := by decide +kernel
theorem dX4_removeMark_109 : decode cX4_removeMark 109 = .ok (.getfield 44, 3) := by decide +kernel
theorem dX4_removeMark_112 : decode cX4_removeMark 112 = .ok (.if_icmp .ge 44, 3) := by decide +kernel
theorem dX4_removeMark_115 : decode cX4_removeMark 115 = .ok (.aload_n 0, 1) := by decide +kernel
theorem dX4_removeMark_116 : decode cX4_removeMark 116 = .ok (.getfield 31, 3) := by decide +kernel
theorem dX4_removeMark_119 : decode cX4_removeMark 119 = .ok (.iload_n 3, 1) := by decide +kernel
theorem dX4_removeMark_120 : decode cX4_removeMark 120 = .ok (.iaload, 1) := by decide +kernel
theorem dX4_removeMark_121 : decode cX4_removeMark 121 = .ok (.iconst 1, 1) := by decide +kernel
theorem dX4_removeMark_122 : decode cX4_removeMark 122 = .ok (.iload_n 1, 1) := by decide +kernel
theorem dX4_removeMark_123 : decode cX4_removeMark 123 = .ok (.ishl, 1) := by decide +kernel
theorem dX4_removeMark_124 : decode cX4_removeMark 124 = .ok (.iconst 1, 1) := by decide +kernel
theorem dX4_removeMark_125 : decode cX4_removeMark 125 = .ok (.isub, 1) := by decide +kernel
theorem dX4_removeMark_126 : decode cX4_removeMark 126 = .ok (.iand, 1) := by decide +kernel
theorem dX4_removeMark_127 : decode cX4_removeMark 127 = .ok (.istore 4, 2) := by decide +kernel
theorem dX4_removeMark_129 : decode cX4_removeMark 129 = .ok (.aload_n 0, 1) := by decide +kernel
theorem dX4_removeMark_130 : decode cX4_removeMark 130 = .ok (.getfield 31, 3) := by decide +kernel
theorem dX4_removeMark_133 : decode cX4_removeMark 133 = .ok (.iload_n 3, 1) := by decide +kernel
theorem dX4_removeMark_134 : decode cX4_removeMark 134 = .ok (.iload 4, 2) := by decide +kernel
theorem dX4_removeMark_136 : decode cX4_removeMark 136 = .ok (.aload_n 0, 1) := by decide +kernel
theorem dX4_removeMark_137 : decode cX4_removeMark 137 = .ok (.getfield 31, 3) := by decide +kernel
theorem dX4_removeMark_140 : decode cX4_removeMark 140 = .ok (.iload_n 3, 1) := by decide +kernel
theorem dX4_removeMark_141 : decode cX4_removeMark 141 = .ok (.iaload, 1) := by decide +kernel
theorem dX4_removeMark_142 : decode cX4_removeMark 142 = .ok (.iload_n 1, 1) := by decide +kernel
theorem dX4_removeMark_143 : decode cX4_removeMark 143 = .ok (.iconst 1, 1) := by decide +kernel
theorem dX4_removeMark_144 : decode cX4_removeMark 144 = .ok (.iadd, 1) := by decide +kernel
theorem dX4_removeMark_145 : decode cX4_removeMark 145 = .ok (.ishr, 1) := by decide +kernel
theorem dX4_removeMark_146 : decode cX4_removeMark 146 = .ok (.iload_n 1, 1) := by decide +kernel
theorem dX4_removeMark_147 : decode cX4_removeMark 147 = .ok (.ishl, 1) := by decide +kernel
theorem dX4_removeMark_148 : decode cX4_removeMark 148 = .ok (.ior, 1) := by decide +kernel
theorem dX4_removeMark_149 : decode cX4_removeMark 149 = .ok (.iastore, 1) := by decide +kernel
theorem dX4_removeMark_150 : decode cX4_removeMark 150 = .ok (.iinc 3 1, 3) := by decide +kernel
theorem dX4_removeMark_153 : decode cX4_removeMark 153 = .ok (.goto (-46), 3) := by decide +kernel
theorem dX4_removeMark_156 : decode cX4_removeMark 156 = .ok (.return_, 1) := by decide +kernel
theorem dX4_closeUp_0 : decode cX4_closeUp 0 = .ok (.aload_n 0, 1) := by decide +kernel
theorem dX4_closeUp_1 : decode cX4_closeUp 1 = .ok (.iload_n 1, 1) := by decide +kernel
theorem dX4_closeUp_2 : decode cX4_closeUp 2 = .ok (.iconst 1, 1) := by decide +kernel
theorem dX4_closeUp_3 : decode cX4_closeUp 3 = .ok (.iadd, 1) := by decide +kernel
theorem dX4_closeUp_4 : decode cX4_closeUp 4 = .ok (.iload_n 3, 1) := by decide +kernel
theorem dX4_closeUp_5 : decode cX4_closeUp 5 = .ok (.imul, 1) := by decide +kernel
theorem dX4_closeUp_6 : decode cX4_closeUp 6 = .ok (.aload_n 0, 1) := by decide +kernel
theorem dX4_closeUp_7 : decode cX4_closeUp 7 = .ok (.iload_n 1, 1) := by decide +kernel
theorem dX4_closeUp_8 : decode cX4_closeUp 8 = .ok (.iload_n 3, 1) := by decide +kernel
theorem dX4_closeUp_9 : decode cX4_closeUp 9 = .ok (.imul, 1) := by decide +kernel
theorem dX4_closeUp_10 : decode cX4_closeUp 10 = .ok (.iload_n 2, 1) := by decide +kernel
theorem dX4_closeUp_11 : decode cX4_closeUp 11 = .ok (.iload_n 3, 1) := by decide +kernel
theorem dX4_closeUp_12 : decode cX4_closeUp 12 = .ok (.imul, 1) := by decide +kernel
theorem dX4_closeUp_13 : decode cX4_closeUp 13 = .ok (.invokestatic 50, 3) := by decide +kernel
theorem dX4_closeUp_16 : decode cX4_closeUp 16 = .ok (.return_, 1) := by decide +kernel
theorem dX4_stepsApart_0 : decode cX4_stepsApart 0 = .ok (.iload_n 1, 1) := by decide +kernel
theorem dX4_stepsApart_1 : decode cX4_stepsApart 1 = .ok (.istore_n 3, 1) := by decide +kernel
theorem dX4_stepsApart_2 : decode cX4_stepsApart 2 = .ok (.iconst 0, 1) := by decide +kernel
theorem dX4_stepsApart_3 : decode cX4_stepsApart 3 = .ok (.istore 4, 2) := by decide +kernel
theorem dX4_stepsApart_5 : decode cX4_stepsApart 5 = .ok (.iload 4, 2) := by decide +kernel
theorem dX4_stepsApart_7 : decode cX4_stepsApart 7 = .ok (.bipush 10, 2) := by decide +kernel
theorem dX4_stepsApart_9 : decode cX4_stepsApart 9 = .ok (.if_icmp .ge 61, 3) := by decide +kernel
theorem dX4_stepsApart_12 : decode cX4_stepsApart 12 = .ok (.iload_n 3, 1) := by decide +kernel
theorem dX4_stepsApart_13 : decode cX4_stepsApart 13 = .ok (.iload_n 2, 1) := by decide +kernel
theorem dX4_stepsApart_14 : decode cX4_stepsApart 14 = .ok (.iand, 1) := by decide +kernel
theorem dX4_stepsApart_15 : decode cX4_stepsApart 15 = .ok (.ifCond .eq 6, 3) := by decide +kernel
theorem dX4_stepsApart_18 : decode cX4_stepsApart 18 = .ok (.iload 4, 2) := by decide +kernel
theorem dX4_stepsApart_20 : decode cX4_stepsApart 20 = .ok (.ireturn, 1) := by decide +kernel
theorem dX4_stepsApart_21 : decode cX4_stepsApart 21 = .ok (.iload_n 3, 1) := by decide +kernel
theorem dX4_stepsApart_22 : decode cX4_stepsApart 22 = .ok (.istore 5, 2) := by decide +kernel
theorem dX4_stepsApart_24 : decode cX4_stepsApart 24 = .ok (.iconst 0, 1) := by decide +kernel
theorem dX4_stepsApart_25 : decode cX4_stepsApart 25 = .ok (.istore 6, 2) := by decide +kernel
theorem dX4_stepsApart_27 : decode cX4_stepsApart 27 = .ok (.iload 6, 2) := by decide +kernel
theorem dX4_stepsApart_29 : decode cX4_stepsApart 29 = .ok (.bipush 10, 2) := by decide +kernel
theorem dX4_stepsApart_31 : decode cX4_stepsApart 31 = .ok (.if_icmp .ge 30, 3) := by decide +kernel
theorem dX4_stepsApart_34 : decode cX4_stepsApart 34 = .ok (.iload 6, 2) := by decide +kernel
theorem dX4_stepsApart_36 : decode cX4_stepsApart 36 = .ok (.iload_n 3, 1) := by decide +kernel
theorem dX4_stepsApart_37 : decode cX4_stepsApart 37 = .ok (.invokestatic 74, 3) := by decide +kernel
theorem dX4_stepsApart_40 : decode cX4_stepsApart 40 = .ok (.ifCond .eq 15, 3) := by decide +kernel
theorem dX4_stepsApart_43 : decode cX4_stepsApart 43 = .ok (.iload 5, 2) := by decide +kernel
theorem dX4_stepsApart_45 : decode cX4_stepsApart 45 = .ok (.aload_n 0, 1) := by decide +kernel
theorem dX4_stepsApart_46 : decode cX4_stepsApart 46 = .ok (.getfield 34, 3) := by decide +kernel
theorem dX4_stepsApart_49 : decode cX4_stepsApart 49 = .ok (.iload 6, 2) := by decide +kernel
theorem dX4_stepsApart_51 : decode cX4_stepsApart 51 = .ok (.iaload, 1) := by decide +kernel
theorem dX4_stepsApart_52 : decode cX4_stepsApart 52 = .ok (.ior, 1) := by decide +kernel
theorem dX4_stepsApart_53 : decode cX4_stepsApart 53 = .ok (.istore 5, 2) := by decide +kernel
theorem dX4_stepsApart_55 : decode cX4_stepsApart 55 = .ok (.iinc 6 1, 3) := by decide +kernel
theorem dX4_stepsApart_58 : decode cX4_stepsApart 58 = .ok (.goto (-31), 3) := by decide +kernel
theorem dX4_stepsApart_61 : decode cX4_stepsApart 61 = .ok (.iload 5, 2) := by decide +kernel
theorem dX4_stepsApart_63 : decode cX4_stepsApart 63 = .ok (.istore_n 3, 1) := by decide +kernel
theorem dX4_stepsApart_64 : decode cX4_stepsApart 64 = .ok (.iinc 4 1, 3) := by decide +kernel
theorem dX4_stepsApart_67 : decode cX4_stepsApart 67 = .ok (.goto (-62), 3) := by decide +kernel
theorem dX4_stepsApart_70 : decode cX4_stepsApart 70 = .ok (.iconst (-1), 1) := by decide +kernel
theorem dX4_stepsApart_71 : decode cX4_stepsApart 71 = .ok (.ireturn, 1) := by decide +kernel
theorem dX4_sinceOf_0 : decode cX4_sinceOf 0 = .ok (.iload_n 3, 1) := by decide +kernel
theorem dX4_sinceOf_1 : decode cX4_sinceOf 1 = .ok (.iconst 1, 1) := by decide +kernel
theorem dX4_sinceOf_2 : decode cX4_sinceOf 2 = .ok (.iadd, 1) := by decide +kernel
theorem dX4_sinceOf_3 : decode cX4_sinceOf 3 = .ok (.istore 4, 2) := by decide +kernel
theorem dX4_sinceOf_5 : decode cX4_sinceOf 5 = .ok (.iconst 0, 1) := by decide +kernel
theorem dX4_sinceOf_6 : decode cX4_sinceOf 6 = .ok (.istore 5, 2) := by decide +kernel
theorem dX4_sinceOf_8 : decode cX4_sinceOf 8 = .ok (.iload 5, 2) := by decide +kernel
theorem dX4_sinceOf_10 : decode cX4_sinceOf 10 = .ok (.bipush 12, 2) := by decide +kernel
theorem dX4_sinceOf_12 : decode cX4_sinceOf 12 = .ok (.if_icmp .gt 108, 3) := by decide +kernel
theorem dX4_sinceOf_15 : decode cX4_sinceOf 15 = .ok (.iload 4, 2) := by decide +kernel
theorem dX4_sinceOf_17 : decode cX4_sinceOf 17 = .ok (.istore 6, 2) := by decide +kernel
theorem dX4_sinceOf_19 : decode cX4_sinceOf 19 = .ok (.iconst 0, 1) := by decide +kernel
theorem dX4_sinceOf_20 : decode cX4_sinceOf 20 = .ok (.istore 7, 2) := by decide +kernel
theorem dX4_sinceOf_22 : decode cX4_sinceOf 22 = .ok (.iload 7, 2) := by decide +kernel
theorem dX4_sinceOf_24 : decode cX4_sinceOf 24 = .ok (.aload_n 0, 1) := by decide +kernel
theorem dX4_sinceOf_25 : decode cX4_sinceOf 25 = .ok (.getfield 25, 3) := by decide +kernel
theorem dX4_sinceOf_28 : decode cX4_sinceOf 28 = .ok (.iload_n 1, 1) := by decide +kernel
theorem dX4_sinceOf_29 : decode cX4_sinceOf 29 = .ok (.iaload, 1) := by decide +kernel
theorem dX4_sinceOf_30 : decode cX4_sinceOf 30 = .ok (.if_icmp .ge 74, 3) := by decide +kernel
theorem dX4_sinceOf_33 : decode cX4_sinceOf 33 = .ok (.aload_n 0, 1) := by decide +kernel
theorem dX4_sinceOf_34 : decode cX4_sinceOf 34 = .ok (.iload_n 1, 1) := by decide +kernel
theorem dX4_sinceOf_35 : decode cX4_sinceOf 35 = .ok (.iload 7, 2) := by decide +kernel
theorem dX4_sinceOf_37 : decode cX4_sinceOf 37 = .ok (.invokevirtual 66, 3) := by decide +kernel
theorem dX4_sinceOf_40 : decode cX4_sinceOf 40 = .ok (.istore 8, 2) := by decide +kernel
theorem dX4_sinceOf_42 : decode cX4_sinceOf 42 = .ok (.aload_n 0, 1) := by decide +kernel
theorem dX4_sinceOf_43 : decode cX4_sinceOf 43 = .ok (.getfield 28, 3) := by decide +kernel
theorem dX4_sinceOf_46 : decode cX4_sinceOf 46 = .ok (.iload 8, 2) := by decide +kernel
theorem dX4_sinceOf_48 : decode cX4_sinceOf 48 = .ok (.iconst 1, 1) := by decide +kernel
theorem dX4_sinceOf_49 : decode cX4_sinceOf 49 = .ok (.iadd, 1) := by decide +kernel
theorem dX4_sinceOf_50 : decode cX4_sinceOf 50 = .ok (.iaload, 1) := by decide +kernel
theorem dX4_sinceOf_51 : decode cX4_sinceOf 51 = .ok (.istore 9, 2) := by decide +kernel
theorem dX4_sinceOf_53 : decode cX4_sinceOf 53 = .ok (.aload_n 0, 1) := by decide +kernel
theorem dX4_sinceOf_54 : decode cX4_sinceOf 54 = .ok (.getfield 28, 3) := by decide +kernel
theorem dX4_sinceOf_57 : decode cX4_sinceOf 57 = .ok (.iload 8, 2) := by decide +kernel
theorem dX4_sinceOf_59 : decode cX4_sinceOf 59 = .ok (.iaload, 1) := by decide +kernel
theorem dX4_sinceOf_60 : decode cX4_sinceOf 60 = .ok (.iload_n 2, 1) := by decide +kernel
theorem dX4_sinceOf_61 : decode cX4_sinceOf 61 = .ok (.if_icmp .ne 37, 3) := by decide +kernel
theorem dX4_sinceOf_64 : decode cX4_sinceOf 64 = .ok (.iload 9, 2) := by decide +kernel
theorem dX4_sinceOf_66 : decode cX4_sinceOf 66 = .ok (.iload 4, 2) := by decide +kernel
theorem dX4_sinceOf_68 : decode cX4_sinceOf 68 = .ok (.if_icmp .ge 30, 3) := by decide +kernel
theorem dX4_sinceOf_71 : decode cX4_sinceOf 71 = .ok (.aload_n 0, 1) := by decide +kernel
theorem dX4_sinceOf_72 : decode cX4_sinceOf 72 = .ok (.getfield 28, 3) := by decide +kernel
theorem dX4_sinceOf_75 : decode cX4_sinceOf 75 = .ok (.iload 8, 2) := by decide +kernel
theorem dX4_sinceOf_77 : decode cX4_sinceOf 77 = .ok (.iconst 2, 1) := by decide +kernel
theorem dX4_sinceOf_78 : decode cX4_sinceOf 78 = .ok (.iadd, 1) := by decide +kernel
theorem dX4_sinceOf_79 : decode cX4_sinceOf 79 = .ok (.iaload, 1) := by decide +kernel
theorem dX4_sinceOf_80 : decode cX4_sinceOf 80 = .ok (.aload_n 0, 1) := by decide +kernel
theorem dX4_sinceOf_81 : decode cX4_sinceOf 81 = .ok (.getfield 37, 3) := by decide +kernel
theorem dX4_sinceOf_84 : decode cX4_sinceOf 84 = .ok (.iconst 4, 1) := by decide +kernel
theorem dX4_sinceOf_85 : decode cX4_sinceOf 85 = .ok (.iaload, 1) := by decide +kernel
theorem dX4_sinceOf_86 : decode cX4_sinceOf 86 = .ok (.iadd, 1) := by decide +kernel
theorem dX4_sinceOf_87 : decode cX4_sinceOf 87 = .ok (.iload 4, 2) := by decide +kernel
theorem dX4_sinceOf_89 : decode cX4_sinceOf 89 = .ok (.iconst 1, 1) := by decide +kernel
theorem dX4_sinceOf_90 : decode cX4_sinceOf 90 = .ok (.isub, 1) := by decide +kernel
theorem dX4_sinceOf_91 : decode cX4_sinceOf 91 = .ok (.if_icmp .lt 7, 3) := by decide +kernel
theorem dX4_sinceOf_94 : decode cX4_sinceOf 94 = .ok (.iload 9, 2) := by decide +kernel
theorem dX4_sinceOf_96 : decode cX4_sinceOf 96 = .ok (.istore 4, 2) := by decide +kernel
theorem dX4_sinceOf_98 : decode cX4_sinceOf 98 = .ok (.iinc 7 1, 3) := by decide +kernel
theorem dX4_sinceOf_101 : decode cX4_sinceOf 101 = .ok (.goto (-79), 3) := by decide +kernel
theorem dX4_sinceOf_104 : decode cX4_sinceOf 104 = .ok (.iload 4, 2) := by decide +kernel
theorem dX4_sinceOf_106 : decode cX4_sinceOf 106 = .ok (.iload 6, 2) := by decide +kernel
theorem dX4_sinceOf_108 : decode cX4_sinceOf 108 = .ok (.if_icmp .ne 6, 3) := by decide +kernel
theorem dX4_sinceOf_111 : decode cX4_sinceOf 111 = .ok (.goto 9, 3) := by decide +kernel
theorem dX4_sinceOf_114 : decode cX4_sinceOf 114 = .ok (.iinc 5 1, 3) := by decide +kernel
theorem dX4_sinceOf_117 : decode cX4_sinceOf 117 = .ok (.goto (-109), 3) := by decide +kernel
theorem dX4_sinceOf_120 : decode cX4_sinceOf 120 = .ok (.iload 4, 2) := by decide +kernel
theorem dX4_sinceOf_122 : decode cX4_sinceOf 122 = .ok (.iload_n 3, 1) := by decide +kernel
theorem dX4_sinceOf_123 : decode cX4_sinceOf 123 = .ok (.if_icmp .le 7, 3) := by decide +kernel
theorem dX4_sinceOf_126 : decode cX4_sinceOf 126 = .ok (.iconst (-1), 1) := by decide +kernel
theorem dX4_sinceOf_127 : decode cX4_sinceOf 127 = .ok (.goto 5, 3) := by decide +kernel
theorem dX4_sinceOf_130 : decode cX4_sinceOf 130 = .ok (.iload 4, 2) := by decide +kernel
theorem dX4_sinceOf_132 : decode cX4_sinceOf 132 = .ok (.ireturn, 1) := by decide +kernel
theorem dX4_priorityOf_0 : decode cX4_priorityOf 0 = .ok (.aload_n 0, 1) := by decide +kernel
theorem dX4_priorityOf_1 : decode cX4_priorityOf 1 = .ok (.iload_n 1, 1) := by decide +kernel
theorem dX4_priorityOf_2 : decode cX4_priorityOf 2 = .ok (.iload_n 2, 1) := by decide +kernel
theorem dX4_priorityOf_3 : decode cX4_priorityOf 3 = .ok (.iload_n 3, 1) := by decide +kernel
theorem dX4_priorityOf_4 : decode cX4_priorityOf 4 = .ok (.invokevirtual 78, 3) := by decide +kernel
theorem dX4_priorityOf_7 : decode cX4_priorityOf 7 = .ok (.istore 4, 2) := by decide +kernel
theorem dX4_priorityOf_9 : decode cX4_priorityOf 9 = .ok (.aload_n 0, 1) := by decide +kernel
theorem dX4_priorityOf_10 : decode cX4_priorityOf 10 = .ok (.getfield 9, 3) := by decide +kernel
theorem dX4_priorityOf_13 : decode cX4_priorityOf 13 = .ok (.iload_n 1, 1) := by decide +kernel
theorem dX4_priorityOf_14 : decode cX4_priorityOf 14 = .ok (.iaload, 1) := by decide +kernel
theorem dX4_priorityOf_15 : decode cX4_priorityOf 15 = .ok (.iload_n 3, 1) := by decide +kernel
theorem dX4_priorityOf_16 : decode cX4_priorityOf 16 = .ok (.if_icmp .le 6, 3) := by decide +kernel
theorem dX4_priorityOf_19 : decode cX4_priorityOf 19 = .ok (.iload 4, 2) := by decide +kernel
theorem dX4_priorityOf_21 : decode cX4_priorityOf 21 = .ok (.ireturn, 1) := by decide +kernel
theorem dX4_priorityOf_22 : decode cX4_priorityOf 22 = .ok (.iload 4, 2) := by decide +kernel
theorem dX4_priorityOf_24 : decode cX4_priorityOf 24 = .ok (.iconst (-1), 1) := by decide +kernel
theorem dX4_priorityOf_25 : decode cX4_priorityOf 25 = .ok (.if_icmp .ne 12, 3) := by decide +kernel
theorem dX4_priorityOf_28 : decode cX4_priorityOf 28 = .ok (.aload_n 0, 1) := by decide +kernel
theorem dX4_priorityOf_29 : decode cX4_priorityOf 29 = .ok (.getfield 9, 3) := by decide +kernel
theorem dX4_priorityOf_32 : decode cX4_priorityOf 32 = .ok (.iload_n 1, 1) := by decide +kernel
theorem dX4_priorityOf_33 : decode cX4_priorityOf 33 = .ok (.iaload, 1) := by decide +kernel
theorem dX4_priorityOf_34 : decode cX4_priorityOf 34 = .ok (.goto 14, 3) := by decide +kernel
theorem dX4_priorityOf_37 : decode cX4_priorityOf 37 = .ok (.iload 4, 2) := by decide +kernel
theorem dX4_priorityOf_39 : decode cX4_priorityOf 39 = .ok (.aload_n 0, 1) := by decide +kernel
theorem dX4_priorityOf_40 : decode cX4_priorityOf 40 = .ok (.getfield 9, 3) := by decide +kernel
theorem dX4_priorityOf_43 : decode cX4_priorityOf 43 = .ok (.iload_n 1, 1) := by decide +kernel
theorem dX4_priorityOf_44 : decode cX4_priorityOf 44 = .ok (.iaload, 1) := by decide +kernel
theorem dX4_priorityOf_45 : decode cX4_priorityOf 45 = .ok (.invokestatic 82, 3) := by decide +kernel
theorem dX4_priorityOf_48 : decode cX4_priorityOf 48 = .ok (.ireturn, 1) := by decide +kernel
theorem dX4_halvesWithPriority_0 : decode cX4_halvesWithPriority 0 = .ok (.iconst 0, 1) := by decide +kernel
theorem dX4_halvesWithPriority_1 : decode cX4_halvesWithPriority 1 = .ok (.istore_n 3, 1) := by decide +kernel
theorem dX4_halvesWithPriority_2 : decode cX4_halvesWithPriority 2 = .ok (.iconst 0, 1) := by decide +kernel
theorem dX4_halvesWithPriority_3 : decode cX4_halvesWithPriority 3 = .ok (.istore 4, 2) := by decide +kernel
theorem dX4_halvesWithPriority_5 : decode cX4_halvesWithPriority 5 = .ok (.iload 4, 2) := by decide +kernel
theorem dX4_halvesWithPriority_7 : decode cX4_halvesWithPriority 7 = .ok (.aload_n 0, 1) := by decide +kernel
theorem dX4_halvesWithPriority_8 : decode cX4_halvesWithPriority 8 = .ok (.invokevirtual 62, 3) := by decide +kernel
theorem dX4_halvesWithPriority_11 : decode cX4_halvesWithPriority 11 = .ok (.if_icmp .ge 28, 3) := by decide +kernel
theorem dX4_halvesWithPriority_14 : decode cX4_halvesWithPriority 14 = .ok (.aload_n 0, 1) := by decide +kernel
theorem dX4_halvesWithPriority_15 : decode cX4_halvesWithPriority 15 = .ok (.iload_n 1, 1) := by decide +kernel
theorem dX4_halvesWithPriority_16 : decode cX4_halvesWithPriority 16 = .ok (.iload 4, 2) := by decide +kernel
theorem dX4_halvesWithPriority_18 : decode cX4_halvesWithPriority 18 = .ok (.iload_n 2, 1) := by decide +kernel
theorem dX4_halvesWithPriority_19 : decode cX4_halvesWithPriority 19 = .ok (.invokevirtual 87, 3) := by decide +kernel
theorem dX4_halvesWithPriority_22 : decode cX4_halvesWithPriority 22 = .ok (.iconst (-1), 1) := by decide +kernel
theorem dX4_halvesWithPriority_23 : decode cX4_halvesWithPriority 23 = .ok (.if_icmp .eq 10, 3) := by decide +kernel
theorem dX4_halvesWithPriority_26 : decode cX4_halvesWithPriority 26 = .ok (.iload_n 3, 1) := by decide +kernel
theorem dX4_halvesWithPriority_27 : decode cX4_halvesWithPriority 27 = .ok (.iconst 1, 1) := by decide +kernel
theorem dX4_halvesWithPriority_28 : decode cX4_halvesWithPriority 28 = .ok (.iload 4, 2) := by decide +kernel
theorem dX4_halvesWithPriority_30 : decode cX4_halvesWithPriority 30 = .ok (.ishl, 1) := by decide +kernel
theorem dX4_halvesWithPriority_31 : decode cX4_halvesWithPriority 31 = .ok (.ior, 1) := by decide +kernel
theorem dX4_halvesWithPriority_32 : decode cX4_halvesWithPriority 32 = .ok (.istore_n 3, 1) := by decide +kernel
theorem dX4_halvesWithPriority_33 : decode cX4_halvesWithPriority 33 = .ok (.iinc 4 1, 3) := by decide +kernel
theorem dX4_halvesWithPriority_36 : decode cX4_halvesWithPriority 36 = .ok (.goto (-31), 3) := by decide +kernel
theorem dX4_halvesWithPriority_39 : decode cX4_halvesWithPriority 39 = .ok (.iload_n 3, 1) := by decide +kernel
theorem dX4_halvesWithPriority_40 : decode cX4_halvesWithPriority 40 = .ok (.ireturn, 1) := by decide +kernel
theorem dX4_nextChange_0 : decode cX4_nextChange 0 = .ok (.sipush 10000, 3) := by decide +kernel
theorem dX4_nextChange_3 : decode cX4_nextChange 3 = .ok (.istore 4, 2) := by decide +kernel
theorem dX4_nextChange_5 : decode cX4_nextChange 5 = .ok (.iconst 0, 1) := by decide +kernel
theorem dX4_nextChange_6 : decode cX4_nextChange 6 = .ok (.istore 5, 2) := by decide +kernel
theorem dX4_nextChange_8 : decode cX4_nextChange 8 = .ok (.iload 5, 2) := by decide +kernel
theorem dX4_nextChange_10 : decode cX4_nextChange 10 = .ok (.aload_n 0, 1) := by decide +kernel
theorem dX4_nextChange_11 : decode cX4_nextChange 11 = .ok (.getfield 44, 3) := by decide +kernel
theorem dX4_nextChange_14 : decode cX4_nextChange 14 = .ok (.if_icmp .ge 118, 3) := by decide +kernel
theorem dX4_nextChange_17 : decode cX4_nextChange 17 = .ok (.iload 5, 2) := by decide +kernel
theorem dX4_nextChange_19 : decode cX4_nextChange 19 = .ok (.iload_n 3, 1) := by decide +kernel
theorem dX4_nextChange_20 : decode cX4_nextChange 20 = .ok (.invokestatic 74, 3) := by decide +kernel
theorem dX4_nextChange_23 : decode cX4_nextChange 23 = .ok (.ifCond .eq 103, 3) := by decide +kernel
theorem dX4_nextChange_26 : decode cX4_nextChange 26 = .ok (.iload 4, 2) := by decide +kernel
theorem dX4_nextChange_28 : decode cX4_nextChange 28 = .ok (.aload_n 0, 1) := by decide +kernel
theorem dX4_nextChange_29 : decode cX4_nextChange 29 = .ok (.getfield 9, 3) := by decide +kernel
theorem dX4_nextChange_32 : decode cX4_nextChange 32 = .ok (.iload 5, 2) := by decide +kernel
theorem dX4_nextChange_34 : decode cX4_nextChange 34 = .ok (.iaload, 1) := by decide +kernel
theorem dX4_nextChange_35 : decode cX4_nextChange 35 = .ok (.iload_n 2, 1) := by decide +kernel
theorem dX4_nextChange_36 : decode cX4_nextChange 36 = .ok (.invokestatic 90, 3) := by decide +kernel
theorem dX4_nextChange_39 : decode cX4_nextChange 39 = .ok (.istore 4, 2) := by decide +kernel
theorem dX4_nextChange_41 : decode cX4_nextChange 41 = .ok (.iconst 0, 1) := by decide +kernel
theorem dX4_nextChange_42 : decode cX4_nextChange 42 = .ok (.istore 6, 2) := by decide +kernel
theorem dX4_nextChange_44 : decode cX4_nextChange 44 = .ok (.iload 6, 2) := by decide +kernel
theorem dX4_nextChange_46 : decode cX4_nextChange 46 = .ok (.aload_n 0, 1) := by decide +kernel
theorem dX4_nextChange_47 : decode cX4_nextChange 47 = .ok (.getfield 25, 3) := by decide +kernel
theorem dX4_nextChange_50 : decode cX4_nextChange 50 = .ok (.iload 5, 2) := by decide +kernel
theorem dX4_nextChange_52 : decode cX4_nextChange 52 = .ok (.iaload, 1) := by decide +kernel
theorem dX4_nextChange_53 : decode cX4_nextChange 53 = .ok (.if_icmp .ge 73, 3) := by decide +kernel
theorem dX4_nextChange_56 : decode cX4_nextChange 56 = .ok (.aload_n 0, 1) := by decide +kernel
theorem dX4_nextChange_57 : decode cX4_nextChange 57 = .ok (.iload 5, 2) := by decide +kernel
theorem dX4_nextChange_59 : decode cX4_nextChange 59 = .ok (.iload 6, 2) := by decide +kernel
theorem dX4_nextChange_61 : decode cX4_nextChange 61 = .ok (.invokevirtual 66, 3) := by decide +kernel
theorem dX4_nextChange_64 : decode cX4_nextChange 64 = .ok (.istore 7, 2) := by decide +kernel
theorem dX4_nextChange_66 : decode cX4_nextChange 66 = .ok (.aload_n 0, 1) := by decide +kernel
theorem dX4_nextChange_67 : decode cX4_nextChange 67 = .ok (.getfield 28, 3) := by decide +kernel
theorem dX4_nextChange_70 : decode cX4_nextChange 70 = .ok (.iload 7, 2) := by decide +kernel
theorem dX4_nextChange_72 : decode cX4_nextChange 72 = .ok (.iaload, 1) := by decide +kernel
theorem dX4_nextChange_73 : decode cX4_nextChange 73 = .ok (.iload_n 1, 1) := by decide +kernel
theorem dX4_nextChange_74 : decode cX4_nextChange 74 = .ok (.if_icmp .ne 46, 3) := by decide +kernel
theorem dX4_nextChange_77 : decode cX4_nextChange 77 = .ok (.iload 4, 2) := by decide +kernel
theorem dX4_nextChange_79 : decode cX4_nextChange 79 = .ok (.aload_n 0, 1) := by decide +kernel
theorem dX4_nextChange_80 : decode cX4_nextChange 80 = .ok (.getfield 28, 3) := by decide +kernel
theorem dX4_nextChange_83 : decode cX4_nextChange 83 = .ok (.iload 7, 2) := by decide +kernel
theorem dX4_nextChange_85 : decode cX4_nextChange 85 = .ok (.iconst 1, 1) := by decide +kernel
theorem dX4_nextChange_86 : decode cX4_nextChange 86 = .ok (.iadd, 1) := by decide +kernel
theorem dX4_nextChange_87 : decode cX4_nextChange 87 = .ok (.iaload, 1) := by decide +kernel
theorem dX4_nextChange_88 : decode cX4_nextChange 88 = .ok (.iload_n 2, 1) := by decide +kernel
theorem dX4_nextChange_89 : decode cX4_nextChange 89 = .ok (.invokestatic 90, 3) := by decide +kernel
theorem dX4_nextChange_92 : decode cX4_nextChange 92 = .ok (.istore 4, 2) := by decide +kernel
theorem dX4_nextChange_94 : decode cX4_nextChange 94 = .ok (.iload 4, 2) := by decide +kernel
theorem dX4_nextChange_96 : decode cX4_nextChange 96 = .ok (.aload_n 0, 1) := by decide +kernel
theorem dX4_nextChange_97 : decode cX4_nextChange 97 = .ok (.getfield 28, 3) := by decide +kernel
theorem dX4_nextChange_100 : decode cX4_nextChange 100 = .ok (.iload 7, 2) := by decide +kernel
theorem dX4_nextChange_102 : decode cX4_nextChange 102 = .ok (.iconst 2, 1) := by decide +kernel
theorem dX4_nextChange_103 : decode cX4_nextChange 103 = .ok (.iadd, 1) := by decide +kernel
theorem dX4_nextChange_104 : decode cX4_nextChange 104 = .ok (.iaload, 1) := by decide +kernel
theorem dX4_nextChange_105 : decode cX4_nextChange 105 = .ok (.aload_n 0, 1) := by decide +kernel
theorem dX4_nextChange_106 : decode cX4_nextChange 106 = .ok (.getfield 37, 3) := by decide +kernel
theorem dX4_nextChange_109 : decode cX4_nextChange 109 = .ok (.iconst 4, 1) := by decide +kernel
theorem dX4_nextChange_110 : decode cX4_nextChange 110 = .ok (.iaload, 1) := by decide +kernel
theorem dX4_nextChange_111 : decode cX4_nextChange 111 = .ok (.iadd, 1) := by decide +kernel
theorem dX4_nextChange_112 : decode cX4_nextChange 112 = .ok (.iconst 1, 1) := by decide +kernel
theorem dX4_nextChange_113 : decode cX4_nextChange 113 = .ok (.iadd, 1) := by decide +kernel
theorem dX4_nextChange_114 : decode cX4_nextChange 114 = .ok (.iload_n 2, 1) := by decide +kernel
theorem dX4_nextChange_115 : decode cX4_nextChange 115 = .ok (.invokestatic 90, 3) := by decide +kernel
theorem dX4_nextChange_118 : decode cX4_nextChange 118 = .ok (.istore 4, 2) := by decide +kernel
theorem dX4_nextChange_120 : decode cX4_nextChange 120 = .ok (.iinc 6 1, 3) := by decide +kernel
theorem dX4_nextChange_123 : decode cX4_nextChange 123 = .ok (.goto (-79), 3) := by decide +kernel
theorem dX4_nextChange_126 : decode cX4_nextChange 126 = .ok (.iinc 5 1, 3) := by decide +kernel
theorem dX4_nextChange_129 : decode cX4_nextChange 129 = .ok (.goto (-121), 3) := by decide +kernel
theorem dX4_nextChange_132 : decode cX4_nextChange 132 = .ok (.iload 4, 2) := by decide +kernel
theorem dX4_nextChange_134 : decode cX4_nextChange 134 = .ok (.ireturn, 1) := by decide +kernel
theorem dX4_sooner_0 : decode cX4_sooner 0 = .ok (.iload_n 1, 1) := by decide +kernel
theorem dX4_sooner_1 : decode cX4_sooner 1 = .ok (.iload_n 2, 1) := by decide +kernel
theorem dX4_sooner_2 : decode cX4_sooner 2 = .ok (.if_icmp .le 12, 3) := by decide +kernel
theorem dX4_sooner_5 : decode cX4_sooner 5 = .ok (.iload_n 1, 1) := by decide +kernel
theorem dX4_sooner_6 : decode cX4_sooner 6 = .ok (.iload_n 0, 1) := by decide +kernel
theorem dX4_sooner_7 : decode cX4_sooner 7 = .ok (.if_icmp .ge 7, 3) := by decide +kernel
theorem dX4_sooner_10 : decode cX4_sooner 10 = .ok (.iload_n 1, 1) := by decide +kernel
theorem dX4_sooner_11 : decode cX4_sooner 11 = .ok (.goto 4, 3) := by decide +kernel
theorem dX4_sooner_14 : decode cX4_sooner 14 = .ok (.iload_n 0, 1) := by decide +kernel
theorem dX4_sooner_15 : decode cX4_sooner 15 = .ok (.ireturn, 1) := by decide +kernel
theorem dX5_init_0 : decode cX5_init 0 = .ok (.aload_n 0, 1) := by decide +kernel
theorem dX5_init_1 : decode cX5_init 1 = .ok (.invokespecial 3, 3) := by decide +kernel
theorem dX5_init_4 : decode cX5_init 4 = .ok (.aload_n 0, 1) := by decide +kernel
theorem dX5_init_5 : decode cX5_init 5 = .ok (.sipush 156, 3) := by decide +kernel
theorem dX5_init_8 : decode cX5_init 8 = .ok (.newarray .int, 2) := by decide +kernel
theorem dX5_init_10 : decode cX5_init 10 = .ok (.putfield 9, 3) := by decide +kernel
theorem dX5_init_13 : decode cX5_init 13 = .ok (.aload_n 0, 1) := by decide +kernel
theorem dX5_init_14 : decode cX5_init 14 = .ok (.bipush 12, 2) := by decide +kernel
theorem dX5_init_16 : decode cX5_init 16 = .ok (.newarray .int, 2) := by decide +kernel
theorem dX5_init_18 : decode cX5_init 18 = .ok (.putfield 15, 3) := by decide +kernel
theorem dX5_init_21 : decode cX5_init 21 = .ok (.aload_n 0, 1) := by decide +kernel
theorem dX5_init_22 : decode cX5_init 22 = .ok (.bipush 13, 2) := by decide +kernel
theorem dX5_init_24 : decode cX5_init 24 = .ok (.newarray .int, 2) := by decide +kernel
theorem dX5_init_26 : decode cX5_init 26 = .ok (.putfield 18, 3) := by decide +kernel
theorem dX5_init_29 : decode cX5_init 29 = .ok (.aload_n 0, 1) := by decide +kernel
theorem dX5_init_30 : decode cX5_init 30 = .ok (.bipush 13, 2) := by decide +kernel
theorem dX5_init_32 : decode cX5_init 32 = .ok (.newarray .int, 2) := by decide +kernel
theorem dX5_init_34 : decode cX5_init 34 = .ok (.putfield 21, 3) := by decide +kernel
theorem dX5_init_37 : decode cX5_init 37 = .ok (.aload_n 0, 1) := by decide +kernel
theorem dX5_init_38 : decode cX5_init 38 = .ok (.bipush 13, 2) := by decide +kernel
theorem dX5_init_40 : decode cX5_init 40 = .ok (.newarray .int, 2) := by decide +kernel
theorem dX5_init_42 : decode cX5_init 42 = .ok (.putfield 24, 3) := by decide +kernel
theorem dX5_init_45 : decode cX5_init 45 = .ok (.aload_n 0, 1) := by decide +kernel
theorem dX5_init_46 : decode cX5_init 46 = .ok (.bipush 13, 2) := by decide +kernel
theorem dX5_init_48 : decode cX5_init 48 = .ok (.newarray .int, 2) := by decide +kernel
theorem dX5_init_50 : decode cX5_init 50 = .ok (.putfield 27, 3) := by decide +kernel
theorem dX5_init_53 : decode cX5_init 53 = .ok (.aload_n 0, 1) := by decide +kernel
theorem dX5_init_54 : decode cX5_init 54 = .ok (.bipush 13, 2) := by decide +kernel
theorem dX5_init_56 : decode cX5_init 56 = .ok (.newarray .int, 2) := by decide +kernel
theorem dX5_init_58 : decode cX5_init 58 = .ok (.putfield 30, 3) := by decide +kernel
theorem dX5_init_61 : decode cX5_init 61 = .ok (.aload_n 0, 1) := by decide +kernel
theorem dX5_init_62 : decode cX5_init 62 = .ok (.iconst 0, 1) := by decide +kernel
theorem dX5_init_63 : decode cX5_init 63 = .ok (.putfield 33, 3) := by decide +kernel
theorem dX5_init_66 : decode cX5_init 66 = .ok (.return_, 1) := by decide +kernel
theorem dX5_inOrder_0 : decode cX5_inOrder 0 = .ok (.aload_n 0, 1) := by decide +kernel
theorem dX5_inOrder_1 : decode cX5_inOrder 1 = .ok (.getfield 9, 3) := by decide +kernel
theorem dX5_inOrder_4 : decode cX5_inOrder 4 = .ok (.iload_n 1, 1) := by decide +kernel
theorem dX5_inOrder_5 : decode cX5_inOrder 5 = .ok (.bipush 13, 2) := by decide +kernel
theorem dX5_inOrder_7 : decode cX5_inOrder 7 = .ok (.imul, 1) := by decide +kernel
theorem dX5_inOrder_8 : decode cX5_inOrder 8 = .ok (.iload_n 2, 1) := by decide +kernel
theorem dX5_inOrder_9 : decode cX5_inOrder 9 = .ok (.iadd, 1) := by decide +kernel
theorem dX5_inOrder_10 : decode cX5_inOrder 10 = .ok (.iaload, 1) := by decide +kernel
theorem dX5_inOrder_11 : decode cX5_inOrder 11 = .ok (.ireturn, 1) := by decide +kernel
theorem dX5_rank_0 : decode cX5_rank 0 = .ok (.iload_n 2, 1) := by decide +kernel
theorem dX5_rank_1 : decode cX5_rank 1 = .ok (.bipush 13, 2) := by decide +kernel
theorem dX5_rank_3 : decode cX5_rank 3 = .ok (.imul, 1) := by decide +kernel
theorem dX5_rank_4 : decode cX5_rank 4 = .ok (.istore 5, 2) := by decide +kernel
theorem dX5_rank_6 : decode cX5_rank 6 = .ok (.iload 5, 2) := by decide +kernel
theorem dX5_rank_8 : decode cX5_rank 8 = .ok (.istore 6, 2) := by decide +kernel
theorem dX5_rank_10 : decode cX5_rank 10 = .ok (.iconst 0, 1) := by decide +kernel
theorem dX5_rank_11 : decode cX5_rank 11 = .ok (.istore 7, 2) := by decide +kernel
theorem dX5_rank_13 : decode cX5_rank 13 = .ok (.iload 7, 2) := by decide +kernel
theorem dX5_rank_15 : decode cX5_rank 15 = .ok (.aload_n 1, 1) := by decide +kernel
theorem dX5_rank_16 : decode cX5_rank 16 = .ok (.getfield 37, 3) := by decide +kernel
theorem dX5_rank_19 : decode cX5_rank 19 = .ok (.if_icmp .ge 118, 3) := by decide +kernel
theorem dX5_rank_22 : decode cX5_rank 22 = .ok (.aload_n 0, 1) := by decide +kernel
theorem dX5_rank_23 : decode cX5_rank 23 = .ok (.getfield 30, 3) := by decide +kernel
theorem dX5_rank_26 : decode cX5_rank 26 = .ok (.iload 7, 2) := by decide +kernel
theorem dX5_rank_28 : decode cX5_rank 28 = .ok (.iload 7, 2) := by decide +kernel
theorem dX5_rank_30 : decode cX5_rank 30 = .ok (.iload 4, 2) := by decide +kernel
theorem dX5_rank_32 : decode cX5_rank 32 = .ok (.invokestatic 42, 3) := by decide +kernel
theorem dX5_rank_35 : decode cX5_rank 35 = .ok (.ifCond .eq 14, 3) := by decide +kernel
theorem dX5_rank_38 : decode cX5_rank 38 = .ok (.aload_n 1, 1) := by decide +kernel
theorem dX5_rank_39 : decode cX5_rank 39 = .ok (.iload 7, 2) := by decide +kernel
theorem dX5_rank_41 : decode cX5_rank 41 = .ok (.iload_n 2, 1) := by decide +kernel
theorem dX5_rank_42 : decode cX5_rank 42 = .ok (.iload_n 3, 1) := by decide +kernel
theorem dX5_rank_43 : decode cX5_rank 43 = .ok (.invokevirtual 46, 3) := by decide +kernel
theorem dX5_rank_46 : decode cX5_rank 46 = .ok (.goto 4, 3) := by decide +kernel
theorem dX5_rank_49 : decode cX5_rank 49 = .ok (.iconst (-1), 1) := by decide +kernel
theorem dX5_rank_50 : decode cX5_rank 50 = .ok (.iastore, 1) := by decide +kernel
theorem dX5_rank_51 : decode cX5_rank 51 = .ok (.aload_n 0, 1) := by decide +kernel
theorem dX5_rank_52 : decode cX5_rank 52 = .ok (.getfield 30, 3) := by decide +kernel
theorem dX5_rank_55 : decode cX5_rank 55 = .ok (.iload 7, 2) := by decide +kernel
theorem dX5_rank_57 : decode cX5_rank 57 = .ok (.iaload, 1) := by decide +kernel
theorem dX5_rank_58 : decode cX5_rank 58 = .ok (.iconst (-1), 1) := by decide +kernel
theorem dX5_rank_59 : decode cX5_rank 59 = .ok (.if_icmp .eq 72, 3) := by decide +kernel
theorem dX5_rank_62 : decode cX5_rank 62 = .ok (.iload 6, 2) := by decide +kernel
theorem dX5_rank_64 : decode cX5_rank 64 = .ok (.istore 8, 2) := by decide +kernel
theorem dX5_rank_66 : decode cX5_rank 66 = .ok (.iload 8, 2) := by decide +kernel
theorem dX5_rank_68 : decode cX5_rank 68 = .ok (.iload 5, 2) := by decide +kernel
theorem dX5_rank_70 : decode cX5_rank 70 = .ok (.if_icmp .le 49, 3) := by decide +kernel
theorem dX5_rank_73 : decode cX5_rank 73 = .ok (.aload_n 0, 1) := by decide +kernel
theorem dX5_rank_74 : decode cX5_rank 74 = .ok (.getfield 30, 3) := by decide +kernel
theorem dX5_rank_77 : decode cX5_rank 77 = .ok (.aload_n 0, 1) := by decide +kernel
theorem dX5_rank_78 : decode cX5_rank 78 = .ok (.getfield 9, 3) := by decide +kernel
theorem dX5_rank_81 : decode cX5_rank 81 = .ok (.iload 8, 2) := by decide +kernel
theorem dX5_rank_83 : decode cX5_rank 83 = .ok (.iconst 1, 1) := by decide +kernel
theorem dX5_rank_84 : decode cX5_rank 84 = .ok (.isub, 1) := by decide +kernel
theorem dX5_rank_85 : decode cX5_rank 85 = .ok (.iaload, 1) := by decide +kernel
theorem dX5_rank_86 : decode cX5_rank 86 = .ok (.iaload, 1) := by decide +kernel
theorem dX5_rank_87 : decode cX5_rank 87 = .ok (.aload_n 0, 1) := by decide +kernel
theorem dX5_rank_88 : decode cX5_rank 88 = .ok (.getfield 30, 3) := by decide +kernel
theorem dX5_rank_91 : decode cX5_rank 91 = .ok (.iload 7, 2) := by decide +kernel
theorem dX5_rank_93 : decode cX5_rank 93 = .ok (.iaload, 1) := by decide +kernel
theorem dX5_rank_94 : decode cX5_rank 94 = .ok (.if_icmp .le 25, 3) := by decide +kernel
theorem dX5_rank_97 : decode cX5_rank 97 = .ok (.aload_n 0, 1) := by decide +kernel
theorem dX5_rank_98 : decode cX5_rank 98 = .ok (.getfield 9, 3) := by decide +kernel
theorem dX5_rank_101 : decode cX5_rank 101 = .ok (.iload 8, 2) := by decide +kernel
theorem dX5_rank_103 : decode cX5_rank 103 = .ok (.aload_n 0, 1) := by decide +kernel
theorem dX5_rank_104 : decode cX5_rank 104 = .ok (.getfield 9, 3) := by decide +kernel
theorem dX5_rank_107 : decode cX5_rank 107 = .ok (.iload 8, 2) := by decide +kernel
theorem dX5_rank_109 : decode cX5_rank 109 = .ok (.iconst 1, 1) := by decide +kernel
theorem dX5_rank_110 : decode cX5_rank 110 = .ok (.isub, 1) := by decide +kernel
theorem dX5_rank_111 : decode cX5_rank 111 = .ok (.iaload, 1) := by decide +kernel
theorem dX5_rank_112 : decode cX5_rank 112 = .ok (.iastore, 1) := by decide +kernel
theorem dX5_rank_113 : decode cX5_rank 113 = .ok (.iinc 8 (-1), 3) := by decide +kernel
theorem dX5_rank_116 : decode cX5_rank 116 = .ok (.goto (-50), 3) := by decide +kernel
theorem dX5_rank_119 : decode cX5_rank 119 = .ok (.aload_n 0, 1) := by decide +kernel
theorem dX5_rank_120 : decode cX5_rank 120 = .ok (.getfield 9, 3) := by decide +kernel
theorem dX5_rank_123 : decode cX5_rank 123 = .ok (.iload 8, 2) := by decide +kernel
theorem dX5_rank_125 : decode cX5_rank 125 = .ok (.iload 7, 2) := by decide +kernel
theorem dX5_rank_127 : decode cX5_rank 127 = .ok (.iastore, 1) := by decide +kernel
theorem dX5_rank_128 : decode cX5_rank 128 = .ok (.iinc 6 1, 3) := by decide +kernel
theorem dX5_rank_131 : decode cX5_rank 131 = .ok (.iinc 7 1, 3) := by decide +kernel
theorem dX5_rank_134 : decode cX5_rank 134 = .ok (.goto (-121), 3) := by decide +kernel
theorem dX5_rank_137 : decode cX5_rank 137 = .ok (.aload_n 0, 1) := by decide +kernel
theorem dX5_rank_138 : decode cX5_rank 138 = .ok (.getfield 15, 3) := by decide +kernel
theorem dX5_rank_141 : decode cX5_rank 141 = .ok (.iload_n 2, 1) := by decide +kernel
theorem dX5_rank_142 : decode cX5_rank 142 = .ok (.iload 6, 2) := by decide +kernel
theorem dX5_rank_144 : decode cX5_rank 144 = .ok (.iload 5, 2) := by decide +kernel
theorem dX5_rank_146 : decode cX5_rank 146 = .ok (.isub, 1) := by decide +kernel
theorem dX5_rank_147 : decode cX5_rank 147 = .ok (.iastore, 1) := by decide +kernel
theorem dX5_rank_148 : decode cX5_rank 148 = .ok (.return_, 1) := by decide +kernel
theorem dX5_rankAll_0 : decode cX5_rankAll 0 = .ok (.iconst 0, 1) := by decide +kernel
theorem dX5_rankAll_1 : decode cX5_rankAll 1 = .ok (.istore_n 3, 1) := by decide +kernel
theorem dX5_rankAll_2 : decode cX5_rankAll 2 = .ok (.iload_n 3, 1) := by decide +kernel
theorem dX5_rankAll_3 : decode cX5_rankAll 3 = .ok (.aload_n 1, 1) := by decide +kernel
theorem dX5_rankAll_4 : decode cX5_rankAll 4 = .ok (.invokevirtual 50, 3) := by decide +kernel
theorem dX5_rankAll_7 : decode cX5_rankAll 7 = .ok (.if_icmp .ge 20, 3) := by decide +kernel
theorem dX5_rankAll_10 : decode cX5_rankAll 10 = .ok (.aload_n 0, 1) := by decide +kernel
theorem dX5_rankAll_11 : decode cX5_rankAll 11 = .ok (.aload_n 1, 1) := by decide +kernel
theorem dX5_rankAll_12 : decode cX5_rankAll 12 = .ok (.iload_n 3, 1) := by decide +kernel
theorem dX5_rankAll_13 : decode cX5_rankAll 13 = .ok (.iload_n 2, 1) := by decide +kernel
theorem dX5_rankAll_14 : decode cX5_rankAll 14 = .ok (.aload_n 1, 1) := by decide +kernel
theorem dX5_rankAll_15 : decode cX5_rankAll 15 = .ok (.invokevirtual 54, 3) := by decide +kernel
theorem dX5_rankAll_18 : decode cX5_rankAll 18 = .ok (.invokevirtual 57, 3) := by decide +kernel
theorem dX5_rankAll_21 : decode cX5_rankAll 21 = .ok (.iinc 3 1, 3) := by decide +kernel
theorem dX5_rankAll_24 : decode cX5_rankAll 24 = .ok (.goto (-22), 3) := by decide +kernel
theorem dX5_rankAll_27 : decode cX5_rankAll 27 = .ok (.return_, 1) := by decide +kernel
theorem dX5_settle_0 : decode cX5_settle 0 = .ok (.aload_n 0, 1) := by decide +kernel
theorem dX5_settle_1 : decode cX5_settle 1 = .ok (.iconst 0, 1) := by decide +kernel
theorem dX5_settle_2 : decode cX5_settle 2 = .ok (.putfield 33, 3) := by decide +kernel
theorem dX5_settle_5 : decode cX5_settle 5 = .ok (.aload_n 0, 1) := by decide +kernel
theorem dX5_settle_6 : decode cX5_settle 6 = .ok (.getfield 18, 3) := by decide +kernel
theorem dX5_settle_9 : decode cX5_settle 9 = .ok (.iconst (-1), 1) := by decide +kernel
theorem dX5_settle_10 : decode cX5_settle 10 = .ok (.invokestatic 61, 3) := by decide +kernel
theorem dX5_settle_13 : decode cX5_settle 13 = .ok (.iconst 0, 1) := by decide +kernel
theorem dX5_settle_14 : decode cX5_settle 14 = .ok (.istore 4, 2) := by decide +kernel
theorem dX5_settle_16 : decode cX5_settle 16 = .ok (.iload 4, 2) := by decide +kernel
theorem dX5_settle_18 : decode cX5_settle 18 = .ok (.aload_n 0, 1) := by decide +kernel
theorem dX5_settle_19 : decode cX5_settle 19 = .ok (.getfield 15, 3) := by decide +kernel
theorem dX5_settle_22 : decode cX5_settle 22 = .ok (.iload_n 3, 1) := by decide +kernel
theorem dX5_settle_23 : decode cX5_settle 23 = .ok (.iaload, 1) := by decide +kernel
theorem dX5_settle_24 : decode cX5_settle 24 = .ok (.if_icmp .ge 77, 3) := by decide +kernel
theorem dX5_settle_27 : decode cX5_settle 27 = .ok (.aload_n 0, 1) := by decide +kernel
theorem dX5_settle_28 : decode cX5_settle 28 = .ok (.iload_n 3, 1) := by decide +kernel
theorem dX5_settle_29 : decode cX5_settle 29 = .ok (.iload 4, 2) := by decide +kernel
theorem dX5_settle_31 : decode cX5_settle 31 = .ok (.invokevirtual 67, 3) := by decide +kernel
theorem dX5_settle_34 : decode cX5_settle 34 = .ok (.istore 5, 2) := by decide +kernel
theorem dX5_settle_36 : decode cX5_settle 36 = .ok (.aload_n 2, 1) := by decide +kernel
theorem dX5_settle_37 : decode cX5_settle 37 = .ok (.getfield 71, 3) := by decide +kernel
theorem dX5_settle_40 : decode cX5_settle 40 = .ok (.iload 5, 2) := by decide +kernel
theorem dX5_settle_42 : decode cX5_settle 42 = .ok (.iaload, 1) := by decide +kernel
theorem dX5_settle_43 : decode cX5_settle 43 = .ok (.aload_n 1, 1) := by decide +kernel
theorem dX5_settle_44 : decode cX5_settle 44 = .ok (.getfield 76, 3) := by decide +kernel
theorem dX5_settle_47 : decode cX5_settle 47 = .ok (.iload 5, 2) := by decide +kernel
theorem dX5_settle_49 : decode cX5_settle 49 = .ok (.iaload, 1) := by decide +kernel
theorem dX5_settle_50 : decode cX5_settle 50 = .ok (.iconst (-1), 1) := by decide +kernel
theorem dX5_settle_51 : decode cX5_settle 51 = .ok (.ixor, 1) := by decide +kernel
theorem dX5_settle_52 : decode cX5_settle 52 = .ok (.iand, 1) := by decide +kernel
theorem dX5_settle_53 : decode cX5_settle 53 = .ok (.aload_n 0, 1) := by decide +kernel
theorem dX5_settle_54 : decode cX5_settle 54 = .ok (.getfield 33, 3) := by decide +kernel
theorem dX5_settle_57 : decode cX5_settle 57 = .ok (.iand, 1) := by decide +kernel
theorem dX5_settle_58 : decode cX5_settle 58 = .ok (.istore 6, 2) := by decide +kernel
theorem dX5_settle_60 : decode cX5_settle 60 = .ok (.iload 6, 2) := by decide +kernel
theorem dX5_settle_62 : decode cX5_settle 62 = .ok (.ifCond .ne 19, 3) := by decide +kernel
theorem dX5_settle_65 : decode cX5_settle 65 = .ok (.aload_n 0, 1) := by decide +kernel
theorem dX5_settle_66 : decode cX5_settle 66 = .ok (.dup, 1) := by decide +kernel
theorem dX5_settle_67 : decode cX5_settle 67 = .ok (.getfield 33, 3) := by decide +kernel
theorem dX5_settle_70 : decode cX5_settle 70 = .ok (.iconst 1, 1) := by decide +kernel
theorem dX5_settle_71 : decode cX5_settle 71 = .ok (.iload 5, 2) := by decide +kernel
theorem dX5_settle_73 : decode cX5_settle 73 = .ok (.ishl, 1) := by decide +kernel
theorem dX5_settle_74 : decode cX5_settle 74 = .ok (.ior, 1) := by decide +kernel
theorem dX5_settle_75 : decode cX5_settle 75 = .ok (.putfield 33, 3) := by decide +kernel
theorem dX5_settle_78 : decode cX5_settle 78 = .ok (.goto 17, 3) := by decide +kernel
theorem dX5_settle_81 : decode cX5_settle 81 = .ok (.aload_n 0, 1) := by decide +kernel
theorem dX5_settle_82 : decode cX5_settle 82 = .ok (.getfield 18, 3) := by decide +kernel
theorem dX5_settle_85 : decode cX5_settle 85 = .ok (.iload 5, 2) := by decide +kernel
theorem dX5_settle_87 : decode cX5_settle 87 = .ok (.aload_n 0, 1) := by decide +kernel
theorem dX5_settle_88 : decode cX5_settle 88 = .ok (.iload_n 3, 1) := by decide +kernel
theorem dX5_settle_89 : decode cX5_settle 89 = .ok (.iload 6, 2) := by decide +kernel
theorem dX5_settle_91 : decode cX5_settle 91 = .ok (.invokevirtual 79, 3) := by decide +kernel
theorem dX5_settle_94 : decode cX5_settle 94 = .ok (.iastore, 1) := by decide +kernel
theorem dX5_settle_95 : decode cX5_settle 95 = .ok (.iinc 4 1, 3) := by decide +kernel
theorem dX5_settle_98 : decode cX5_settle 98 = .ok (.goto (-82), 3) := by decide +kernel
theorem dX5_settle_101 : decode cX5_settle 101 = .ok (.return_, 1) := by decide +kernel
theorem dX5_mostSenior_0 : decode cX5_mostSenior 0 = .ok (.iconst 0, 1) := by decide +kernel
theorem dX5_mostSenior_1 : decode cX5_mostSenior 1 = .ok (.istore_n 3, 1) := by decide +kernel
theorem dX5_mostSenior_2 : decode cX5_mostSenior 2 = .ok (.iload_n 3, 1) := by decide +kernel
theorem dX5_mostSenior_3 : decode cX5_mostSenior 3 = .ok (.aload_n 0, 1) := by decide +kernel
theorem dX5_mostSenior_4 : decode cX5_mostSenior 4 = .ok (.getfield 15, 3) := by decide +kernel
theorem dX5_mostSenior_7 : decode cX5_mostSenior 7 = .ok (.iload_n 1, 1) := by decide +kernel
theorem dX5_mostSenior_8 : decode cX5_mostSenior 8 = .ok (.iaload, 1) := by decide +kernel
theorem dX5_mostSenior_9 : decode cX5_mostSenior 9 = .ok (.if_icmp .ge 29, 3) := by decide +kernel
theorem dX5_mostSenior_12 : decode cX5_mostSenior 12 = .ok (.aload_n 0, 1) := by decide +kernel
theorem dX5_mostSenior_13 : decode cX5_mostSenior 13 = .ok (.iload_n 1, 1) := by decide +kernel
theorem dX5_mostSenior_14 : decode cX5_mostSenior 14 = .ok (.iload_n 3, 1) := by decide +kernel
theorem dX5_mostSenior_15 : decode cX5_mostSenior 15 = .ok (.invokevirtual 67, 3) := by decide +kernel
theorem dX5_mostSenior_18 : decode cX5_mostSenior 18 = .ok (.iload_n 2, 1) := by decide +kernel
theorem dX5_mostSenior_19 : decode cX5_mostSenior 19 = .ok (.invokestatic 42, 3) := by decide +kernel
theorem dX5_mostSenior_22 : decode cX5_mostSenior 22 = .ok (.ifCond .eq 10, 3) := by decide +kernel
theorem dX5_mostSenior_25 : decode cX5_mostSenior 25 = .ok (.aload_n 0, 1) := by decide +kernel
theorem dX5_mostSenior_26 : decode cX5_mostSenior 26 = .ok (.iload_n 1, 1) := by decide +kernel
theorem dX5_mostSenior_27 : decode cX5_mostSenior 27 = .ok (.iload_n 3, 1) := by decide +kernel
theorem dX5_mostSenior_28 : decode cX5_mostSenior 28 = .ok (.invokevirtual 67, 3) := by decide +kernel
theorem dX5_mostSenior_31 : decode cX5_mostSenior 31 = .ok (.ireturn, 1) := by decide +kernel
theorem dX5_mostSenior_32 : decode cX5_mostSenior 32 = .ok (.iinc 3 1, 3) := by decide +kernel
theorem dX5_mostSenior_35 : decode cX5_mostSenior 35 = .ok (.goto (-33), 3) := by decide +kernel
theorem dX5_mostSenior_38 : decode cX5_mostSenior 38 = .ok (.iconst (-1), 1) := by decide +kernel
theorem dX5_mostSenior_39 : decode cX5_mostSenior 39 = .ok (.ireturn, 1) := by decide +kernel
theorem dX5_settleAll_0 : decode cX5_settleAll 0 = .ok (.iconst 0, 1) := by decide +kernel
theorem dX5_settleAll_1 : decode cX5_settleAll 1 = .ok (.istore 5, 2) := by decide +kernel
theorem dX5_settleAll_3 : decode cX5_settleAll 3 = .ok (.iload 5, 2) := by decide +kernel
theorem dX5_settleAll_5 : decode cX5_settleAll 5 = .ok (.aload_n 1, 1) := by decide +kernel
theorem dX5_settleAll_6 : decode cX5_settleAll 6 = .ok (.getfield 37, 3) := by decide +kernel
theorem dX5_settleAll_9 : decode cX5_settleAll 9 = .ok (.if_icmp .ge 33, 3) := by decide +kernel
theorem dX5_settleAll_12 : decode cX5_settleAll 12 = .ok (.aload_n 0, 1) := by decide +kernel
theorem dX5_settleAll_13 : decode cX5_settleAll 13 = .ok (.getfield 21, 3) := by decide +kernel
theorem dX5_settleAll_16 : decode cX5_settleAll 16 = .ok (.iload 5, 2) := by decide +kernel
theorem dX5_settleAll_18 : decode cX5_settleAll 18 = .ok (.iconst 0, 1) := by decide +kernel
theorem dX5_settleAll_19 : decode cX5_settleAll 19 = .ok (.iastore, 1) := by decide +kernel
theorem dX5_settleAll_20 : decode cX5_settleAll 20 = .ok (.aload_n 0, 1) := by decide +kernel
theorem dX5_settleAll_21 : decode cX5_settleAll 21 = .ok (.getfield 24, 3) := by decide +kernel
theorem dX5_settleAll_24 : decode cX5_settleAll 24 = .ok (.iload 5, 2) := by decide +kernel
theorem dX5_settleAll_26 : decode cX5_settleAll 26 = .ok (.iconst 0, 1) := by decide +kernel
theorem dX5_settleAll_27 : decode cX5_settleAll 27 = .ok (.iastore, 1) := by decide +kernel
theorem dX5_settleAll_28 : decode cX5_settleAll 28 = .ok (.aload_n 0, 1) := by decide +kernel
theorem dX5_settleAll_29 : decode cX5_settleAll 29 = .ok (.getfield 27, 3) := by decide +kernel
theorem dX5_settleAll_32 : decode cX5_settleAll 32 = .ok (.iload 5, 2) := by decide +kernel
theorem dX5_settleAll_34 : decode cX5_settleAll 34 = .ok (.iconst (-1), 1) := by decide +kernel
theorem dX5_settleAll_35 : decode cX5_settleAll 35 = .ok (.iastore, 1) := by decide +kernel
theorem dX5_settleAll_36 : decode cX5_settleAll 36 = .ok (.iinc 5 1, 3) := by decide +kernel
theorem dX5_settleAll_39 : decode cX5_settleAll 39 = .ok (.goto (-36), 3) := by decide +kernel
theorem dX5_settleAll_42 : decode cX5_settleAll 42 = .ok (.iconst 0, 1) := by decide +kernel
theorem dX5_settleAll_43 : decode cX5_settleAll 43 = .ok (.istore 5, 2) := by decide +kernel
theorem dX5_settleAll_45 : decode cX5_settleAll 45 = .ok (.iload 5, 2) := by decide +kernel
theorem dX5_settleAll_47 : decode cX5_settleAll 47 = .ok (.aload_n 1, 1) := by decide +kernel
theorem dX5_settleAll_48 : decode cX5_settleAll 48 = .ok (.invokevirtual 50, 3) := by decide +kernel
theorem dX5_settleAll_51 : decode cX5_settleAll 51 = .ok (.if_icmp .ge 62, 3) := by decide +kernel
theorem dX5_settleAll_54 : decode cX5_settleAll 54 = .ok (.aload_n 0, 1) := by decide +kernel
theorem dX5_settleAll_55 : decode cX5_settleAll 55 = .ok (.aload_n 1, 1) := by decide +kernel
theorem dX5_settleAll_56 : decode cX5_settleAll 56 = .ok (.iload 5, 2) := by decide +kernel
theorem dX5_settleAll_58 : decode cX5_settleAll 58 = .ok (.iload_n 3, 1) := by decide +kernel
theorem dX5_settleAll_59 : decode cX5_settleAll 59 = .ok (.iload 4, 2) := by decide +kernel
theorem dX5_settleAll_61 : decode cX5_settleAll 61 = .ok (.invokevirtual 57, 3) := by decide +kernel
theorem dX5_settleAll_64 : decode cX5_settleAll 64 = .ok (.aload_n 0, 1) := by decide +kernel
theorem dX5_settleAll_65 : decode cX5_settleAll 65 = .ok (.aload_n 1, 1) := by decide +kernel
theorem dX5_settleAll_66 : decode cX5_settleAll 66 = .ok (.aload_n 2, 1) := by decide +kernel
theorem dX5_settleAll_67 : decode cX5_settleAll 67 = .ok (.iload 5, 2) := by decide +kernel
theorem dX5_settleAll_69 : decode cX5_settleAll 69 = .ok (.invokevirtual 82, 3) := by decide +kernel
theorem dX5_settleAll_72 : decode cX5_settleAll 72 = .ok (.iconst 0, 1) := by decide +kernel
theorem dX5_settleAll_73 : decode cX5_settleAll 73 = .ok (.istore 6, 2) := by decide +kernel
theorem dX5_settleAll_75 : decode cX5_settleAll 75 = .ok (.iload 6, 2) := by decide +kernel
theorem dX5_settleAll_77 : decode cX5_settleAll 77 = .ok (.aload_n 0, 1) := by decide +kernel
theorem dX5_settleAll_78 : decode cX5_settleAll 78 = .ok (.getfield 15, 3) := by decide +kernel
theorem dX5_settleAll_81 : decode cX5_settleAll 81 = .ok (.iload 5, 2) := by decide +kernel
theorem dX5_settleAll_83 : decode cX5_settleAll 83 = .ok (.iaload, 1) := by decide +kernel
theorem dX5_settleAll_84 : decode cX5_settleAll 84 = .ok (.if_icmp .ge 23, 3) := by decide +kernel
theorem dX5_settleAll_87 : decode cX5_settleAll 87 = .ok (.aload_n 0, 1) := by decide +kernel
theorem dX5_settleAll_88 : decode cX5_settleAll 88 = .ok (.aload_n 0, 1) := by decide +kernel
theorem dX5_settleAll_89 : decode cX5_settleAll 89 = .ok (.iload 5, 2) := by decide +kernel
theorem dX5_settleAll_91 : decode cX5_settleAll 91 = .ok (.iload 6, 2) := by decide +kernel
theorem dX5_settleAll_93 : decode cX5_settleAll 93 = .ok (.invokevirtual 67, 3) := by decide +kernel
theorem dX5_settleAll_96 : decode cX5_settleAll 96 = .ok (.iload 5, 2) := by decide +kernel
theorem dX5_settleAll_98 : decode cX5_settleAll 98 = .ok (.invokevirtual 86, 3) := by decide +kernel
theorem dX5_settleAll_101 : decode cX5_settleAll 101 = .ok (.iinc 6 1, 3) := by decide +kernel
theorem dX5_settleAll_104 : decode cX5_settleAll 104 = .ok (.goto (-29), 3) := by decide +kernel
theorem dX5_settleAll_107 : decode cX5_settleAll 107 = .ok (.iinc 5 1, 3) := by decide +kernel
theorem dX5_settleAll_110 : decode cX5_settleAll 110 = .ok (.goto (-65), 3) := by decide +kernel
theorem dX5_settleAll_113 : decode cX5_settleAll 113 = .ok (.return_, 1) := by decide +kernel
theorem dX5_noteHalf_0 : decode cX5_noteHalf 0 = .ok (.aload_n 0, 1) := by decide +kernel
theorem dX5_noteHalf_1 : decode cX5_noteHalf 1 = .ok (.getfield 21, 3) := by decide +kernel
theorem dX5_noteHalf_4 : decode cX5_noteHalf 4 = .ok (.iload_n 1, 1) := by decide +kernel
theorem dX5_noteHalf_5 : decode cX5_noteHalf 5 = .ok (.dup2, 1) := by decide +kernel
theorem dX5_noteHalf_6 : decode cX5_noteHalf 6 = .ok (.iaload, 1) := by decide +kernel
theorem dX5_noteHalf_7 : decode cX5_noteHalf 7 = .ok (.iconst 1, 1) := by decide +kernel
theorem dX5_noteHalf_8 : decode cX5_noteHalf 8 = .ok (.iload_n 2, 1) := by decide +kernel
theorem dX5_noteHalf_9 : decode cX5_noteHalf 9 = .ok (.ishl, 1) := by decide +kernel
theorem dX5_noteHalf_10 : decode cX5_noteHalf 10 = .ok (.ior, 1) := by decide +kernel
theorem dX5_noteHalf_11 : decode cX5_noteHalf 11 = .ok (.iastore, 1) := by decide +kernel
theorem dX5_noteHalf_12 : decode cX5_noteHalf 12 = .ok (.iload_n 1, 1) := by decide +kernel
theorem dX5_noteHalf_13 : decode cX5_noteHalf 13 = .ok (.aload_n 0, 1) := by decide +kernel
theorem dX5_noteHalf_14 : decode cX5_noteHalf 14 = .ok (.getfield 33, 3) := by decide +kernel
theorem dX5_noteHalf_17 : decode cX5_noteHalf 17 = .ok (.invokestatic 42, 3) := by decide +kernel
theorem dX5_noteHalf_20 : decode cX5_noteHalf 20 = .ok (.ifCond .eq 18, 3) := by decide +kernel
theorem dX5_noteHalf_23 : decode cX5_noteHalf 23 = .ok (.aload_n 0, 1) := by decide +kernel
theorem dX5_noteHalf_24 : decode cX5_noteHalf 24 = .ok (.getfield 24, 3) := by decide +kernel
theorem dX5_noteHalf_27 : decode cX5_noteHalf 27 = .ok (.iload_n 1, 1) := by decide +kernel
theorem dX5_noteHalf_28 : decode cX5_noteHalf 28 = .ok (.dup2, 1) := by decide +kernel
theorem dX5_noteHalf_29 : decode cX5_noteHalf 29 = .ok (.iaload, 1) := by decide +kernel
theorem dX5_noteHalf_30 : decode cX5_noteHalf 30 = .ok (.iconst 1, 1) := by decide +kernel
theorem dX5_noteHalf_31 : decode cX5_noteHalf 31 = .ok (.iload_n 2, 1) := by decide +kernel
theorem dX5_noteHalf_32 : decode cX5_noteHalf 32 = .ok (.ishl, 1) := by decide +kernel
theorem dX5_noteHalf_33 : decode cX5_noteHalf 33 = .ok (.ior, 1) := by decide +kernel
theorem dX5_noteHalf_34 : decode cX5_noteHalf 34 = .ok (.iastore, 1) := by decide +kernel
theorem dX5_noteHalf_35 : decode cX5_noteHalf 35 = .ok (.goto 40, 3) := by decide +kernel
theorem dX5_noteHalf_38 : decode cX5_noteHalf 38 = .ok (.aload_n 0, 1) := by decide +kernel
theorem dX5_noteHalf_39 : decode cX5_noteHalf 39 = .ok (.getfield 27, 3) := by decide +kernel
theorem dX5_noteHalf_42 : decode cX5_noteHalf 42 = .ok (.iload_n 1, 1) := by decide +kernel
theorem dX5_noteHalf_43 : decode cX5_noteHalf 43 = .ok (.iaload, 1) := by decide +kernel
theorem dX5_noteHalf_44 : decode cX5_noteHalf 44 = .ok (.iconst (-1), 1) := by decide +kernel
theorem dX5_noteHalf_45 : decode cX5_noteHalf 45 = .ok (.if_icmp .eq 18, 3) := by decide +kernel
theorem dX5_noteHalf_48 : decode cX5_noteHalf 48 = .ok (.aload_n 0, 1) := by decide +kernel
theorem dX5_noteHalf_49 : decode cX5_noteHalf 49 = .ok (.getfield 18, 3) := by decide +kernel
theorem dX5_noteHalf_52 : decode cX5_noteHalf 52 = .ok (.iload_n 1, 1) := by decide +kernel
theorem dX5_noteHalf_53 : decode cX5_noteHalf 53 = .ok (.iaload, 1) := by decide +kernel
theorem dX5_noteHalf_54 : decode cX5_noteHalf 54 = .ok (.aload_n 0, 1) := by decide +kernel
theorem dX5_noteHalf_55 : decode cX5_noteHalf 55 = .ok (.getfield 27, 3) := by decide +kernel
theorem dX5_noteHalf_58 : decode cX5_noteHalf 58 = .ok (.iload_n 1, 1) := by decide +kernel
theorem dX5_noteHalf_59 : decode cX5_noteHalf 59 = .ok (.iaload, 1) := by decide +kernel
theorem dX5_noteHalf_60 : decode cX5_noteHalf 60 = .ok (.if_icmp .ge 15, 3) := by decide +kernel
theorem dX5_noteHalf_63 : decode cX5_noteHalf 63 = .ok (.aload_n 0, 1) := by decide +kernel
theorem dX5_noteHalf_64 : decode cX5_noteHalf 64 = .ok (.getfield 27, 3) := by decide +kernel
theorem dX5_noteHalf_67 : decode cX5_noteHalf 67 = .ok (.iload_n 1, 1) := by decide +kernel
theorem dX5_noteHalf_68 : decode cX5_noteHalf 68 = .ok (.aload_n 0, 1) := by decide +kernel
theorem dX5_noteHalf_69 : decode cX5_noteHalf 69 = .ok (.getfield 18, 3) := by decide +kernel
theorem dX5_noteHalf_72 : decode cX5_noteHalf 72 = .ok (.iload_n 1, 1) := by decide +kernel
theorem dX5_noteHalf_73 : decode cX5_noteHalf 73 = .ok (.iaload, 1) := by decide +kernel
theorem dX5_noteHalf_74 : decode cX5_noteHalf 74 = .ok (.iastore, 1) := by decide +kernel
theorem dX5_noteHalf_75 : decode cX5_noteHalf 75 = .ok (.return_, 1) := by decide +kernel
theorem dX5_refusedHalves_0 : decode cX5_refusedHalves 0 = .ok (.aload_n 0, 1) := by decide +kernel
theorem dX5_refusedHalves_1 : decode cX5_refusedHalves 1 = .ok (.getfield 21, 3) := by decide +kernel
theorem dX5_refusedHalves_4 : decode cX5_refusedHalves 4 = .ok (.iload_n 1, 1) := by decide +kernel
theorem dX5_refusedHalves_5 : decode cX5_refusedHalves 5 = .ok (.iaload, 1) := by decide +kernel
theorem dX5_refusedHalves_6 : decode cX5_refusedHalves 6 = .ok (.aload_n 0, 1) := by decide +kernel
theorem dX5_refusedHalves_7 : decode cX5_refusedHalves 7 = .ok (.getfield 24, 3) := by decide +kernel
theorem dX5_refusedHalves_10 : decode cX5_refusedHalves 10 = .ok (.iload_n 1, 1) := by decide +kernel
theorem dX5_refusedHalves_11 : decode cX5_refusedHalves 11 = .ok (.iaload, 1) := by decide +kernel
theorem dX5_refusedHalves_12 : decode cX5_refusedHalves 12 = .ok (.iconst (-1), 1) := by decide +kernel
theorem dX5_refusedHalves_13 : decode cX5_refusedHalves 13 = .ok (.ixor, 1) := by decide +kernel
theorem dX5_refusedHalves_14 : decode cX5_refusedHalves 14 = .ok (.iand, 1) := by decide +kernel
theorem dX5_refusedHalves_15 : decode cX5_refusedHalves 15 = .ok (.ireturn, 1) := by decide +kernel
theorem dX6_init_0 : decode cX6_init 0 = .ok (.aload_n 0, 1) := by decide +kernel
theorem dX6_init_1 : decode cX6_init 1 = .ok (.invokespecial 3, 3) := by decide +kernel
theorem dX6_init_4 : decode cX6_init 4 = .ok (.aload_n 0, 1) := by decide +kernel
theorem dX6_init_5 : decode cX6_init 5 = .ok (.sipush 700, 3) := by decide +kernel
theorem dX6_init_8 : decode cX6_init 8 = .ok (.newarray .byte, 2) := by decide +kernel
theorem dX6_init_10 : decode cX6_init 10 = .ok (.putfield 9, 3) := by decide +kernel
theorem dX6_init_13 : decode cX6_init 13 = .ok (.aload_n 0, 1) := by decide +kernel
theorem dX6_init_14 : decode cX6_init 14 = .ok (.iconst 0, 1) := by decide +kernel
theorem dX6_init_15 : decode cX6_init 15 = .ok (.putfield 15, 3) := by decide +kernel
theorem dX6_init_18 : decode cX6_init 18 = .ok (.aload_n 0, 1) := by decide +kernel
theorem dX6_init_19 : decode cX6_init 19 = .ok (.iconst 0, 1) := by decide +kernel
theorem dX6_init_20 : decode cX6_init 20 = .ok (.putfield 19, 3) := by decide +kernel
theorem dX6_init_23 : decode cX6_init 23 = .ok (.aload_n 0, 1) := by decide +kernel
theorem dX6_init_24 : decode cX6_init 24 = .ok (.iconst 0, 1) := by decide +kernel
theorem dX6_init_25 : decode cX6_init 25 = .ok (.putfield 22, 3) := by decide +kernel
theorem dX6_init_28 : decode cX6_init 28 = .ok (.aload_n 0, 1) := by decide +kernel
theorem dX6_init_29 : decode cX6_init 29 = .ok (.iconst 0, 1) := by decide +kernel
theorem dX6_init_30 : decode cX6_init 30 = .ok (.putfield 25, 3) := by decide +kernel
theorem dX6_init_33 : decode cX6_init 33 = .ok (.aload_n 0, 1) := by decide +kernel
theorem dX6_init_34 : decode cX6_init 34 = .ok (.iconst 0, 1) := by decide +kernel
theorem dX6_init_35 : decode cX6_init 35 = .ok (.putfield 28, 3) := by decide +kernel
theorem dX6_init_38 : decode cX6_init 38 = .ok (.aload_n 0, 1) := by decide +kernel
theorem dX6_init_39 : decode cX6_init 39 = .ok (.iconst 0, 1) := by decide +kernel
theorem dX6_init_40 : decode cX6_init 40 = .ok (.putfield 31, 3) := by decide +kernel
theorem dX6_init_43 : decode cX6_init 43 = .ok (.return_, 1) := by decide +kernel
theorem dX6_append_0 : decode cX6_append 0 = .ok (.bipush 24, 2) := by decide +kernel
theorem dX6_append_2 : decode cX6_append 2 = .ok (.istore_n 2, 1) := by decide +kernel
theorem dX6_append_3 : decode cX6_append 3 = .ok (.iload_n 2, 1) := by decide +kernel
theorem dX6_append_4 : decode cX6_append 4 = .ok (.ifCond .lt 42, 3) := by decide +kernel
theorem dX6_append_7 : decode cX6_append 7 = .ok (.aload_n 0, 1) := by decide +kernel
theorem dX6_append_8 : decode cX6_append 8 = .ok (.getfield 15, 3) := by decide +kernel
theorem dX6_append_11 : decode cX6_append 11 = .ok (.sipush 700, 3) := by decide +kernel
theorem dX6_append_14 : decode cX6_append 14 = .ok (.if_icmp .ge 32, 3) := by decide +kernel
theorem dX6_append_17 : decode cX6_append 17 = .ok (.aload_n 0, 1) := by decide +kernel
theorem dX6_append_18 : decode cX6_append 18 = .ok (.getfield 9, 3) := by decide +kernel
theorem dX6_append_21 : decode cX6_append 21 = .ok (.aload_n 0, 1) := by decide +kernel
theorem dX6_append_22 : decode cX6_append 22 = .ok (.getfield 15, 3) := by decide +kernel
theorem dX6_append_25 : decode cX6_append 25 = .ok (.iload_n 1, 1) := by decide +kernel
theorem dX6_append_26 : decode cX6_append 26 = .ok (.iload_n 2, 1) := by decide +kernel
theorem dX6_append_27 : decode cX6_append 27 = .ok (.ishr, 1) := by decide +kernel
theorem dX6_append_28 : decode cX6_append 28 = .ok (.i2b, 1) := by decide +kernel
theorem dX6_append_29 : decode cX6_append 29 = .ok (.bastore, 1) := by decide +kernel
theorem dX6_append_30 : decode cX6_append 30 = .ok (.aload_n 0, 1) := by decide +kernel
theorem dX6_append_31 : decode cX6_append 31 = .ok (.dup, 1) := by decide +kernel
theorem dX6_append_32 : decode cX6_append 32 = .ok (.getfield 15, 3) := by decide +kernel
theorem dX6_append_35 : decode cX6_append 35 = .ok (.iconst 1, 1) := by decide +kernel
theorem dX6_append_36 : decode cX6_append 36 = .ok (.iadd, 1) := by decide +kernel
theorem dX6_append_37 : decode cX6_append 37 = .ok (.putfield 15, 3) := by decide +kernel
theorem dX6_append_40 : decode cX6_append 40 = .ok (.iinc 2 (-8), 3) := by decide +kernel
theorem dX6_append_43 : decode cX6_append 43 = .ok (.goto (-40), 3) := by decide +kernel
theorem dX6_append_46 : decode cX6_append 46 = .ok (.return_, 1) := by decide +kernel
theorem dX6_takeText_0 : decode cX6_takeText 0 = .ok (.aload_n 0, 1) := by decide +kernel
theorem dX6_takeText_1 : decode cX6_takeText 1 = .ok (.iconst 0, 1) := by decide +kernel
theorem dX6_takeText_2 : decode cX6_takeText 2 = .ok (.putfield 15, 3) := by decide +kernel
theorem dX6_takeText_5 : decode cX6_takeText 5 = .ok (.aload_n 0, 1) := by decide +kernel
theorem dX6_takeText_6 : decode cX6_takeText 6 = .ok (.iload_n 1, 1) := by decide +kernel
theorem dX6_takeText_7 : decode cX6_takeText 7 = .ok (.putfield 31, 3) := by decide +kernel
theorem dX6_takeText_10 : decode cX6_takeText 10 = .ok (.aload_n 0, 1) := by decide +kernel
theorem dX6_takeText_11 : decode cX6_takeText 11 = .ok (.iconst 0, 1) := by decide +kernel
theorem dX6_takeText_12 : decode cX6_takeText 12 = .ok (.putfield 28, 3) := by decide +kernel
theorem dX6_takeText_15 : decode cX6_takeText 15 = .ok (.aload_n 0, 1) := by decide +kernel
theorem dX6_takeText_16 : decode cX6_takeText 16 = .ok (.invokevirtual 34, 3) := by decide +kernel
theorem dX6_takeText_19 : decode cX6_takeText 19 = .ok (.return_, 1) := by decide +kernel
theorem dX6_takeName_0 : decode cX6_takeName 0 = .ok (.aload_n 0, 1) := by decide +kernel
theorem dX6_takeName_1 : decode cX6_takeName 1 = .ok (.iconst 0, 1) := by decide +kernel
theorem dX6_takeName_2 : decode cX6_takeName 2 = .ok (.putfield 15, 3) := by decide +kernel
theorem dX6_takeName_5 : decode cX6_takeName 5 = .ok (.iload_n 1, 1) := by decide +kernel
theorem dX6_takeName_6 : decode cX6_takeName 6 = .ok (.iconst 1, 1) := by decide +kernel
theorem dX6_takeName_7 : decode cX6_takeName 7 = .ok (.if_icmp .lt 9, 3) := by decide +kernel
theorem dX6_takeName_10 : decode cX6_takeName 10 = .ok (.iload_n 1, 1) := by decide +kernel
theorem dX6_takeName_11 : decode cX6_takeName 11 = .ok (.bipush 10, 2) := by decide +kernel
theorem dX6_takeName_13 : decode cX6_takeName 13 = .ok (.if_icmp .le 5, 3) := by decide +kernel
theorem dX6_takeName_16 : decode cX6_takeName 16 = .ok (.iconst 0, 1) := by decide +kernel
theorem dX6_takeName_17 : decode cX6_takeName 17 = .ok (.ireturn, 1) := by decide +kernel
theorem dX6_takeName_18 : decode cX6_takeName 18 = .ok (.iconst 0, 1) := by decide +kernel
theorem dX6_takeName_19 : decode cX6_takeName 19 = .ok (.istore_n 2, 1) := by decide +kernel
theorem dX6_takeName_20 : decode cX6_takeName 20 = .ok (.iload_n 2, 1) := by decide +kernel
theorem dX6_takeName_21 : decode cX6_takeName 21 = .ok (.iload_n 1, 1) := by decide +kernel
theorem dX6_takeName_22 : decode cX6_takeName 22 = .ok (.if_icmp .ge 23, 3) := by decide +kernel
theorem dX6_takeName_25 : decode cX6_takeName 25 = .ok (.aload_n 0, 1) := by decide +kernel
theorem dX6_takeName_26 : decode cX6_takeName 26 = .ok (.getfield 9, 3) := by decide +kernel
theorem dX6_takeName_29 : decode cX6_takeName 29 = .ok (.iload_n 2, 1) := by decide +kernel
theorem dX6_takeName_30 : decode cX6_takeName 30 = .ok (.baload, 1) := by decide +kernel
theorem dX6_takeName_31 : decode cX6_takeName 31 = .ok (.invokestatic 37, 3) := by decide +kernel
theorem dX6_takeName_34 : decode cX6_takeName 34 = .ok (.ifCond .ne 5, 3) := by decide +kernel
theorem dX6_takeName_37 : decode cX6_takeName 37 = .ok (.iconst 0, 1) := by decide +kernel
theorem dX6_takeName_38 : decode cX6_takeName 38 = .ok (.ireturn, 1) := by decide +kernel
theorem dX6_takeName_39 : decode cX6_takeName 39 = .ok (.iinc 2 1, 3) := by decide +kernel
theorem dX6_takeName_42 : decode cX6_takeName 42 = .ok (.goto (-22), 3) := by decide +kernel
theorem dX6_takeName_45 : decode cX6_takeName 45 = .ok (.iconst 1, 1) := by decide +kernel
theorem dX6_takeName_46 : decode cX6_takeName 46 = .ok (.ireturn, 1) := by decide +kernel
theorem dX6_advance_0 : decode cX6_advance 0 = .ok (.aload_n 0, 1) := by decide +kernel
theorem dX6_advance_1 : decode cX6_advance 1 = .ok (.aload_n 0, 1) := by decide +kernel
theorem dX6_advance_2 : decode cX6_advance 2 = .ok (.getfield 28, 3) := by decide +kernel
theorem dX6_advance_5 : decode cX6_advance 5 = .ok (.putfield 22, 3) := by decide +kernel
theorem dX6_advance_8 : decode cX6_advance 8 = .ok (.aload_n 0, 1) := by decide +kernel
theorem dX6_advance_9 : decode cX6_advance 9 = .ok (.getfield 22, 3) := by decide +kernel
theorem dX6_advance_12 : decode cX6_advance 12 = .ok (.aload_n 0, 1) := by decide +kernel
theorem dX6_advance_13 : decode cX6_advance 13 = .ok (.getfield 31, 3) := by decide +kernel
theorem dX6_advance_16 : decode cX6_advance 16 = .ok (.if_icmp .ge 31, 3) := by decide +kernel
theorem dX6_advance_19 : decode cX6_advance 19 = .ok (.aload_n 0, 1) := by decide +kernel
theorem dX6_advance_20 : decode cX6_advance 20 = .ok (.getfield 9, 3) := by decide +kernel
theorem dX6_advance_23 : decode cX6_advance 23 = .ok (.aload_n 0, 1) := by decide +kernel
theorem dX6_advance_24 : decode cX6_advance 24 = .ok (.getfield 22, 3) := by decide +kernel
theorem dX6_advance_27 : decode cX6_advance 27 = .ok (.baload, 1) := by decide +kernel
theorem dX6_advance_28 : decode cX6_advance 28 = .ok (.invokestatic 41, 3) := by decide +kernel
theorem dX6_advance_31 : decode cX6_advance 31 = .ok (.ifCond .eq 16, 3) := by decide +kernel
theorem dX6_advance_34 : decode cX6_advance 34 = .ok (.aload_n 0, 1) := by decide +kernel
theorem dX6_advance_35 : decode cX6_advance 35 = .ok (.dup, 1) := by decide +kernel
theorem dX6_advance_36 : decode cX6_advance 36 = .ok (.getfield 22, 3) := by decide +kernel
theorem dX6_advance_39 : decode cX6_advance 39 = .ok (.iconst 1, 1) := by decide +kernel
theorem dX6_advance_40 : decode cX6_advance 40 = .ok (.iadd, 1) := by decide +kernel
theorem dX6_advance_41 : decode cX6_advance 41 = .ok (.putfield 22, 3) := by decide +kernel
theorem dX6_advance_44 : decode cX6_advance 44 = .ok (.goto (-36), 3) := by decide +kernel
theorem dX6_advance_47 : decode cX6_advance 47 = .ok (.aload_n 0, 1) := by decide +kernel
theorem dX6_advance_48 : decode cX6_advance 48 = .ok (.aload_n 0, 1) := by decide +kernel
theorem dX6_advance_49 : decode cX6_advance 49 = .ok (.getfield 22, 3) := by decide +kernel
theorem dX6_advance_52 : decode cX6_advance 52 = .ok (.putfield 28, 3) := by decide +kernel
theorem dX6_advance_55 : decode cX6_advance 55 = .ok (.aload_n 0, 1) := by decide +kernel
theorem dX6_advance_56 : decode cX6_advance 56 = .ok (.iconst 0, 1) := by decide +kernel
theorem dX6_advance_57 : decode cX6_advance 57 = .ok (.putfield 25, 3) := by decide +kernel
theorem dX6_advance_60 : decode cX6_advance 60 = .ok (.aload_n 0, 1) := by decide +kernel
theorem dX6_advance_61 : decode cX6_advance 61 = .ok (.getfield 22, 3) := by decide +kernel
theorem dX6_advance_64 : decode cX6_advance 64 = .ok (.aload_n 0, 1) := by decide +kernel
theorem dX6_advance_65 : decode cX6_advance 65 = .ok (.getfield 31, 3) := by decide +kernel
theorem dX6_advance_68 : decode cX6_advance 68 = .ok (.if_icmp .lt 11, 3) := by decide +kernel
theorem dX6_advance_71 : decode cX6_advance 71 = .ok (.aload_n 0, 1) := by decide +kernel
theorem dX6_advance_72 : decode cX6_advance 72 = .ok (.iconst 0, 1) := by decide +kernel
theorem dX6_advance_73 : decode cX6_advance 73 = .ok (.putfield 19, 3) := by decide +kernel
theorem dX6_advance_76 : decode cX6_advance 76 = .ok (.goto 165, 3) := by decide +kernel
theorem dX6_advance_79 : decode cX6_advance 79 = .ok (.aload_n 0, 1) := by decide +kernel
theorem dX6_advance_80 : decode cX6_advance 80 = .ok (.getfield 9, 3) := by decide +kernel
theorem dX6_advance_83 : decode cX6_advance 83 = .ok (.aload_n 0, 1) := by decide +kernel
theorem dX6_advance_84 : decode cX6_advance 84 = .ok (.getfield 22, 3) := by decide +kernel
theorem dX6_advance_87 : decode cX6_advance 87 = .ok (.baload, 1) := by decide +kernel
theorem dX6_advance_88 : decode cX6_advance 88 = .ok (.invokestatic 37, 3) := by decide +kernel
theorem dX6_advance_91 : decode cX6_advance 91 = .ok (.ifCond .eq 47, 3) := by decide +kernel
theorem dX6_advance_94 : decode cX6_advance 94 = .ok (.aload_n 0, 1) := by decide +kernel
theorem dX6_advance_95 : decode cX6_advance 95 = .ok (.iconst 1, 1) := by decide +kernel
theorem dX6_advance_96 : decode cX6_advance 96 = .ok (.putfield 19, 3) := by decide +kernel
theorem dX6_advance_99 : decode cX6_advance 99 = .ok (.aload_n 0, 1) := by decide +kernel
theorem dX6_advance_100 : decode cX6_advance 100 = .ok (.getfield 28, 3) := by decide +kernel
theorem dX6_advance_103 : decode cX6_advance 103 = .ok (.aload_n 0, 1) := by decide +kernel
theorem dX6_advance_104 : decode cX6_advance 104 = .ok (.getfield 31, 3) := by decide +kernel
theorem dX6_advance_107 : decode cX6_advance 107 = .ok (.if_icmp .ge 134, 3) := by decide +kernel
theorem dX6_advance_110 : decode cX6_advance 110 = .ok (.aload_n 0, 1) := by decide +kernel
theorem dX6_advance_111 : decode cX6_advance 111 = .ok (.getfield 9, 3) := by decide +kernel
theorem dX6_advance_114 : decode cX6_advance 114 = .ok (.aload_n 0, 1) := by decide +kernel
theorem dX6_advance_115 : decode cX6_advance 115 = .ok (.getfield 28, 3) := by decide +kernel
theorem dX6_advance_118 : decode cX6_advance 118 = .ok (.baload, 1) := by decide +kernel
theorem dX6_advance_119 : decode cX6_advance 119 = .ok (.invokestatic 37, 3) := by decide +kernel
theorem dX6_advance_122 : decode cX6_advance 122 = .ok (.ifCond .eq 119, 3) := by decide +kernel
theorem dX6_advance_125 : decode cX6_advance 125 = .ok (.aload_n 0, 1) := by decide +kernel
theorem dX6_advance_126 : decode cX6_advance 126 = .ok (.dup, 1) := by decide +kernel
theorem dX6_advance_127 : decode cX6_advance 127 = .ok (.getfield 28, 3) := by decide +kernel
theorem dX6_advance_130 : decode cX6_advance 130 = .ok (.iconst 1, 1) := by decide +kernel
theorem dX6_advance_131 : decode cX6_advance 131 = .ok (.iadd, 1) := by decide +kernel
theorem dX6_advance_132 : decode cX6_advance 132 = .ok (.putfield 28, 3) := by decide +kernel
theorem dX6_advance_135 : decode cX6_advance 135 = .ok (.goto (-36), 3) := by decide +kernel
theorem dX6_advance_138 : decode cX6_advance 138 = .ok (.aload_n 0, 1) := by decide +kernel
theorem dX6_advance_139 : decode cX6_advance 139 = .ok (.getfield 9, 3) := by decide +kernel
theorem dX6_advance_142 : decode cX6_advance 142 = .ok (.aload_n 0, 1) := by decide +kernel
theorem dX6_advance_143 : decode cX6_advance 143 = .ok (.getfield 22, 3) := by decide +kernel
theorem dX6_advance_146 : decode cX6_advance 146 = .ok (.baload, 1) := by decide +kernel
theorem dX6_advance_147 : decode cX6_advance 147 = .ok (.invokestatic 44, 3) := by decide +kernel
theorem dX6_advance_150 : decode cX6_advance 150 = .ok (.ifCond .eq 76, 3) := by decide +kernel
theorem dX6_advance_153 : decode cX6_advance 153 = .ok (.aload_n 0, 1) := by decide +kernel
theorem dX6_advance_154 : decode cX6_advance 154 = .ok (.iconst 2, 1) := by decide +kernel
theorem dX6_advance_155 : decode cX6_advance 155 = .ok (.putfield 19, 3) := by decide +kernel
theorem dX6_advance_158 : decode cX6_advance 158 = .ok (.aload_n 0, 1) := by decide +kernel
theorem dX6_advance_159 : decode cX6_advance 159 = .ok (.getfield 28, 3) := by decide +kernel
theorem dX6_advance_162 : decode cX6_advance 162 = .ok (.aload_n 0, 1) := by decide +kernel
theorem dX6_advance_163 : decode cX6_advance 163 = .ok (.getfield 31, 3) := by decide +kernel
theorem dX6_advance_166 : decode cX6_advance 166 = .ok (.if_icmp .ge 75, 3) := by decide +kernel
theorem dX6_advance_169 : decode cX6_advance 169 = .ok (.aload_n 0, 1) := by decide +kernel
theorem dX6_advance_170 : decode cX6_advance 170 = .ok (.getfield 9, 3) := by decide +kernel
theorem dX6_advance_173 : decode cX6_advance 173 = .ok (.aload_n 0, 1) := by decide +kernel
theorem dX6_advance_174 : decode cX6_advance 174 = .ok (.getfield 28, 3) := by decide +kernel
theorem dX6_advance_177 : decode cX6_advance 177 = .ok (.baload, 1) := by decide +kernel
theorem dX6_advance_178 : decode cX6_advance 178 = .ok (.invokestatic 44, 3) := by decide +kernel
theorem dX6_advance_181 : decode cX6_advance 181 = .ok (.ifCond .eq 60, 3) := by decide +kernel
theorem dX6_advance_184 : decode cX6_advance 184 = .ok (.aload_n 0, 1) := by decide +kernel
theorem dX6_advance_185 : decode cX6_advance 185 = .ok (.ldc 47, 2) := by decide +kernel
theorem dX6_advance_187 : decode cX6_advance 187 = .ok (.bipush 10, 2) := by decide +kernel
theorem dX6_advance_189 : decode cX6_advance 189 = .ok (.aload_n 0, 1) := by decide +kernel
theorem dX6_advance_190 : decode cX6_advance 190 = .ok (.getfield 25, 3) := by decide +kernel
theorem dX6_advance_193 : decode cX6_advance 193 = .ok (.imul, 1) := by decide +kernel
theorem dX6_advance_194 : decode cX6_advance 194 = .ok (.aload_n 0, 1) := by decide +kernel
theorem dX6_advance_195 : decode cX6_advance 195 = .ok (.getfield 9, 3) := by decide +kernel
theorem dX6_advance_198 : decode cX6_advance 198 = .ok (.aload_n 0, 1) := by decide +kernel
theorem dX6_advance_199 : decode cX6_advance 199 = .ok (.getfield 28, 3) := by decide +kernel
theorem dX6_advance_202 : decode cX6_advance 202 = .ok (.baload, 1) := by decide +kernel
theorem dX6_advance_203 : decode cX6_advance 203 = .ok (.iadd, 1) := by decide +kernel
theorem dX6_advance_204 : decode cX6_advance 204 = .ok (.bipush 48, 2) := by decide +kernel
theorem dX6_advance_206 : decode cX6_advance 206 = .ok (.isub, 1) := by decide +kernel
theorem dX6_advance_207 : decode cX6_advance 207 = .ok (.invokestatic 48, 3) := by decide +kernel
theorem dX6_advance_210 : decode cX6_advance 210 = .ok (.putfield 25, 3) := by decide +kernel
theorem dX6_advance_213 : decode cX6_advance 213 = .ok (.aload_n 0, 1) := by decide +kernel
theorem dX6_advance_214 : decode cX6_advance 214 = .ok (.dup, 1) := by decide +kernel
theorem dX6_advance_215 : decode cX6_advance 215 = .ok (.getfield 28, 3) := by decide +kernel
theorem dX6_advance_218 : decode cX6_advance 218 = .ok (.iconst 1, 1) := by decide +kernel
theorem dX6_advance_219 : decode cX6_advance 219 = .ok (.iadd, 1) := by decide +kernel
theorem dX6_advance_220 : decode cX6_advance 220 = .ok (.putfield 28, 3) := by decide +kernel
theorem dX6_advance_223 : decode cX6_advance 223 = .ok (.goto (-65), 3) := by decide +kernel
theorem dX6_advance_226 : decode cX6_advance 226 = .ok (.aload_n 0, 1) := by decide +kernel
theorem dX6_advance_227 : decode cX6_advance 227 = .ok (.iconst 3, 1) := by decide +kernel
theorem dX6_advance_228 : decode cX6_advance 228 = .ok (.putfield 19, 3) := by decide +kernel
theorem dX6_advance_231 : decode cX6_advance 231 = .ok (.aload_n 0, 1) := by decide +kernel
theorem dX6_advance_232 : decode cX6_advance 232 = .ok (.dup, 1) := by decide +kernel
theorem dX6_advance_233 : decode cX6_advance 233 = .ok (.getfield 28, 3) := by decide +kernel
theorem dX6_advance_236 : decode cX6_advance 236 = .ok (.iconst 1, 1) := by decide +kernel
theorem dX6_advance_237 : decode cX6_advance 237 = .ok (.iadd, 1) := by decide +kernel
theorem dX6_advance_238 : decode cX6_advance 238 = .ok (.putfield 28, 3) := by decide +kernel
theorem dX6_advance_241 : decode cX6_advance 241 = .ok (.return_, 1) := by decide +kernel
theorem dX6_isBlank_0 : decode cX6_isBlank 0 = .ok (.iload_n 0, 1) := by decide +kernel
theorem dX6_isBlank_1 : decode cX6_isBlank 1 = .ok (.bipush 32, 2) := by decide +kernel
theorem dX6_isBlank_3 : decode cX6_isBlank 3 = .ok (.if_icmp .eq 9, 3) := by decide +kernel
theorem dX6_isBlank_6 : decode cX6_isBlank 6 = .ok (.iload_n 0, 1) := by decide +kernel
theorem dX6_isBlank_7 : decode cX6_isBlank 7 = .ok (.bipush 10, 2) := by decide +kernel
theorem dX6_isBlank_9 : decode cX6_isBlank 9 = .ok (.if_icmp .ne 7, 3) := by decide +kernel
theorem dX6_isBlank_12 : decode cX6_isBlank 12 = .ok (.iconst 1, 1) := by decide +kernel
theorem dX6_isBlank_13 : decode cX6_isBlank 13 = .ok (.goto 4, 3) := by decide +kernel
theorem dX6_isBlank_16 : decode cX6_isBlank 16 = .ok (.iconst 0, 1) := by decide +kernel
theorem dX6_isBlank_17 : decode cX6_isBlank 17 = .ok (.ireturn, 1) := by decide +kernel
theorem dX6_isSmall_0 : decode cX6_isSmall 0 = .ok (.iload_n 0, 1) := by decide +kernel
theorem dX6_isSmall_1 : decode cX6_isSmall 1 = .ok (.bipush 97, 2) := by decide +kernel
theorem dX6_isSmall_3 : decode cX6_isSmall 3 = .ok (.if_icmp .lt 13, 3) := by decide +kernel
theorem dX6_isSmall_6 : decode cX6_isSmall 6 = .ok (.iload_n 0, 1) := by decide +kernel
theorem dX6_isSmall_7 : decode cX6_isSmall 7 = .ok (.bipush 122, 2) := by decide +kernel
theorem dX6_isSmall_9 : decode cX6_isSmall 9 = .ok (.if_icmp .gt 7, 3) := by decide +kernel
theorem dX6_isSmall_12 : decode cX6_isSmall 12 = .ok (.iconst 1, 1) := by decide +kernel
theorem dX6_isSmall_13 : decode cX6_isSmall 13 = .ok (.goto 4, 3) := by decide +kernel
theorem dX6_isSmall_16 : decode cX6_isSmall 16 = .ok (.iconst 0, 1) := by decide +kernel
theorem dX6_isSmall_17 : decode cX6_isSmall 17 = .ok (.ireturn, 1) := by decide +kernel
theorem dX6_isFigure_0 : decode cX6_isFigure 0 = .ok (.iload_n 0, 1) := by decide +kernel
theorem dX6_isFigure_1 : decode cX6_isFigure 1 = .ok (.bipush 48, 2) := by decide +kernel
theorem dX6_isFigure_3 : decode cX6_isFigure 3 = .ok (.if_icmp .lt 13, 3) := by decide +kernel
theorem dX6_isFigure_6 : decode cX6_isFigure 6 = .ok (.iload_n 0, 1) := by decide +kernel
theorem dX6_isFigure_7 : decode cX6_isFigure 7 = .ok (.bipush 57, 2) := by decide +kernel
theorem dX6_isFigure_9 : decode cX6_isFigure 9 = .ok (.if_icmp .gt 7, 3) := by decide +kernel
theorem dX6_isFigure_12 : decode cX6_isFigure 12 = .ok (.iconst 1, 1) := by decide +kernel
theorem dX6_isFigure_13 : decode cX6_isFigure 13 = .ok (.goto 4, 3) := by decide +kernel
theorem dX6_isFigure_16 : decode cX6_isFigure 16 = .ok (.iconst 0, 1) := by decide +kernel
theorem dX6_isFigure_17 : decode cX6_isFigure 17 = .ok (.ireturn, 1) := by decide +kernel
theorem dX6_tokenLength_0 : decode cX6_tokenLength 0 = .ok (.aload_n 0, 1) := by decide +kernel
theorem dX6_tokenLength_1 : decode cX6_tokenLength 1 = .ok (.getfield 28, 3) := by decide +kernel
theorem dX6_tokenLength_4 : decode cX6_tokenLength 4 = .ok (.aload_n 0, 1) := by decide +kernel
theorem dX6_tokenLength_5 : decode cX6_tokenLength 5 = .ok (.getfield 22, 3) := by decide +kernel
theorem dX6_tokenLength_8 : decode cX6_tokenLength 8 = .ok (.isub, 1) := by decide +kernel
theorem dX6_tokenLength_9 : decode cX6_tokenLength 9 = .ok (.ireturn, 1) := by decide +kernel
theorem dX6_isWord_0 : decode cX6_isWord 0 = .ok (.aload_n 0, 1) := by decide +kernel
theorem dX6_isWord_1 : decode cX6_isWord 1 = .ok (.getfield 19, 3) := by decide +kernel
theorem dX6_isWord_4 : decode cX6_isWord 4 = .ok (.iconst 1, 1) := by decide +kernel
theorem dX6_isWord_5 : decode cX6_isWord 5 = .ok (.if_icmp .ne 19, 3) := by decide +kernel
theorem dX6_isWord_8 : decode cX6_isWord 8 = .ok (.aload_n 0, 1) := by decide +kernel
theorem dX6_isWord_9 : decode cX6_isWord 9 = .ok (.getfield 28, 3) := by decide +kernel
theorem dX6_isWord_12 : decode cX6_isWord 12 = .ok (.aload_n 0, 1) := by decide +kernel
theorem dX6_isWord_13 : decode cX6_isWord 13 = .ok (.getfield 22, 3) := by decide +kernel
theorem dX6_isWord_16 : decode cX6_isWord 16 = .ok (.isub, 1) := by decide +kernel
theorem dX6_isWord_17 : decode cX6_isWord 17 = .ok (.aload_n 1, 1) := by decide +kernel
theorem dX6_isWord_18 : decode cX6_isWord 18 = .ok (.invokevirtual 54, 3) := by decide +kernel
theorem dX6_isWord_21 : decode cX6_isWord 21 = .ok (.if_icmp .eq 5, 3) := by decide +kernel
theorem dX6_isWord_24 : decode cX6_isWord 24 = .ok (.iconst 0, 1) := by decide +kernel
theorem dX6_isWord_25 : decode cX6_isWord 25 = .ok (.ireturn, 1) := by decide +kernel
theorem dX6_isWord_26 : decode cX6_isWord 26 = .ok (.iconst 0, 1) := by decide +kernel
theorem dX6_isWord_27 : decode cX6_isWord 27 = .ok (.istore_n 2, 1) := by decide +kernel
theorem dX6_isWord_28 : decode cX6_isWord 28 = .ok (.iload_n 2, 1) := by decide +kernel
theorem dX6_isWord_29 : decode cX6_isWord 29 = .ok (.aload_n 1, 1) := by decide +kernel
theorem dX6_isWord_30 : decode cX6_isWord 30 = .ok (.invokevirtual 54, 3) := by decide +kernel
theorem dX6_isWord_33 : decode cX6_isWord 33 = .ok (.if_icmp .ge 30, 3) := by decide +kernel
theorem dX6_isWord_36 : decode cX6_isWord 36 = .ok (.aload_n 0, 1) := by decide +kernel
theorem dX6_isWord_37 : decode cX6_isWord 37 = .ok (.getfield 9, 3) := by decide +kernel
theorem dX6_isWord_40 : decode cX6_isWord 40 = .ok (.aload_n 0, 1) := by decide +kernel
theorem dX6_isWord_41 : decode cX6_isWord 41 = .ok (.getfield 22, 3) := by decide +kernel
theorem dX6_isWord_44 : decode cX6_isWord 44 = .ok (.iload_n 2, 1) := by decide +kernel
theorem dX6_isWord_45 : decode cX6_isWord 45 = .ok (.iadd, 1) := by decide +kernel
theorem dX6_isWord_46 : decode cX6_isWord 46 = .ok (.baload, 1) := by decide +kernel
theorem dX6_isWord_47 : decode cX6_isWord 47 = .ok (.aload_n 1, 1) := by decide +kernel
theorem dX6_isWord_48 : decode cX6_isWord 48 = .ok (.iload_n 2, 1) := by decide +kernel
theorem dX6_isWord_49 : decode cX6_isWord 49 = .ok (.invokevirtual 60, 3) := by decide +kernel
theorem dX6_isWord_52 : decode cX6_isWord 52 = .ok (.if_icmp .eq 5, 3) := by decide +kernel
theorem dX6_isWord_55 : decode cX6_isWord 55 = .ok (.iconst 0, 1) := by decide +kernel
theorem dX6_isWord_56 : decode cX6_isWord 56 = .ok (.ireturn, 1) := by decide +kernel
theorem dX6_isWord_57 : decode cX6_isWord 57 = .ok (.iinc 2 1, 3) := by decide +kernel
theorem dX6_isWord_60 : decode cX6_isWord 60 = .ok (.goto (-32), 3) := by decide +kernel
theorem dX6_isWord_63 : decode cX6_isWord 63 = .ok (.iconst 1, 1) := by decide +kernel
theorem dX6_isWord_64 : decode cX6_isWord 64 = .ok (.ireturn, 1) := by decide +kernel
theorem dX6_isSign_0 : decode cX6_isSign 0 = .ok (.aload_n 0, 1) := by decide +kernel
theorem dX6_isSign_1 : decode cX6_isSign 1 = .ok (.getfield 19, 3) := by decide +kernel
theorem dX6_isSign_4 : decode cX6_isSign 4 = .ok (.iconst 3, 1) := by decide +kernel
theorem dX6_isSign_5 : decode cX6_isSign 5 = .ok (.if_icmp .ne 20, 3) := by decide +kernel
theorem dX6_isSign_8 : decode cX6_isSign 8 = .ok (.aload_n 0, 1) := by decide +kernel
theorem dX6_isSign_9 : decode cX6_isSign 9 = .ok (.getfield 9, 3) := by decide +kernel
theorem dX6_isSign_12 : decode cX6_isSign 12 = .ok (.aload_n 0, 1) := by decide +kernel
theorem dX6_isSign_13 : decode cX6_isSign 13 = .ok (.getfield 22, 3) := by decide +kernel
theorem dX6_isSign_16 : decode cX6_isSign 16 = .ok (.baload, 1) := by decide +kernel
theorem dX6_isSign_17 : decode cX6_isSign 17 = .ok (.iload_n 1, 1) := by decide +kernel
theorem dX6_isSign_18 : decode cX6_isSign 18 = .ok (.if_icmp .ne 7, 3) := by decide +kernel
theorem dX6_isSign_21 : decode cX6_isSign 21 = .ok (.iconst 1, 1) := by decide +kernel
theorem dX6_isSign_22 : decode cX6_isSign 22 = .ok (.goto 4, 3) := by decide +kernel
theorem dX6_isSign_25 : decode cX6_isSign 25 = .ok (.iconst 0, 1) := by decide +kernel
theorem dX6_isSign_26 : decode cX6_isSign 26 = .ok (.ireturn, 1) := by decide +kernel
