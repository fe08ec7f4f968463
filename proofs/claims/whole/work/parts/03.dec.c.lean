theorem dX11_init_0 : decode cX11_init 0 = .ok (.aload_n 0, 1) := by decide +kernel
theorem dX11_init_1 : decode cX11_init 1 = .ok (.invokespecial 3, 3) := by decide +kernel
theorem dX11_init_4 : decode cX11_init 4 = .ok (.aload_n 0, 1) := by decide +kernel
theorem dX11_init_5 : decode cX11_init 5 = .ok (.iconst 4, 1) := by decide +kernel
theorem dX11_init_6 : decode cX11_init 6 = .ok (.anewarray 9, 3) := by decide +kernel
theorem dX11_init_9 : decode cX11_init 9 = .ok (.putfield 11, 3) := by decide +kernel
theorem dX11_init_12 : decode cX11_init 12 = .ok (.aload_n 0, 1) := by decide +kernel
theorem dX11_init_13 : decode cX11_init 13 = .ok (.new 15, 3) := by decide +kernel
theorem dX11_init_16 : decode cX11_init 16 = .ok (.dup, 1) := by decide +kernel
theorem dX11_init_17 : decode cX11_init 17 = .ok (.invokespecial 17, 3) := by decide +kernel
theorem dX11_init_20 : decode cX11_init 20 = .ok (.putfield 18, 3) := by decide +kernel
theorem dX11_init_23 : decode cX11_init 23 = .ok (.aload_n 0, 1) := by decide +kernel
theorem dX11_init_24 : decode cX11_init 24 = .ok (.lconst 1, 1) := by decide +kernel
theorem dX11_init_25 : decode cX11_init 25 = .ok (.putfield 22, 3) := by decide +kernel
theorem dX11_init_28 : decode cX11_init 28 = .ok (.aload_n 0, 1) := by decide +kernel
theorem dX11_init_29 : decode cX11_init 29 = .ok (.iconst (-1), 1) := by decide +kernel
theorem dX11_init_30 : decode cX11_init 30 = .ok (.putfield 26, 3) := by decide +kernel
theorem dX11_init_33 : decode cX11_init 33 = .ok (.aload_n 0, 1) := by decide +kernel
theorem dX11_init_34 : decode cX11_init 34 = .ok (.iconst (-1), 1) := by decide +kernel
theorem dX11_init_35 : decode cX11_init 35 = .ok (.putfield 30, 3) := by decide +kernel
theorem dX11_init_38 : decode cX11_init 38 = .ok (.aload_n 0, 1) := by decide +kernel
theorem dX11_init_39 : decode cX11_init 39 = .ok (.new 33, 3) := by decide +kernel
theorem dX11_init_42 : decode cX11_init 42 = .ok (.dup, 1) := by decide +kernel
theorem dX11_init_43 : decode cX11_init 43 = .ok (.new 35, 3) := by decide +kernel
theorem dX11_init_46 : decode cX11_init 46 = .ok (.dup, 1) := by decide +kernel
theorem dX11_init_47 : decode cX11_init 47 = .ok (.invokespecial 37, 3) := by decide +kernel
theorem dX11_init_50 : decode cX11_init 50 = .ok (.invokespecial 38, 3) := by decide +kernel
theorem dX11_init_53 : decode cX11_init 53 = .ok (.putfield 41, 3) := by decide +kernel
theorem dX11_init_56 : decode cX11_init 56 = .ok (.aload_n 0, 1) := by decide +kernel
theorem dX11_init_57 : decode cX11_init 57 = .ok (.iconst 3, 1) := by decide +kernel
theorem dX11_init_58 : decode cX11_init 58 = .ok (.anewarray 33, 3) := by decide +kernel
theorem dX11_init_61 : decode cX11_init 61 = .ok (.putfield 45, 3) := by decide +kernel
theorem dX11_init_64 : decode cX11_init 64 = .ok (.aload_n 0, 1) := by decide +kernel
theorem dX11_init_65 : decode cX11_init 65 = .ok (.new 49, 3) := by decide +kernel
theorem dX11_init_68 : decode cX11_init 68 = .ok (.dup, 1) := by decide +kernel
theorem dX11_init_69 : decode cX11_init 69 = .ok (.invokespecial 51, 3) := by decide +kernel
theorem dX11_init_72 : decode cX11_init 72 = .ok (.putfield 52, 3) := by decide +kernel
theorem dX11_init_75 : decode cX11_init 75 = .ok (.aload_n 0, 1) := by decide +kernel
theorem dX11_init_76 : decode cX11_init 76 = .ok (.new 56, 3) := by decide +kernel
theorem dX11_init_79 : decode cX11_init 79 = .ok (.dup, 1) := by decide +kernel
theorem dX11_init_80 : decode cX11_init 80 = .ok (.invokespecial 58, 3) := by decide +kernel
theorem dX11_init_83 : decode cX11_init 83 = .ok (.putfield 59, 3) := by decide +kernel
theorem dX11_init_86 : decode cX11_init 86 = .ok (.aload_n 0, 1) := by decide +kernel
theorem dX11_init_87 : decode cX11_init 87 = .ok (.new 63, 3) := by decide +kernel
theorem dX11_init_90 : decode cX11_init 90 = .ok (.dup, 1) := by decide +kernel
theorem dX11_init_91 : decode cX11_init 91 = .ok (.invokespecial 65, 3) := by decide +kernel
theorem dX11_init_94 : decode cX11_init 94 = .ok (.putfield 66, 3) := by decide +kernel
theorem dX11_init_97 : decode cX11_init 97 = .ok (.aload_n 0, 1) := by decide +kernel
theorem dX11_init_98 : decode cX11_init 98 = .ok (.new 70, 3) := by decide +kernel
theorem dX11_init_101 : decode cX11_init 101 = .ok (.dup, 1) := by decide +kernel
theorem dX11_init_102 : decode cX11_init 102 = .ok (.invokespecial 72, 3) := by decide +kernel
theorem dX11_init_105 : decode cX11_init 105 = .ok (.putfield 73, 3) := by decide +kernel
theorem dX11_init_108 : decode cX11_init 108 = .ok (.aload_n 0, 1) := by decide +kernel
theorem dX11_init_109 : decode cX11_init 109 = .ok (.new 77, 3) := by decide +kernel
theorem dX11_init_112 : decode cX11_init 112 = .ok (.dup, 1) := by decide +kernel
theorem dX11_init_113 : decode cX11_init 113 = .ok (.invokespecial 79, 3) := by decide +kernel
theorem dX11_init_116 : decode cX11_init 116 = .ok (.putfield 80, 3) := by decide +kernel
theorem dX11_init_119 : decode cX11_init 119 = .ok (.aload_n 0, 1) := by decide +kernel
theorem dX11_init_120 : decode cX11_init 120 = .ok (.new 77, 3) := by decide +kernel
theorem dX11_init_123 : decode cX11_init 123 = .ok (.dup, 1) := by decide +kernel
theorem dX11_init_124 : decode cX11_init 124 = .ok (.invokespecial 79, 3) := by decide +kernel
theorem dX11_init_127 : decode cX11_init 127 = .ok (.putfield 84, 3) := by decide +kernel
theorem dX11_init_130 : decode cX11_init 130 = .ok (.aload_n 0, 1) := by decide +kernel
theorem dX11_init_131 : decode cX11_init 131 = .ok (.bipush 12, 2) := by decide +kernel
theorem dX11_init_133 : decode cX11_init 133 = .ok (.newarray .int, 2) := by decide +kernel
theorem dX11_init_135 : decode cX11_init 135 = .ok (.putfield 87, 3) := by decide +kernel
theorem dX11_init_138 : decode cX11_init 138 = .ok (.iconst 0, 1) := by decide +kernel
theorem dX11_init_139 : decode cX11_init 139 = .ok (.istore_n 1, 1) := by decide +kernel
theorem dX11_init_140 : decode cX11_init 140 = .ok (.iload_n 1, 1) := by decide +kernel
theorem dX11_init_141 : decode cX11_init 141 = .ok (.iconst 4, 1) := by decide +kernel
theorem dX11_init_142 : decode cX11_init 142 = .ok (.if_icmp .ge 22, 3) := by decide +kernel
theorem dX11_init_145 : decode cX11_init 145 = .ok (.aload_n 0, 1) := by decide +kernel
theorem dX11_init_146 : decode cX11_init 146 = .ok (.getfield 11, 3) := by decide +kernel
theorem dX11_init_149 : decode cX11_init 149 = .ok (.iload_n 1, 1) := by decide +kernel
theorem dX11_init_150 : decode cX11_init 150 = .ok (.new 9, 3) := by decide +kernel
theorem dX11_init_153 : decode cX11_init 153 = .ok (.dup, 1) := by decide +kernel
theorem dX11_init_154 : decode cX11_init 154 = .ok (.invokespecial 91, 3) := by decide +kernel
theorem dX11_init_157 : decode cX11_init 157 = .ok (.aastore, 1) := by decide +kernel
theorem dX11_init_158 : decode cX11_init 158 = .ok (.iinc 1 1, 3) := by decide +kernel
theorem dX11_init_161 : decode cX11_init 161 = .ok (.goto (-21), 3) := by decide +kernel
theorem dX11_init_164 : decode cX11_init 164 = .ok (.iconst 0, 1) := by decide +kernel
theorem dX11_init_165 : decode cX11_init 165 = .ok (.istore_n 1, 1) := by decide +kernel
theorem dX11_init_166 : decode cX11_init 166 = .ok (.iload_n 1, 1) := by decide +kernel
theorem dX11_init_167 : decode cX11_init 167 = .ok (.iconst 3, 1) := by decide +kernel
theorem dX11_init_168 : decode cX11_init 168 = .ok (.if_icmp .ge 29, 3) := by decide +kernel
theorem dX11_init_171 : decode cX11_init 171 = .ok (.aload_n 0, 1) := by decide +kernel
theorem dX11_init_172 : decode cX11_init 172 = .ok (.getfield 45, 3) := by decide +kernel
theorem dX11_init_175 : decode cX11_init 175 = .ok (.iload_n 1, 1) := by decide +kernel
theorem dX11_init_176 : decode cX11_init 176 = .ok (.new 33, 3) := by decide +kernel
theorem dX11_init_179 : decode cX11_init 179 = .ok (.dup, 1) := by decide +kernel
theorem dX11_init_180 : decode cX11_init 180 = .ok (.aload_n 0, 1) := by decide +kernel
theorem dX11_init_181 : decode cX11_init 181 = .ok (.getfield 41, 3) := by decide +kernel
theorem dX11_init_184 : decode cX11_init 184 = .ok (.getfield 92, 3) := by decide +kernel
theorem dX11_init_187 : decode cX11_init 187 = .ok (.invokespecial 38, 3) := by decide +kernel
theorem dX11_init_190 : decode cX11_init 190 = .ok (.aastore, 1) := by decide +kernel
theorem dX11_init_191 : decode cX11_init 191 = .ok (.iinc 1 1, 3) := by decide +kernel
theorem dX11_init_194 : decode cX11_init 194 = .ok (.goto (-28), 3) := by decide +kernel
theorem dX11_init_197 : decode cX11_init 197 = .ok (.return_, 1) := by decide +kernel
theorem dX11_status_0 : decode cX11_status 0 = .ok (.aload_n 0, 1) := by decide +kernel
theorem dX11_status_1 : decode cX11_status 1 = .ok (.getfield 96, 3) := by decide +kernel
theorem dX11_status_4 : decode cX11_status 4 = .ok (.ireturn, 1) := by decide +kernel
theorem dX11_top_0 : decode cX11_top 0 = .ok (.aload_n 0, 1) := by decide +kernel
theorem dX11_top_1 : decode cX11_top 1 = .ok (.getfield 99, 3) := by decide +kernel
theorem dX11_top_4 : decode cX11_top 4 = .ok (.lreturn, 1) := by decide +kernel
theorem dX11_bottom_0 : decode cX11_bottom 0 = .ok (.aload_n 0, 1) := by decide +kernel
theorem dX11_bottom_1 : decode cX11_bottom 1 = .ok (.getfield 22, 3) := by decide +kernel
theorem dX11_bottom_4 : decode cX11_bottom 4 = .ok (.lreturn, 1) := by decide +kernel
theorem dX11_fail_0 : decode cX11_fail 0 = .ok (.aload_n 0, 1) := by decide +kernel
theorem dX11_fail_1 : decode cX11_fail 1 = .ok (.iload_n 1, 1) := by decide +kernel
theorem dX11_fail_2 : decode cX11_fail 2 = .ok (.putfield 96, 3) := by decide +kernel
theorem dX11_fail_5 : decode cX11_fail 5 = .ok (.iconst (-1), 1) := by decide +kernel
theorem dX11_fail_6 : decode cX11_fail 6 = .ok (.ireturn, 1) := by decide +kernel
theorem dX11_refuse_0 : decode cX11_refuse 0 = .ok (.aload_n 0, 1) := by decide +kernel
theorem dX11_refuse_1 : decode cX11_refuse 1 = .ok (.iload_n 1, 1) := by decide +kernel
theorem dX11_refuse_2 : decode cX11_refuse 2 = .ok (.putfield 96, 3) := by decide +kernel
theorem dX11_refuse_5 : decode cX11_refuse 5 = .ok (.iconst 0, 1) := by decide +kernel
theorem dX11_refuse_6 : decode cX11_refuse 6 = .ok (.ireturn, 1) := by decide +kernel
theorem dX11_answer_0 : decode cX11_answer 0 = .ok (.aload_n 0, 1) := by decide +kernel
theorem dX11_answer_1 : decode cX11_answer 1 = .ok (.iconst 0, 1) := by decide +kernel
theorem dX11_answer_2 : decode cX11_answer 2 = .ok (.putfield 96, 3) := by decide +kernel
theorem dX11_answer_5 : decode cX11_answer 5 = .ok (.iload_n 1, 1) := by decide +kernel
theorem dX11_answer_6 : decode cX11_answer 6 = .ok (.ireturn, 1) := by decide +kernel
theorem dX11_agree_0 : decode cX11_agree 0 = .ok (.aload_n 0, 1) := by decide +kernel
theorem dX11_agree_1 : decode cX11_agree 1 = .ok (.iconst 0, 1) := by decide +kernel
theorem dX11_agree_2 : decode cX11_agree 2 = .ok (.putfield 96, 3) := by decide +kernel
theorem dX11_agree_5 : decode cX11_agree 5 = .ok (.iconst 1, 1) := by decide +kernel
theorem dX11_agree_6 : decode cX11_agree 6 = .ok (.ireturn, 1) := by decide +kernel
theorem dX11_tellFraction_0 : decode cX11_tellFraction 0 = .ok (.lload_n 1, 1) := by decide +kernel
theorem dX11_tellFraction_1 : decode cX11_tellFraction 1 = .ok (.lload_n 3, 1) := by decide +kernel
theorem dX11_tellFraction_2 : decode cX11_tellFraction 2 = .ok (.invokestatic 102, 3) := by decide +kernel
theorem dX11_tellFraction_5 : decode cX11_tellFraction 5 = .ok (.lstore 5, 2) := by decide +kernel
theorem dX11_tellFraction_7 : decode cX11_tellFraction 7 = .ok (.lload 5, 2) := by decide +kernel
theorem dX11_tellFraction_9 : decode cX11_tellFraction 9 = .ok (.lconst 0, 1) := by decide +kernel
theorem dX11_tellFraction_10 : decode cX11_tellFraction 10 = .ok (.lcmp, 1) := by decide +kernel
theorem dX11_tellFraction_11 : decode cX11_tellFraction 11 = .ok (.ifCond .gt 10, 3) := by decide +kernel
theorem dX11_tellFraction_14 : decode cX11_tellFraction 14 = .ok (.aload_n 0, 1) := by decide +kernel
theorem dX11_tellFraction_15 : decode cX11_tellFraction 15 = .ok (.bipush 8, 2) := by decide +kernel
theorem dX11_tellFraction_17 : decode cX11_tellFraction 17 = .ok (.invokevirtual 106, 3) := by decide +kernel
theorem dX11_tellFraction_20 : decode cX11_tellFraction 20 = .ok (.ireturn, 1) := by decide +kernel
theorem dX11_tellFraction_21 : decode cX11_tellFraction 21 = .ok (.aload_n 0, 1) := by decide +kernel
theorem dX11_tellFraction_22 : decode cX11_tellFraction 22 = .ok (.lload_n 1, 1) := by decide +kernel
theorem dX11_tellFraction_23 : decode cX11_tellFraction 23 = .ok (.lload 5, 2) := by decide +kernel
theorem dX11_tellFraction_25 : decode cX11_tellFraction 25 = .ok (.ldiv, 1) := by decide +kernel
theorem dX11_tellFraction_26 : decode cX11_tellFraction 26 = .ok (.putfield 99, 3) := by decide +kernel
theorem dX11_tellFraction_29 : decode cX11_tellFraction 29 = .ok (.aload_n 0, 1) := by decide +kernel
theorem dX11_tellFraction_30 : decode cX11_tellFraction 30 = .ok (.lload_n 3, 1) := by decide +kernel
theorem dX11_tellFraction_31 : decode cX11_tellFraction 31 = .ok (.lload 5, 2) := by decide +kernel
theorem dX11_tellFraction_33 : decode cX11_tellFraction 33 = .ok (.ldiv, 1) := by decide +kernel
theorem dX11_tellFraction_34 : decode cX11_tellFraction 34 = .ok (.putfield 22, 3) := by decide +kernel
theorem dX11_tellFraction_37 : decode cX11_tellFraction 37 = .ok (.aload_n 0, 1) := by decide +kernel
theorem dX11_tellFraction_38 : decode cX11_tellFraction 38 = .ok (.invokevirtual 110, 3) := by decide +kernel
theorem dX11_tellFraction_41 : decode cX11_tellFraction 41 = .ok (.ireturn, 1) := by decide +kernel
theorem dX11_commonDivisor_0 : decode cX11_commonDivisor 0 = .ok (.lload_n 0, 1) := by decide +kernel
theorem dX11_commonDivisor_1 : decode cX11_commonDivisor 1 = .ok (.lstore 4, 2) := by decide +kernel
theorem dX11_commonDivisor_3 : decode cX11_commonDivisor 3 = .ok (.lload_n 2, 1) := by decide +kernel
theorem dX11_commonDivisor_4 : decode cX11_commonDivisor 4 = .ok (.lstore 6, 2) := by decide +kernel
theorem dX11_commonDivisor_6 : decode cX11_commonDivisor 6 = .ok (.iconst 0, 1) := by decide +kernel
theorem dX11_commonDivisor_7 : decode cX11_commonDivisor 7 = .ok (.istore 8, 2) := by decide +kernel
theorem dX11_commonDivisor_9 : decode cX11_commonDivisor 9 = .ok (.iload 8, 2) := by decide +kernel
theorem dX11_commonDivisor_11 : decode cX11_commonDivisor 11 = .ok (.sipush 200, 3) := by decide +kernel
theorem dX11_commonDivisor_14 : decode cX11_commonDivisor 14 = .ok (.if_icmp .ge 31, 3) := by decide +kernel
theorem dX11_commonDivisor_17 : decode cX11_commonDivisor 17 = .ok (.lload 6, 2) := by decide +kernel
theorem dX11_commonDivisor_19 : decode cX11_commonDivisor 19 = .ok (.lconst 0, 1) := by decide +kernel
theorem dX11_commonDivisor_20 : decode cX11_commonDivisor 20 = .ok (.lcmp, 1) := by decide +kernel
theorem dX11_commonDivisor_21 : decode cX11_commonDivisor 21 = .ok (.ifCond .eq 24, 3) := by decide +kernel
theorem dX11_commonDivisor_24 : decode cX11_commonDivisor 24 = .ok (.lload 4, 2) := by decide +kernel
theorem dX11_commonDivisor_26 : decode cX11_commonDivisor 26 = .ok (.lload 6, 2) := by decide +kernel
theorem dX11_commonDivisor_28 : decode cX11_commonDivisor 28 = .ok (.lrem, 1) := by decide +kernel
theorem dX11_commonDivisor_29 : decode cX11_commonDivisor 29 = .ok (.lstore 9, 2) := by decide +kernel
theorem dX11_commonDivisor_31 : decode cX11_commonDivisor 31 = .ok (.lload 6, 2) := by decide +kernel
theorem dX11_commonDivisor_33 : decode cX11_commonDivisor 33 = .ok (.lstore 4, 2) := by decide +kernel
theorem dX11_commonDivisor_35 : decode cX11_commonDivisor 35 = .ok (.lload 9, 2) := by decide +kernel
theorem dX11_commonDivisor_37 : decode cX11_commonDivisor 37 = .ok (.lstore 6, 2) := by decide +kernel
theorem dX11_commonDivisor_39 : decode cX11_commonDivisor 39 = .ok (.iinc 8 1, 3) := by decide +kernel
theorem dX11_commonDivisor_42 : decode cX11_commonDivisor 42 = .ok (.goto (-33), 3) := by decide +kernel
theorem dX11_commonDivisor_45 : decode cX11_commonDivisor 45 = .ok (.lload 4, 2) := by decide +kernel
theorem dX11_commonDivisor_47 : decode cX11_commonDivisor 47 = .ok (.lreturn, 1) := by decide +kernel
theorem dX11_isIn_0 : decode cX11_isIn 0 = .ok (.iload_n 0, 1) := by decide +kernel
theorem dX11_isIn_1 : decode cX11_isIn 1 = .ok (.iload_n 1, 1) := by decide +kernel
theorem dX11_isIn_2 : decode cX11_isIn 2 = .ok (.if_icmp .lt 12, 3) := by decide +kernel
theorem dX11_isIn_5 : decode cX11_isIn 5 = .ok (.iload_n 0, 1) := by decide +kernel
theorem dX11_isIn_6 : decode cX11_isIn 6 = .ok (.iload_n 2, 1) := by decide +kernel
theorem dX11_isIn_7 : decode cX11_isIn 7 = .ok (.if_icmp .gt 7, 3) := by decide +kernel
theorem dX11_isIn_10 : decode cX11_isIn 10 = .ok (.iconst 1, 1) := by decide +kernel
theorem dX11_isIn_11 : decode cX11_isIn 11 = .ok (.goto 4, 3) := by decide +kernel
theorem dX11_isIn_14 : decode cX11_isIn 14 = .ok (.iconst 0, 1) := by decide +kernel
theorem dX11_isIn_15 : decode cX11_isIn 15 = .ok (.ireturn, 1) := by decide +kernel
theorem dX11_isBelow_0 : decode cX11_isBelow 0 = .ok (.iload_n 0, 1) := by decide +kernel
theorem dX11_isBelow_1 : decode cX11_isBelow 1 = .ok (.ifCond .lt 12, 3) := by decide +kernel
theorem dX11_isBelow_4 : decode cX11_isBelow 4 = .ok (.iload_n 0, 1) := by decide +kernel
theorem dX11_isBelow_5 : decode cX11_isBelow 5 = .ok (.iload_n 1, 1) := by decide +kernel
theorem dX11_isBelow_6 : decode cX11_isBelow 6 = .ok (.if_icmp .ge 7, 3) := by decide +kernel
theorem dX11_isBelow_9 : decode cX11_isBelow 9 = .ok (.iconst 1, 1) := by decide +kernel
theorem dX11_isBelow_10 : decode cX11_isBelow 10 = .ok (.goto 4, 3) := by decide +kernel
theorem dX11_isBelow_13 : decode cX11_isBelow 13 = .ok (.iconst 0, 1) := by decide +kernel
theorem dX11_isBelow_14 : decode cX11_isBelow 14 = .ok (.ireturn, 1) := by decide +kernel
theorem dX11_hasScene_0 : decode cX11_hasScene 0 = .ok (.iload_n 1, 1) := by decide +kernel
theorem dX11_hasScene_1 : decode cX11_hasScene 1 = .ok (.aload_n 0, 1) := by decide +kernel
theorem dX11_hasScene_2 : decode cX11_hasScene 2 = .ok (.getfield 41, 3) := by decide +kernel
theorem dX11_hasScene_5 : decode cX11_hasScene 5 = .ok (.getfield 92, 3) := by decide +kernel
theorem dX11_hasScene_8 : decode cX11_hasScene 8 = .ok (.getfield 114, 3) := by decide +kernel
theorem dX11_hasScene_11 : decode cX11_hasScene 11 = .ok (.invokestatic 117, 3) := by decide +kernel
theorem dX11_hasScene_14 : decode cX11_hasScene 14 = .ok (.ireturn, 1) := by decide +kernel
theorem dX11_hasKind_0 : decode cX11_hasKind 0 = .ok (.iload_n 1, 1) := by decide +kernel
theorem dX11_hasKind_1 : decode cX11_hasKind 1 = .ok (.aload_n 0, 1) := by decide +kernel
theorem dX11_hasKind_2 : decode cX11_hasKind 2 = .ok (.getfield 41, 3) := by decide +kernel
theorem dX11_hasKind_5 : decode cX11_hasKind 5 = .ok (.getfield 92, 3) := by decide +kernel
theorem dX11_hasKind_8 : decode cX11_hasKind 8 = .ok (.getfield 121, 3) := by decide +kernel
theorem dX11_hasKind_11 : decode cX11_hasKind 11 = .ok (.invokestatic 117, 3) := by decide +kernel
theorem dX11_hasKind_14 : decode cX11_hasKind 14 = .ok (.ireturn, 1) := by decide +kernel
theorem dX11_hasRole_0 : decode cX11_hasRole 0 = .ok (.iload_n 1, 1) := by decide +kernel
theorem dX11_hasRole_1 : decode cX11_hasRole 1 = .ok (.aload_n 0, 1) := by decide +kernel
theorem dX11_hasRole_2 : decode cX11_hasRole 2 = .ok (.getfield 41, 3) := by decide +kernel
theorem dX11_hasRole_5 : decode cX11_hasRole 5 = .ok (.getfield 92, 3) := by decide +kernel
theorem dX11_hasRole_8 : decode cX11_hasRole 8 = .ok (.getfield 124, 3) := by decide +kernel
theorem dX11_hasRole_11 : decode cX11_hasRole 11 = .ok (.invokestatic 117, 3) := by decide +kernel
theorem dX11_hasRole_14 : decode cX11_hasRole 14 = .ok (.ireturn, 1) := by decide +kernel
theorem dX11_tray_0 : decode cX11_tray 0 = .ok (.iload_n 1, 1) := by decide +kernel
theorem dX11_tray_1 : decode cX11_tray 1 = .ok (.iconst 4, 1) := by decide +kernel
theorem dX11_tray_2 : decode cX11_tray 2 = .ok (.invokestatic 117, 3) := by decide +kernel
theorem dX11_tray_5 : decode cX11_tray 5 = .ok (.ifCond .eq 12, 3) := by decide +kernel
theorem dX11_tray_8 : decode cX11_tray 8 = .ok (.iload_n 2, 1) := by decide +kernel
theorem dX11_tray_9 : decode cX11_tray 9 = .ok (.iconst 0, 1) := by decide +kernel
theorem dX11_tray_10 : decode cX11_tray 10 = .ok (.iconst 3, 1) := by decide +kernel
theorem dX11_tray_11 : decode cX11_tray 11 = .ok (.invokestatic 127, 3) := by decide +kernel
theorem dX11_tray_14 : decode cX11_tray 14 = .ok (.ifCond .ne 9, 3) := by decide +kernel
theorem dX11_tray_17 : decode cX11_tray 17 = .ok (.aload_n 0, 1) := by decide +kernel
theorem dX11_tray_18 : decode cX11_tray 18 = .ok (.iconst 1, 1) := by decide +kernel
theorem dX11_tray_19 : decode cX11_tray 19 = .ok (.invokevirtual 106, 3) := by decide +kernel
theorem dX11_tray_22 : decode cX11_tray 22 = .ok (.ireturn, 1) := by decide +kernel
theorem dX11_tray_23 : decode cX11_tray 23 = .ok (.iload_n 3, 1) := by decide +kernel
theorem dX11_tray_24 : decode cX11_tray 24 = .ok (.bipush 60, 2) := by decide +kernel
theorem dX11_tray_26 : decode cX11_tray 26 = .ok (.if_icmp .le 9, 3) := by decide +kernel
theorem dX11_tray_29 : decode cX11_tray 29 = .ok (.aload_n 0, 1) := by decide +kernel
theorem dX11_tray_30 : decode cX11_tray 30 = .ok (.iconst 5, 1) := by decide +kernel
theorem dX11_tray_31 : decode cX11_tray 31 = .ok (.invokevirtual 106, 3) := by decide +kernel
theorem dX11_tray_34 : decode cX11_tray 34 = .ok (.ireturn, 1) := by decide +kernel
theorem dX11_tray_35 : decode cX11_tray 35 = .ok (.iload_n 3, 1) := by decide +kernel
theorem dX11_tray_36 : decode cX11_tray 36 = .ok (.ifCond .ge 10, 3) := by decide +kernel
theorem dX11_tray_39 : decode cX11_tray 39 = .ok (.aload_n 0, 1) := by decide +kernel
theorem dX11_tray_40 : decode cX11_tray 40 = .ok (.bipush 6, 2) := by decide +kernel
theorem dX11_tray_42 : decode cX11_tray 42 = .ok (.invokevirtual 106, 3) := by decide +kernel
theorem dX11_tray_45 : decode cX11_tray 45 = .ok (.ireturn, 1) := by decide +kernel
theorem dX11_tray_46 : decode cX11_tray 46 = .ok (.aload_n 0, 1) := by decide +kernel
theorem dX11_tray_47 : decode cX11_tray 47 = .ok (.getfield 11, 3) := by decide +kernel
theorem dX11_tray_50 : decode cX11_tray 50 = .ok (.iload_n 1, 1) := by decide +kernel
theorem dX11_tray_51 : decode cX11_tray 51 = .ok (.aaload, 1) := by decide +kernel
theorem dX11_tray_52 : decode cX11_tray 52 = .ok (.iload_n 2, 1) := by decide +kernel
theorem dX11_tray_53 : decode cX11_tray 53 = .ok (.iload_n 3, 1) := by decide +kernel
theorem dX11_tray_54 : decode cX11_tray 54 = .ok (.invokevirtual 131, 3) := by decide +kernel
theorem dX11_tray_57 : decode cX11_tray 57 = .ok (.aload_n 0, 1) := by decide +kernel
theorem dX11_tray_58 : decode cX11_tray 58 = .ok (.invokevirtual 110, 3) := by decide +kernel
theorem dX11_tray_61 : decode cX11_tray 61 = .ok (.ireturn, 1) := by decide +kernel
theorem dX11_write_0 : decode cX11_write 0 = .ok (.aload_n 0, 1) := by decide +kernel
theorem dX11_write_1 : decode cX11_write 1 = .ok (.iload_n 1, 1) := by decide +kernel
theorem dX11_write_2 : decode cX11_write 2 = .ok (.iload_n 2, 1) := by decide +kernel
theorem dX11_write_3 : decode cX11_write 3 = .ok (.invokevirtual 135, 3) := by decide +kernel
theorem dX11_write_6 : decode cX11_write 6 = .ok (.istore 5, 2) := by decide +kernel
theorem dX11_write_8 : decode cX11_write 8 = .ok (.iload 5, 2) := by decide +kernel
theorem dX11_write_10 : decode cX11_write 10 = .ok (.ifCond .eq 10, 3) := by decide +kernel
theorem dX11_write_13 : decode cX11_write 13 = .ok (.aload_n 0, 1) := by decide +kernel
theorem dX11_write_14 : decode cX11_write 14 = .ok (.iload 5, 2) := by decide +kernel
theorem dX11_write_16 : decode cX11_write 16 = .ok (.invokevirtual 106, 3) := by decide +kernel
theorem dX11_write_19 : decode cX11_write 19 = .ok (.ireturn, 1) := by decide +kernel
theorem dX11_write_20 : decode cX11_write 20 = .ok (.aload_n 0, 1) := by decide +kernel
theorem dX11_write_21 : decode cX11_write 21 = .ok (.getfield 11, 3) := by decide +kernel
theorem dX11_write_24 : decode cX11_write 24 = .ok (.iload_n 1, 1) := by decide +kernel
theorem dX11_write_25 : decode cX11_write 25 = .ok (.aaload, 1) := by decide +kernel
theorem dX11_write_26 : decode cX11_write 26 = .ok (.iload_n 2, 1) := by decide +kernel
theorem dX11_write_27 : decode cX11_write 27 = .ok (.lload_n 3, 1) := by decide +kernel
theorem dX11_write_28 : decode cX11_write 28 = .ok (.invokevirtual 139, 3) := by decide +kernel
theorem dX11_write_31 : decode cX11_write 31 = .ok (.aload_n 0, 1) := by decide +kernel
theorem dX11_write_32 : decode cX11_write 32 = .ok (.invokevirtual 110, 3) := by decide +kernel
theorem dX11_write_35 : decode cX11_write 35 = .ok (.ireturn, 1) := by decide +kernel
theorem dX11_read_0 : decode cX11_read 0 = .ok (.aload_n 0, 1) := by decide +kernel
theorem dX11_read_1 : decode cX11_read 1 = .ok (.iload_n 1, 1) := by decide +kernel
theorem dX11_read_2 : decode cX11_read 2 = .ok (.iload_n 2, 1) := by decide +kernel
theorem dX11_read_3 : decode cX11_read 3 = .ok (.invokevirtual 135, 3) := by decide +kernel
theorem dX11_read_6 : decode cX11_read 6 = .ok (.istore_n 3, 1) := by decide +kernel
theorem dX11_read_7 : decode cX11_read 7 = .ok (.iload_n 3, 1) := by decide +kernel
theorem dX11_read_8 : decode cX11_read 8 = .ok (.ifCond .eq 10, 3) := by decide +kernel
theorem dX11_read_11 : decode cX11_read 11 = .ok (.aload_n 0, 1) := by decide +kernel
theorem dX11_read_12 : decode cX11_read 12 = .ok (.iload_n 3, 1) := by decide +kernel
theorem dX11_read_13 : decode cX11_read 13 = .ok (.invokevirtual 143, 3) := by decide +kernel
theorem dX11_read_16 : decode cX11_read 16 = .ok (.i2l, 1) := by decide +kernel
theorem dX11_read_17 : decode cX11_read 17 = .ok (.lreturn, 1) := by decide +kernel
theorem dX11_read_18 : decode cX11_read 18 = .ok (.aload_n 0, 1) := by decide +kernel
theorem dX11_read_19 : decode cX11_read 19 = .ok (.iconst 0, 1) := by decide +kernel
theorem dX11_read_20 : decode cX11_read 20 = .ok (.putfield 96, 3) := by decide +kernel
theorem dX11_read_23 : decode cX11_read 23 = .ok (.aload_n 0, 1) := by decide +kernel
theorem dX11_read_24 : decode cX11_read 24 = .ok (.getfield 11, 3) := by decide +kernel
theorem dX11_read_27 : decode cX11_read 27 = .ok (.iload_n 1, 1) := by decide +kernel
theorem dX11_read_28 : decode cX11_read 28 = .ok (.aaload, 1) := by decide +kernel
theorem dX11_read_29 : decode cX11_read 29 = .ok (.getfield 147, 3) := by decide +kernel
theorem dX11_read_32 : decode cX11_read 32 = .ok (.iload_n 2, 1) := by decide +kernel
theorem dX11_read_33 : decode cX11_read 33 = .ok (.laload, 1) := by decide +kernel
theorem dX11_read_34 : decode cX11_read 34 = .ok (.lreturn, 1) := by decide +kernel
theorem dX11_whyNoPlace_0 : decode cX11_whyNoPlace 0 = .ok (.iload_n 1, 1) := by decide +kernel
theorem dX11_whyNoPlace_1 : decode cX11_whyNoPlace 1 = .ok (.iconst 4, 1) := by decide +kernel
theorem dX11_whyNoPlace_2 : decode cX11_whyNoPlace 2 = .ok (.invokestatic 117, 3) := by decide +kernel
theorem dX11_whyNoPlace_5 : decode cX11_whyNoPlace 5 = .ok (.ifCond .ne 5, 3) := by decide +kernel
theorem dX11_whyNoPlace_8 : decode cX11_whyNoPlace 8 = .ok (.iconst 1, 1) := by decide +kernel
theorem dX11_whyNoPlace_9 : decode cX11_whyNoPlace 9 = .ok (.ireturn, 1) := by decide +kernel
theorem dX11_whyNoPlace_10 : decode cX11_whyNoPlace 10 = .ok (.aload_n 0, 1) := by decide +kernel
theorem dX11_whyNoPlace_11 : decode cX11_whyNoPlace 11 = .ok (.getfield 11, 3) := by decide +kernel
theorem dX11_whyNoPlace_14 : decode cX11_whyNoPlace 14 = .ok (.iload_n 1, 1) := by decide +kernel
theorem dX11_whyNoPlace_15 : decode cX11_whyNoPlace 15 = .ok (.aaload, 1) := by decide +kernel
theorem dX11_whyNoPlace_16 : decode cX11_whyNoPlace 16 = .ok (.getfield 151, 3) := by decide +kernel
theorem dX11_whyNoPlace_19 : decode cX11_whyNoPlace 19 = .ok (.ifCond .ne 5, 3) := by decide +kernel
theorem dX11_whyNoPlace_22 : decode cX11_whyNoPlace 22 = .ok (.iconst 3, 1) := by decide +kernel
theorem dX11_whyNoPlace_23 : decode cX11_whyNoPlace 23 = .ok (.ireturn, 1) := by decide +kernel
theorem dX11_whyNoPlace_24 : decode cX11_whyNoPlace 24 = .ok (.iload_n 2, 1) := by decide +kernel
theorem dX11_whyNoPlace_25 : decode cX11_whyNoPlace 25 = .ok (.aload_n 0, 1) := by decide +kernel
theorem dX11_whyNoPlace_26 : decode cX11_whyNoPlace 26 = .ok (.getfield 11, 3) := by decide +kernel
theorem dX11_whyNoPlace_29 : decode cX11_whyNoPlace 29 = .ok (.iload_n 1, 1) := by decide +kernel
theorem dX11_whyNoPlace_30 : decode cX11_whyNoPlace 30 = .ok (.aaload, 1) := by decide +kernel
theorem dX11_whyNoPlace_31 : decode cX11_whyNoPlace 31 = .ok (.getfield 155, 3) := by decide +kernel
theorem dX11_whyNoPlace_34 : decode cX11_whyNoPlace 34 = .ok (.invokestatic 117, 3) := by decide +kernel
theorem dX11_whyNoPlace_37 : decode cX11_whyNoPlace 37 = .ok (.ifCond .eq 7, 3) := by decide +kernel
theorem dX11_whyNoPlace_40 : decode cX11_whyNoPlace 40 = .ok (.iconst 0, 1) := by decide +kernel
theorem dX11_whyNoPlace_41 : decode cX11_whyNoPlace 41 = .ok (.goto 4, 3) := by decide +kernel
theorem dX11_whyNoPlace_44 : decode cX11_whyNoPlace 44 = .ok (.iconst 4, 1) := by decide +kernel
theorem dX11_whyNoPlace_45 : decode cX11_whyNoPlace 45 = .ok (.ireturn, 1) := by decide +kernel
theorem dX11_pour_0 : decode cX11_pour 0 = .ok (.iload_n 1, 1) := by decide +kernel
theorem dX11_pour_1 : decode cX11_pour 1 = .ok (.iconst 4, 1) := by decide +kernel
theorem dX11_pour_2 : decode cX11_pour 2 = .ok (.invokestatic 117, 3) := by decide +kernel
theorem dX11_pour_5 : decode cX11_pour 5 = .ok (.ifCond .eq 11, 3) := by decide +kernel
theorem dX11_pour_8 : decode cX11_pour 8 = .ok (.iload_n 3, 1) := by decide +kernel
theorem dX11_pour_9 : decode cX11_pour 9 = .ok (.iconst 4, 1) := by decide +kernel
theorem dX11_pour_10 : decode cX11_pour 10 = .ok (.invokestatic 117, 3) := by decide +kernel
theorem dX11_pour_13 : decode cX11_pour 13 = .ok (.ifCond .ne 9, 3) := by decide +kernel
theorem dX11_pour_16 : decode cX11_pour 16 = .ok (.aload_n 0, 1) := by decide +kernel
theorem dX11_pour_17 : decode cX11_pour 17 = .ok (.iconst 1, 1) := by decide +kernel
theorem dX11_pour_18 : decode cX11_pour 18 = .ok (.invokevirtual 106, 3) := by decide +kernel
theorem dX11_pour_21 : decode cX11_pour 21 = .ok (.ireturn, 1) := by decide +kernel
theorem dX11_pour_22 : decode cX11_pour 22 = .ok (.aload_n 0, 1) := by decide +kernel
theorem dX11_pour_23 : decode cX11_pour 23 = .ok (.getfield 11, 3) := by decide +kernel
theorem dX11_pour_26 : decode cX11_pour 26 = .ok (.iload_n 1, 1) := by decide +kernel
theorem dX11_pour_27 : decode cX11_pour 27 = .ok (.aaload, 1) := by decide +kernel
theorem dX11_pour_28 : decode cX11_pour 28 = .ok (.astore 6, 2) := by decide +kernel
theorem dX11_pour_30 : decode cX11_pour 30 = .ok (.aload_n 0, 1) := by decide +kernel
theorem dX11_pour_31 : decode cX11_pour 31 = .ok (.getfield 11, 3) := by decide +kernel
theorem dX11_pour_34 : decode cX11_pour 34 = .ok (.iload_n 3, 1) := by decide +kernel
theorem dX11_pour_35 : decode cX11_pour 35 = .ok (.aaload, 1) := by decide +kernel
theorem dX11_pour_36 : decode cX11_pour 36 = .ok (.astore 7, 2) := by decide +kernel
theorem dX11_pour_38 : decode cX11_pour 38 = .ok (.aload 6, 2) := by decide +kernel
theorem dX11_pour_40 : decode cX11_pour 40 = .ok (.getfield 151, 3) := by decide +kernel
theorem dX11_pour_43 : decode cX11_pour 43 = .ok (.ifCond .eq 11, 3) := by decide +kernel
theorem dX11_pour_46 : decode cX11_pour 46 = .ok (.aload 7, 2) := by decide +kernel
theorem dX11_pour_48 : decode cX11_pour 48 = .ok (.getfield 151, 3) := by decide +kernel
theorem dX11_pour_51 : decode cX11_pour 51 = .ok (.ifCond .ne 9, 3) := by decide +kernel
theorem dX11_pour_54 : decode cX11_pour 54 = .ok (.aload_n 0, 1) := by decide +kernel
theorem dX11_pour_55 : decode cX11_pour 55 = .ok (.iconst 3, 1) := by decide +kernel
theorem dX11_pour_56 : decode cX11_pour 56 = .ok (.invokevirtual 106, 3) := by decide +kernel
theorem dX11_pour_59 : decode cX11_pour 59 = .ok (.ireturn, 1) := by decide +kernel
theorem dX11_pour_60 : decode cX11_pour 60 = .ok (.aload 6, 2) := by decide +kernel
theorem dX11_pour_62 : decode cX11_pour 62 = .ok (.getfield 158, 3) := by decide +kernel
theorem dX11_pour_65 : decode cX11_pour 65 = .ok (.aload 7, 2) := by decide +kernel
theorem dX11_pour_67 : decode cX11_pour 67 = .ok (.getfield 158, 3) := by decide +kernel
theorem dX11_pour_70 : decode cX11_pour 70 = .ok (.if_icmp .eq 10, 3) := by decide +kernel
theorem dX11_pour_73 : decode cX11_pour 73 = .ok (.aload_n 0, 1) := by decide +kernel
theorem dX11_pour_74 : decode cX11_pour 74 = .ok (.bipush 11, 2) := by decide +kernel
theorem dX11_pour_76 : decode cX11_pour 76 = .ok (.invokevirtual 106, 3) := by decide +kernel
theorem dX11_pour_79 : decode cX11_pour 79 = .ok (.ireturn, 1) := by decide +kernel
theorem dX11_pour_80 : decode cX11_pour 80 = .ok (.iload 5, 2) := by decide +kernel
theorem dX11_pour_82 : decode cX11_pour 82 = .ok (.ifCond .ge 10, 3) := by decide +kernel
theorem dX11_pour_85 : decode cX11_pour 85 = .ok (.aload_n 0, 1) := by decide +kernel
theorem dX11_pour_86 : decode cX11_pour 86 = .ok (.bipush 6, 2) := by decide +kernel
theorem dX11_pour_88 : decode cX11_pour 88 = .ok (.invokevirtual 106, 3) := by decide +kernel
theorem dX11_pour_91 : decode cX11_pour 91 = .ok (.ireturn, 1) := by decide +kernel
theorem dX11_pour_92 : decode cX11_pour 92 = .ok (.aload 6, 2) := by decide +kernel
theorem dX11_pour_94 : decode cX11_pour 94 = .ok (.iload_n 2, 1) := by decide +kernel
theorem dX11_pour_95 : decode cX11_pour 95 = .ok (.iload 5, 2) := by decide +kernel
theorem dX11_pour_97 : decode cX11_pour 97 = .ok (.invokevirtual 161, 3) := by decide +kernel
theorem dX11_pour_100 : decode cX11_pour 100 = .ok (.ifCond .eq 15, 3) := by decide +kernel
theorem dX11_pour_103 : decode cX11_pour 103 = .ok (.aload 7, 2) := by decide +kernel
theorem dX11_pour_105 : decode cX11_pour 105 = .ok (.iload 4, 2) := by decide +kernel
theorem dX11_pour_107 : decode cX11_pour 107 = .ok (.iload 5, 2) := by decide +kernel
theorem dX11_pour_109 : decode cX11_pour 109 = .ok (.invokevirtual 161, 3) := by decide +kernel
theorem dX11_pour_112 : decode cX11_pour 112 = .ok (.ifCond .ne 9, 3) := by decide +kernel
theorem dX11_pour_115 : decode cX11_pour 115 = .ok (.aload_n 0, 1) := by decide +kernel
theorem dX11_pour_116 : decode cX11_pour 116 = .ok (.iconst 4, 1) := by decide +kernel
theorem dX11_pour_117 : decode cX11_pour 117 = .ok (.invokevirtual 106, 3) := by decide +kernel
theorem dX11_pour_120 : decode cX11_pour 120 = .ok (.ireturn, 1) := by decide +kernel
theorem dX11_pour_121 : decode cX11_pour 121 = .ok (.aload 6, 2) := by decide +kernel
theorem dX11_pour_123 : decode cX11_pour 123 = .ok (.getfield 147, 3) := by decide +kernel
theorem dX11_pour_126 : decode cX11_pour 126 = .ok (.iload_n 2, 1) := by decide +kernel
theorem dX11_pour_127 : decode cX11_pour 127 = .ok (.aload 7, 2) := by decide +kernel
theorem dX11_pour_129 : decode cX11_pour 129 = .ok (.getfield 147, 3) := by decide +kernel
theorem dX11_pour_132 : decode cX11_pour 132 = .ok (.iload 4, 2) := by decide +kernel
theorem dX11_pour_134 : decode cX11_pour 134 = .ok (.iload 5, 2) := by decide +kernel
theorem dX11_pour_136 : decode cX11_pour 136 = .ok (.invokestatic 164, 3) := by decide +kernel
theorem dX11_pour_139 : decode cX11_pour 139 = .ok (.aload_n 0, 1) := by decide +kernel
theorem dX11_pour_140 : decode cX11_pour 140 = .ok (.invokevirtual 110, 3) := by decide +kernel
theorem dX11_pour_143 : decode cX11_pour 143 = .ok (.ireturn, 1) := by decide +kernel
theorem dX11_feed_0 : decode cX11_feed 0 = .ok (.aload_n 0, 1) := by decide +kernel
theorem dX11_feed_1 : decode cX11_feed 1 = .ok (.getfield 18, 3) := by decide +kernel
theorem dX11_feed_4 : decode cX11_feed 4 = .ok (.getfield 170, 3) := by decide +kernel
theorem dX11_feed_7 : decode cX11_feed 7 = .ok (.bipush 20, 2) := by decide +kernel
theorem dX11_feed_9 : decode cX11_feed 9 = .ok (.iadd, 1) := by decide +kernel
theorem dX11_feed_10 : decode cX11_feed 10 = .ok (.sipush 900, 3) := by decide +kernel
theorem dX11_feed_13 : decode cX11_feed 13 = .ok (.if_icmp .le 5, 3) := by decide +kernel
theorem dX11_feed_16 : decode cX11_feed 16 = .ok (.iconst (-1), 1) := by decide +kernel
theorem dX11_feed_17 : decode cX11_feed 17 = .ok (.ireturn, 1) := by decide +kernel
theorem dX11_feed_18 : decode cX11_feed 18 = .ok (.aload_n 0, 1) := by decide +kernel
theorem dX11_feed_19 : decode cX11_feed 19 = .ok (.getfield 18, 3) := by decide +kernel
theorem dX11_feed_22 : decode cX11_feed 22 = .ok (.iload_n 1, 1) := by decide +kernel
theorem dX11_feed_23 : decode cX11_feed 23 = .ok (.invokevirtual 173, 3) := by decide +kernel
theorem dX11_feed_26 : decode cX11_feed 26 = .ok (.aload_n 0, 1) := by decide +kernel
theorem dX11_feed_27 : decode cX11_feed 27 = .ok (.getfield 18, 3) := by decide +kernel
theorem dX11_feed_30 : decode cX11_feed 30 = .ok (.iload_n 2, 1) := by decide +kernel
theorem dX11_feed_31 : decode cX11_feed 31 = .ok (.invokevirtual 173, 3) := by decide +kernel
theorem dX11_feed_34 : decode cX11_feed 34 = .ok (.aload_n 0, 1) := by decide +kernel
theorem dX11_feed_35 : decode cX11_feed 35 = .ok (.getfield 18, 3) := by decide +kernel
theorem dX11_feed_38 : decode cX11_feed 38 = .ok (.iload_n 3, 1) := by decide +kernel
theorem dX11_feed_39 : decode cX11_feed 39 = .ok (.invokevirtual 173, 3) := by decide +kernel
theorem dX11_feed_42 : decode cX11_feed 42 = .ok (.aload_n 0, 1) := by decide +kernel
theorem dX11_feed_43 : decode cX11_feed 43 = .ok (.getfield 18, 3) := by decide +kernel
theorem dX11_feed_46 : decode cX11_feed 46 = .ok (.iload 4, 2) := by decide +kernel
theorem dX11_feed_48 : decode cX11_feed 48 = .ok (.invokevirtual 173, 3) := by decide +kernel
theorem dX11_feed_51 : decode cX11_feed 51 = .ok (.aload_n 0, 1) := by decide +kernel
theorem dX11_feed_52 : decode cX11_feed 52 = .ok (.getfield 18, 3) := by decide +kernel
theorem dX11_feed_55 : decode cX11_feed 55 = .ok (.iload 5, 2) := by decide +kernel
theorem dX11_feed_57 : decode cX11_feed 57 = .ok (.invokevirtual 173, 3) := by decide +kernel
theorem dX11_feed_60 : decode cX11_feed 60 = .ok (.aload_n 0, 1) := by decide +kernel
theorem dX11_feed_61 : decode cX11_feed 61 = .ok (.getfield 18, 3) := by decide +kernel
theorem dX11_feed_64 : decode cX11_feed 64 = .ok (.getfield 170, 3) := by decide +kernel
theorem dX11_feed_67 : decode cX11_feed 67 = .ok (.ireturn, 1) := by decide +kernel
theorem dX11_stage_0 : decode cX11_stage 0 = .ok (.iload_n 1, 1) := by decide +kernel
theorem dX11_stage_1 : decode cX11_stage 1 = .ok (.iconst 0, 1) := by decide +kernel
theorem dX11_stage_2 : decode cX11_stage 2 = .ok (.aload_n 0, 1) := by decide +kernel
theorem dX11_stage_3 : decode cX11_stage 3 = .ok (.getfield 18, 3) := by decide +kernel
theorem dX11_stage_6 : decode cX11_stage 6 = .ok (.getfield 170, 3) := by decide +kernel
theorem dX11_stage_9 : decode cX11_stage 9 = .ok (.invokestatic 127, 3) := by decide +kernel
theorem dX11_stage_12 : decode cX11_stage 12 = .ok (.ifCond .ne 9, 3) := by decide +kernel
theorem dX11_stage_15 : decode cX11_stage 15 = .ok (.aload_n 0, 1) := by decide +kernel
theorem dX11_stage_16 : decode cX11_stage 16 = .ok (.iconst 5, 1) := by decide +kernel
theorem dX11_stage_17 : decode cX11_stage 17 = .ok (.invokevirtual 143, 3) := by decide +kernel
theorem dX11_stage_20 : decode cX11_stage 20 = .ok (.ireturn, 1) := by decide +kernel
theorem dX11_stage_21 : decode cX11_stage 21 = .ok (.aload_n 0, 1) := by decide +kernel
theorem dX11_stage_22 : decode cX11_stage 22 = .ok (.getfield 18, 3) := by decide +kernel
theorem dX11_stage_25 : decode cX11_stage 25 = .ok (.iload_n 1, 1) := by decide +kernel
theorem dX11_stage_26 : decode cX11_stage 26 = .ok (.invokevirtual 177, 3) := by decide +kernel
theorem dX11_stage_29 : decode cX11_stage 29 = .ok (.new 35, 3) := by decide +kernel
theorem dX11_stage_32 : decode cX11_stage 32 = .ok (.dup, 1) := by decide +kernel
theorem dX11_stage_33 : decode cX11_stage 33 = .ok (.invokespecial 37, 3) := by decide +kernel
theorem dX11_stage_36 : decode cX11_stage 36 = .ok (.astore_n 2, 1) := by decide +kernel
theorem dX11_stage_37 : decode cX11_stage 37 = .ok (.aload_n 2, 1) := by decide +kernel
theorem dX11_stage_38 : decode cX11_stage 38 = .ok (.aload_n 0, 1) := by decide +kernel
theorem dX11_stage_39 : decode cX11_stage 39 = .ok (.getfield 18, 3) := by decide +kernel
theorem dX11_stage_42 : decode cX11_stage 42 = .ok (.invokevirtual 180, 3) := by decide +kernel
theorem dX11_stage_45 : decode cX11_stage 45 = .ok (.istore_n 3, 1) := by decide +kernel
theorem dX11_stage_46 : decode cX11_stage 46 = .ok (.aload_n 0, 1) := by decide +kernel
theorem dX11_stage_47 : decode cX11_stage 47 = .ok (.invokevirtual 184, 3) := by decide +kernel
theorem dX11_stage_50 : decode cX11_stage 50 = .ok (.iload_n 3, 1) := by decide +kernel
theorem dX11_stage_51 : decode cX11_stage 51 = .ok (.ifCond .ne 10, 3) := by decide +kernel
theorem dX11_stage_54 : decode cX11_stage 54 = .ok (.aload_n 0, 1) := by decide +kernel
theorem dX11_stage_55 : decode cX11_stage 55 = .ok (.bipush 10, 2) := by decide +kernel
theorem dX11_stage_57 : decode cX11_stage 57 = .ok (.invokevirtual 143, 3) := by decide +kernel
theorem dX11_stage_60 : decode cX11_stage 60 = .ok (.ireturn, 1) := by decide +kernel
theorem dX11_stage_61 : decode cX11_stage 61 = .ok (.aload_n 0, 1) := by decide +kernel
theorem dX11_stage_62 : decode cX11_stage 62 = .ok (.getfield 41, 3) := by decide +kernel
theorem dX11_stage_65 : decode cX11_stage 65 = .ok (.aload_n 2, 1) := by decide +kernel
theorem dX11_stage_66 : decode cX11_stage 66 = .ok (.invokevirtual 187, 3) := by decide +kernel
theorem dX11_stage_69 : decode cX11_stage 69 = .ok (.aload_n 0, 1) := by decide +kernel
theorem dX11_stage_70 : decode cX11_stage 70 = .ok (.aload_n 2, 1) := by decide +kernel
theorem dX11_stage_71 : decode cX11_stage 71 = .ok (.getfield 114, 3) := by decide +kernel
theorem dX11_stage_74 : decode cX11_stage 74 = .ok (.invokevirtual 190, 3) := by decide +kernel
theorem dX11_stage_77 : decode cX11_stage 77 = .ok (.ireturn, 1) := by decide +kernel
theorem dX11_week_0 : decode cX11_week 0 = .ok (.iload_n 1, 1) := by decide +kernel
theorem dX11_week_1 : decode cX11_week 1 = .ok (.iconst 0, 1) := by decide +kernel
theorem dX11_week_2 : decode cX11_week 2 = .ok (.aload_n 0, 1) := by decide +kernel
theorem dX11_week_3 : decode cX11_week 3 = .ok (.getfield 18, 3) := by decide +kernel
theorem dX11_week_6 : decode cX11_week 6 = .ok (.getfield 170, 3) := by decide +kernel
theorem dX11_week_9 : decode cX11_week 9 = .ok (.sipush 300, 3) := by decide +kernel
theorem dX11_week_12 : decode cX11_week 12 = .ok (.invokestatic 193, 3) := by decide +kernel
theorem dX11_week_15 : decode cX11_week 15 = .ok (.invokestatic 127, 3) := by decide +kernel
theorem dX11_week_18 : decode cX11_week 18 = .ok (.ifCond .ne 9, 3) := by decide +kernel
theorem dX11_week_21 : decode cX11_week 21 = .ok (.aload_n 0, 1) := by decide +kernel
theorem dX11_week_22 : decode cX11_week 22 = .ok (.iconst 5, 1) := by decide +kernel
theorem dX11_week_23 : decode cX11_week 23 = .ok (.invokevirtual 143, 3) := by decide +kernel
theorem dX11_week_26 : decode cX11_week 26 = .ok (.ireturn, 1) := by decide +kernel
theorem dX11_week_27 : decode cX11_week 27 = .ok (.aload_n 0, 1) := by decide +kernel
theorem dX11_week_28 : decode cX11_week 28 = .ok (.getfield 18, 3) := by decide +kernel
theorem dX11_week_31 : decode cX11_week 31 = .ok (.iload_n 1, 1) := by decide +kernel
theorem dX11_week_32 : decode cX11_week 32 = .ok (.invokevirtual 177, 3) := by decide +kernel
theorem dX11_week_35 : decode cX11_week 35 = .ok (.new 198, 3) := by decide +kernel
theorem dX11_week_38 : decode cX11_week 38 = .ok (.dup, 1) := by decide +kernel
theorem dX11_week_39 : decode cX11_week 39 = .ok (.invokespecial 200, 3) := by decide +kernel
theorem dX11_week_42 : decode cX11_week 42 = .ok (.astore_n 2, 1) := by decide +kernel
theorem dX11_week_43 : decode cX11_week 43 = .ok (.aload_n 2, 1) := by decide +kernel
theorem dX11_week_44 : decode cX11_week 44 = .ok (.aload_n 0, 1) := by decide +kernel
theorem dX11_week_45 : decode cX11_week 45 = .ok (.getfield 18, 3) := by decide +kernel
theorem dX11_week_48 : decode cX11_week 48 = .ok (.aload_n 0, 1) := by decide +kernel
theorem dX11_week_49 : decode cX11_week 49 = .ok (.getfield 41, 3) := by decide +kernel
theorem dX11_week_52 : decode cX11_week 52 = .ok (.getfield 92, 3) := by decide +kernel
theorem dX11_week_55 : decode cX11_week 55 = .ok (.invokevirtual 201, 3) := by decide +kernel
theorem dX11_week_58 : decode cX11_week 58 = .ok (.istore_n 3, 1) := by decide +kernel
theorem dX11_week_59 : decode cX11_week 59 = .ok (.aload_n 0, 1) := by decide +kernel
theorem dX11_week_60 : decode cX11_week 60 = .ok (.invokevirtual 184, 3) := by decide +kernel
theorem dX11_week_63 : decode cX11_week 63 = .ok (.iload_n 3, 1) := by decide +kernel
theorem dX11_week_64 : decode cX11_week 64 = .ok (.ifCond .ne 10, 3) := by decide +kernel
theorem dX11_week_67 : decode cX11_week 67 = .ok (.aload_n 0, 1) := by decide +kernel
theorem dX11_week_68 : decode cX11_week 68 = .ok (.bipush 10, 2) := by decide +kernel
theorem dX11_week_70 : decode cX11_week 70 = .ok (.invokevirtual 143, 3) := by decide +kernel
theorem dX11_week_73 : decode cX11_week 73 = .ok (.ireturn, 1) := by decide +kernel
theorem dX11_week_74 : decode cX11_week 74 = .ok (.aload_n 0, 1) := by decide +kernel
theorem dX11_week_75 : decode cX11_week 75 = .ok (.getfield 41, 3) := by decide +kernel
theorem dX11_week_78 : decode cX11_week 78 = .ok (.aload_n 2, 1) := by decide +kernel
theorem dX11_week_79 : decode cX11_week 79 = .ok (.putfield 204, 3) := by decide +kernel
theorem dX11_week_82 : decode cX11_week 82 = .ok (.aload_n 0, 1) := by decide +kernel
theorem dX11_week_83 : decode cX11_week 83 = .ok (.aload_n 2, 1) := by decide +kernel
theorem dX11_week_84 : decode cX11_week 84 = .ok (.getfield 208, 3) := by decide +kernel
theorem dX11_week_87 : decode cX11_week 87 = .ok (.invokevirtual 190, 3) := by decide +kernel
theorem dX11_week_90 : decode cX11_week 90 = .ok (.ireturn, 1) := by decide +kernel
theorem dX11_keepFault_0 : decode cX11_keepFault 0 = .ok (.aload_n 0, 1) := by decide +kernel
theorem dX11_keepFault_1 : decode cX11_keepFault 1 = .ok (.aload_n 0, 1) := by decide +kernel
theorem dX11_keepFault_2 : decode cX11_keepFault 2 = .ok (.getfield 18, 3) := by decide +kernel
theorem dX11_keepFault_5 : decode cX11_keepFault 5 = .ok (.getfield 211, 3) := by decide +kernel
theorem dX11_keepFault_8 : decode cX11_keepFault 8 = .ok (.putfield 26, 3) := by decide +kernel
theorem dX11_keepFault_11 : decode cX11_keepFault 11 = .ok (.aload_n 0, 1) := by decide +kernel
theorem dX11_keepFault_12 : decode cX11_keepFault 12 = .ok (.aload_n 0, 1) := by decide +kernel
theorem dX11_keepFault_13 : decode cX11_keepFault 13 = .ok (.getfield 18, 3) := by decide +kernel
theorem dX11_keepFault_16 : decode cX11_keepFault 16 = .ok (.getfield 214, 3) := by decide +kernel
theorem dX11_keepFault_19 : decode cX11_keepFault 19 = .ok (.putfield 30, 3) := by decide +kernel
theorem dX11_keepFault_22 : decode cX11_keepFault 22 = .ok (.return_, 1) := by decide +kernel
theorem dX11_fault_0 : decode cX11_fault 0 = .ok (.iload_n 1, 1) := by decide +kernel
theorem dX11_fault_1 : decode cX11_fault 1 = .ok (.ifCond .ne 8, 3) := by decide +kernel
theorem dX11_fault_4 : decode cX11_fault 4 = .ok (.aload_n 0, 1) := by decide +kernel
theorem dX11_fault_5 : decode cX11_fault 5 = .ok (.getfield 26, 3) := by decide +kernel
theorem dX11_fault_8 : decode cX11_fault 8 = .ok (.ireturn, 1) := by decide +kernel
theorem dX11_fault_9 : decode cX11_fault 9 = .ok (.iload_n 1, 1) := by decide +kernel
theorem dX11_fault_10 : decode cX11_fault 10 = .ok (.iconst 1, 1) := by decide +kernel
theorem dX11_fault_11 : decode cX11_fault 11 = .ok (.if_icmp .ne 10, 3) := by decide +kernel
theorem dX11_fault_14 : decode cX11_fault 14 = .ok (.aload_n 0, 1) := by decide +kernel
theorem dX11_fault_15 : decode cX11_fault 15 = .ok (.getfield 30, 3) := by decide +kernel
theorem dX11_fault_18 : decode cX11_fault 18 = .ok (.goto 4, 3) := by decide +kernel
theorem dX11_fault_21 : decode cX11_fault 21 = .ok (.iconst (-1), 1) := by decide +kernel
theorem dX11_fault_22 : decode cX11_fault 22 = .ok (.ireturn, 1) := by decide +kernel
theorem dX11_many_0 : decode cX11_many 0 = .ok (.iload_n 1, 1) := by decide +kernel
theorem dX11_many_1 : decode cX11_many 1 = .ok (.tableswitch 161 0 7 #[47, 62, 77, 92, 107, 122, 134, 146], 47) := by decide +kernel
theorem dX11_many_48 : decode cX11_many 48 = .ok (.aload_n 0, 1) := by decide +kernel
theorem dX11_many_49 : decode cX11_many 49 = .ok (.aload_n 0, 1) := by decide +kernel
theorem dX11_many_50 : decode cX11_many 50 = .ok (.getfield 41, 3) := by decide +kernel
theorem dX11_many_53 : decode cX11_many 53 = .ok (.getfield 92, 3) := by decide +kernel
theorem dX11_many_56 : decode cX11_many 56 = .ok (.getfield 124, 3) := by decide +kernel
theorem dX11_many_59 : decode cX11_many 59 = .ok (.invokevirtual 190, 3) := by decide +kernel
theorem dX11_many_62 : decode cX11_many 62 = .ok (.ireturn, 1) := by decide +kernel
theorem dX11_many_63 : decode cX11_many 63 = .ok (.aload_n 0, 1) := by decide +kernel
theorem dX11_many_64 : decode cX11_many 64 = .ok (.aload_n 0, 1) := by decide +kernel
theorem dX11_many_65 : decode cX11_many 65 = .ok (.getfield 41, 3) := by decide +kernel
theorem dX11_many_68 : decode cX11_many 68 = .ok (.getfield 92, 3) := by decide +kernel
theorem dX11_many_71 : decode cX11_many 71 = .ok (.getfield 217, 3) := by decide +kernel
theorem dX11_many_74 : decode cX11_many 74 = .ok (.invokevirtual 190, 3) := by decide +kernel
theorem dX11_many_77 : decode cX11_many 77 = .ok (.ireturn, 1) := by decide +kernel
theorem dX11_many_78 : decode cX11_many 78 = .ok (.aload_n 0, 1) := by decide +kernel
theorem dX11_many_79 : decode cX11_many 79 = .ok (.aload_n 0, 1) := by decide +kernel
theorem dX11_many_80 : decode cX11_many 80 = .ok (.getfield 41, 3) := by decide +kernel
theorem dX11_many_83 : decode cX11_many 83 = .ok (.getfield 92, 3) := by decide +kernel
theorem dX11_many_86 : decode cX11_many 86 = .ok (.getfield 114, 3) := by decide +kernel
theorem dX11_many_89 : decode cX11_many 89 = .ok (.invokevirtual 190, 3) := by decide +kernel
theorem dX11_many_92 : decode cX11_many 92 = .ok (.ireturn, 1) := by decide +kernel
theorem dX11_many_93 : decode cX11_many 93 = .ok (.aload_n 0, 1) := by decide +kernel
theorem dX11_many_94 : decode cX11_many 94 = .ok (.aload_n 0, 1) := by decide +kernel
theorem dX11_many_95 : decode cX11_many 95 = .ok (.getfield 41, 3) := by decide +kernel
theorem dX11_many_98 : decode cX11_many 98 = .ok (.getfield 92, 3) := by decide +kernel
theorem dX11_many_101 : decode cX11_many 101 = .ok (.getfield 121, 3) := by decide +kernel
theorem dX11_many_104 : decode cX11_many 104 = .ok (.invokevirtual 190, 3) := by decide +kernel
theorem dX11_many_107 : decode cX11_many 107 = .ok (.ireturn, 1) := by decide +kernel
theorem dX11_many_108 : decode cX11_many 108 = .ok (.aload_n 0, 1) := by decide +kernel
theorem dX11_many_109 : decode cX11_many 109 = .ok (.aload_n 0, 1) := by decide +kernel
theorem dX11_many_110 : decode cX11_many 110 = .ok (.getfield 41, 3) := by decide +kernel
theorem dX11_many_113 : decode cX11_many 113 = .ok (.getfield 220, 3) := by decide +kernel
theorem dX11_many_116 : decode cX11_many 116 = .ok (.getfield 224, 3) := by decide +kernel
theorem dX11_many_119 : decode cX11_many 119 = .ok (.invokevirtual 190, 3) := by decide +kernel
theorem dX11_many_122 : decode cX11_many 122 = .ok (.ireturn, 1) := by decide +kernel
theorem dX11_many_123 : decode cX11_many 123 = .ok (.aload_n 0, 1) := by decide +kernel
theorem dX11_many_124 : decode cX11_many 124 = .ok (.aload_n 0, 1) := by decide +kernel
theorem dX11_many_125 : decode cX11_many 125 = .ok (.getfield 41, 3) := by decide +kernel
theorem dX11_many_128 : decode cX11_many 128 = .ok (.getfield 227, 3) := by decide +kernel
theorem dX11_many_131 : decode cX11_many 131 = .ok (.invokevirtual 190, 3) := by decide +kernel
theorem dX11_many_134 : decode cX11_many 134 = .ok (.ireturn, 1) := by decide +kernel
theorem dX11_many_135 : decode cX11_many 135 = .ok (.aload_n 0, 1) := by decide +kernel
theorem dX11_many_136 : decode cX11_many 136 = .ok (.aload_n 0, 1) := by decide +kernel
theorem dX11_many_137 : decode cX11_many 137 = .ok (.getfield 41, 3) := by decide +kernel
theorem dX11_many_140 : decode cX11_many 140 = .ok (.getfield 230, 3) := by decide +kernel
theorem dX11_many_143 : decode cX11_many 143 = .ok (.invokevirtual 190, 3) := by decide +kernel
theorem dX11_many_146 : decode cX11_many 146 = .ok (.ireturn, 1) := by decide +kernel
theorem dX11_many_147 : decode cX11_many 147 = .ok (.aload_n 0, 1) := by decide +kernel
theorem dX11_many_148 : decode cX11_many 148 = .ok (.aload_n 0, 1) := by decide +kernel
theorem dX11_many_149 : decode cX11_many 149 = .ok (.getfield 41, 3) := by decide +kernel
theorem dX11_many_152 : decode cX11_many 152 = .ok (.getfield 92, 3) := by decide +kernel
theorem dX11_many_155 : decode cX11_many 155 = .ok (.invokevirtual 233, 3) := by decide +kernel
theorem dX11_many_158 : decode cX11_many 158 = .ok (.invokevirtual 190, 3) := by decide +kernel
theorem dX11_many_161 : decode cX11_many 161 = .ok (.ireturn, 1) := by decide +kernel
theorem dX11_many_162 : decode cX11_many 162 = .ok (.aload_n 0, 1) := by decide +kernel
theorem dX11_many_163 : decode cX11_many 163 = .ok (.iconst 5, 1) := by decide +kernel
theorem dX11_many_164 : decode cX11_many 164 = .ok (.invokevirtual 143, 3) := by decide +kernel
theorem dX11_many_167 : decode cX11_many 167 = .ok (.ireturn, 1) := by decide +kernel
theorem dX11_scene_0 : decode cX11_scene 0 = .ok (.aload_n 0, 1) := by decide +kernel
theorem dX11_scene_1 : decode cX11_scene 1 = .ok (.iload_n 1, 1) := by decide +kernel
theorem dX11_scene_2 : decode cX11_scene 2 = .ok (.invokevirtual 237, 3) := by decide +kernel
theorem dX11_scene_5 : decode cX11_scene 5 = .ok (.ifCond .ne 9, 3) := by decide +kernel
theorem dX11_scene_8 : decode cX11_scene 8 = .ok (.aload_n 0, 1) := by decide +kernel
theorem dX11_scene_9 : decode cX11_scene 9 = .ok (.iconst 2, 1) := by decide +kernel
theorem dX11_scene_10 : decode cX11_scene 10 = .ok (.invokevirtual 143, 3) := by decide +kernel
theorem dX11_scene_13 : decode cX11_scene 13 = .ok (.ireturn, 1) := by decide +kernel
theorem dX11_scene_14 : decode cX11_scene 14 = .ok (.iload_n 2, 1) := by decide +kernel
theorem dX11_scene_15 : decode cX11_scene 15 = .ok (.iconst 0, 1) := by decide +kernel
theorem dX11_scene_16 : decode cX11_scene 16 = .ok (.bipush 8, 2) := by decide +kernel
theorem dX11_scene_18 : decode cX11_scene 18 = .ok (.invokestatic 127, 3) := by decide +kernel
theorem dX11_scene_21 : decode cX11_scene 21 = .ok (.ifCond .ne 9, 3) := by decide +kernel
theorem dX11_scene_24 : decode cX11_scene 24 = .ok (.aload_n 0, 1) := by decide +kernel
theorem dX11_scene_25 : decode cX11_scene 25 = .ok (.iconst 5, 1) := by decide +kernel
theorem dX11_scene_26 : decode cX11_scene 26 = .ok (.invokevirtual 143, 3) := by decide +kernel
theorem dX11_scene_29 : decode cX11_scene 29 = .ok (.ireturn, 1) := by decide +kernel
theorem dX11_scene_30 : decode cX11_scene 30 = .ok (.aload_n 0, 1) := by decide +kernel
theorem dX11_scene_31 : decode cX11_scene 31 = .ok (.getfield 41, 3) := by decide +kernel
theorem dX11_scene_34 : decode cX11_scene 34 = .ok (.getfield 92, 3) := by decide +kernel
theorem dX11_scene_37 : decode cX11_scene 37 = .ok (.iload_n 1, 1) := by decide +kernel
theorem dX11_scene_38 : decode cX11_scene 38 = .ok (.iload_n 2, 1) := by decide +kernel
theorem dX11_scene_39 : decode cX11_scene 39 = .ok (.invokevirtual 240, 3) := by decide +kernel
theorem dX11_scene_42 : decode cX11_scene 42 = .ok (.istore_n 3, 1) := by decide +kernel
theorem dX11_scene_43 : decode cX11_scene 43 = .ok (.iload_n 3, 1) := by decide +kernel
theorem dX11_scene_44 : decode cX11_scene 44 = .ok (.iconst (-1), 1) := by decide +kernel
theorem dX11_scene_45 : decode cX11_scene 45 = .ok (.if_icmp .ne 12, 3) := by decide +kernel
theorem dX11_scene_48 : decode cX11_scene 48 = .ok (.aload_n 0, 1) := by decide +kernel
theorem dX11_scene_49 : decode cX11_scene 49 = .ok (.bipush 8, 2) := by decide +kernel
theorem dX11_scene_51 : decode cX11_scene 51 = .ok (.invokevirtual 143, 3) := by decide +kernel
theorem dX11_scene_54 : decode cX11_scene 54 = .ok (.goto 8, 3) := by decide +kernel
theorem dX11_scene_57 : decode cX11_scene 57 = .ok (.aload_n 0, 1) := by decide +kernel
theorem dX11_scene_58 : decode cX11_scene 58 = .ok (.iload_n 3, 1) := by decide +kernel
theorem dX11_scene_59 : decode cX11_scene 59 = .ok (.invokevirtual 190, 3) := by decide +kernel
theorem dX11_scene_62 : decode cX11_scene 62 = .ok (.ireturn, 1) := by decide +kernel
theorem dX11_kind_0 : decode cX11_kind 0 = .ok (.aload_n 0, 1) := by decide +kernel
theorem dX11_kind_1 : decode cX11_kind 1 = .ok (.iload_n 1, 1) := by decide +kernel
theorem dX11_kind_2 : decode cX11_kind 2 = .ok (.invokevirtual 243, 3) := by decide +kernel
theorem dX11_kind_5 : decode cX11_kind 5 = .ok (.ifCond .ne 9, 3) := by decide +kernel
theorem dX11_kind_8 : decode cX11_kind 8 = .ok (.aload_n 0, 1) := by decide +kernel
theorem dX11_kind_9 : decode cX11_kind 9 = .ok (.iconst 2, 1) := by decide +kernel
theorem dX11_kind_10 : decode cX11_kind 10 = .ok (.invokevirtual 143, 3) := by decide +kernel
theorem dX11_kind_13 : decode cX11_kind 13 = .ok (.ireturn, 1) := by decide +kernel
theorem dX11_kind_14 : decode cX11_kind 14 = .ok (.iload_n 2, 1) := by decide +kernel
theorem dX11_kind_15 : decode cX11_kind 15 = .ok (.iconst 0, 1) := by decide +kernel
theorem dX11_kind_16 : decode cX11_kind 16 = .ok (.iconst 3, 1) := by decide +kernel
theorem dX11_kind_17 : decode cX11_kind 17 = .ok (.invokestatic 127, 3) := by decide +kernel
theorem dX11_kind_20 : decode cX11_kind 20 = .ok (.ifCond .ne 9, 3) := by decide +kernel
theorem dX11_kind_23 : decode cX11_kind 23 = .ok (.aload_n 0, 1) := by decide +kernel
theorem dX11_kind_24 : decode cX11_kind 24 = .ok (.iconst 5, 1) := by decide +kernel
theorem dX11_kind_25 : decode cX11_kind 25 = .ok (.invokevirtual 143, 3) := by decide +kernel
theorem dX11_kind_28 : decode cX11_kind 28 = .ok (.ireturn, 1) := by decide +kernel
theorem dX11_kind_29 : decode cX11_kind 29 = .ok (.aload_n 0, 1) := by decide +kernel
theorem dX11_kind_30 : decode cX11_kind 30 = .ok (.iload_n 2, 1) := by decide +kernel
theorem dX11_kind_31 : decode cX11_kind 31 = .ok (.ifCond .ne 18, 3) := by decide +kernel
theorem dX11_kind_34 : decode cX11_kind 34 = .ok (.aload_n 0, 1) := by decide +kernel
theorem dX11_kind_35 : decode cX11_kind 35 = .ok (.getfield 41, 3) := by decide +kernel
theorem dX11_kind_38 : decode cX11_kind 38 = .ok (.getfield 92, 3) := by decide +kernel
theorem dX11_kind_41 : decode cX11_kind 41 = .ok (.getfield 246, 3) := by decide +kernel
theorem dX11_kind_44 : decode cX11_kind 44 = .ok (.iload_n 1, 1) := by decide +kernel
theorem dX11_kind_45 : decode cX11_kind 45 = .ok (.iaload, 1) := by decide +kernel
theorem dX11_kind_46 : decode cX11_kind 46 = .ok (.goto 19, 3) := by decide +kernel
theorem dX11_kind_49 : decode cX11_kind 49 = .ok (.aload_n 0, 1) := by decide +kernel
theorem dX11_kind_50 : decode cX11_kind 50 = .ok (.getfield 41, 3) := by decide +kernel
theorem dX11_kind_53 : decode cX11_kind 53 = .ok (.getfield 92, 3) := by decide +kernel
theorem dX11_kind_56 : decode cX11_kind 56 = .ok (.getfield 249, 3) := by decide +kernel
theorem dX11_kind_59 : decode cX11_kind 59 = .ok (.iload_n 1, 1) := by decide +kernel
theorem dX11_kind_60 : decode cX11_kind 60 = .ok (.iconst 4, 1) := by decide +kernel
theorem dX11_kind_61 : decode cX11_kind 61 = .ok (.imul, 1) := by decide +kernel
theorem dX11_kind_62 : decode cX11_kind 62 = .ok (.iload_n 2, 1) := by decide +kernel
theorem dX11_kind_63 : decode cX11_kind 63 = .ok (.iadd, 1) := by decide +kernel
theorem dX11_kind_64 : decode cX11_kind 64 = .ok (.iaload, 1) := by decide +kernel
theorem dX11_kind_65 : decode cX11_kind 65 = .ok (.invokevirtual 190, 3) := by decide +kernel
theorem dX11_kind_68 : decode cX11_kind 68 = .ok (.ireturn, 1) := by decide +kernel
theorem dX11_actor_0 : decode cX11_actor 0 = .ok (.iload_n 1, 1) := by decide +kernel
theorem dX11_actor_1 : decode cX11_actor 1 = .ok (.aload_n 0, 1) := by decide +kernel
theorem dX11_actor_2 : decode cX11_actor 2 = .ok (.getfield 41, 3) := by decide +kernel
theorem dX11_actor_5 : decode cX11_actor 5 = .ok (.getfield 92, 3) := by decide +kernel
theorem dX11_actor_8 : decode cX11_actor 8 = .ok (.getfield 217, 3) := by decide +kernel
theorem dX11_actor_11 : decode cX11_actor 11 = .ok (.invokestatic 117, 3) := by decide +kernel
theorem dX11_actor_14 : decode cX11_actor 14 = .ok (.ifCond .ne 9, 3) := by decide +kernel
theorem dX11_actor_17 : decode cX11_actor 17 = .ok (.aload_n 0, 1) := by decide +kernel
theorem dX11_actor_18 : decode cX11_actor 18 = .ok (.iconst 2, 1) := by decide +kernel
theorem dX11_actor_19 : decode cX11_actor 19 = .ok (.invokevirtual 143, 3) := by decide +kernel
theorem dX11_actor_22 : decode cX11_actor 22 = .ok (.ireturn, 1) := by decide +kernel
theorem dX11_actor_23 : decode cX11_actor 23 = .ok (.iload_n 2, 1) := by decide +kernel
theorem dX11_actor_24 : decode cX11_actor 24 = .ok (.tableswitch 79 0 2 #[28, 45, 62], 28) := by decide +kernel
theorem dX11_actor_52 : decode cX11_actor 52 = .ok (.aload_n 0, 1) := by decide +kernel
theorem dX11_actor_53 : decode cX11_actor 53 = .ok (.aload_n 0, 1) := by decide +kernel
theorem dX11_actor_54 : decode cX11_actor 54 = .ok (.getfield 41, 3) := by decide +kernel
theorem dX11_actor_57 : decode cX11_actor 57 = .ok (.getfield 92, 3) := by decide +kernel
theorem dX11_actor_60 : decode cX11_actor 60 = .ok (.getfield 252, 3) := by decide +kernel
theorem dX11_actor_63 : decode cX11_actor 63 = .ok (.iload_n 1, 1) := by decide +kernel
theorem dX11_actor_64 : decode cX11_actor 64 = .ok (.iaload, 1) := by decide +kernel
theorem dX11_actor_65 : decode cX11_actor 65 = .ok (.invokevirtual 190, 3) := by decide +kernel
theorem dX11_actor_68 : decode cX11_actor 68 = .ok (.ireturn, 1) := by decide +kernel
theorem dX11_actor_69 : decode cX11_actor 69 = .ok (.aload_n 0, 1) := by decide +kernel
theorem dX11_actor_70 : decode cX11_actor 70 = .ok (.aload_n 0, 1) := by decide +kernel
theorem dX11_actor_71 : decode cX11_actor 71 = .ok (.getfield 41, 3) := by decide +kernel
theorem dX11_actor_74 : decode cX11_actor 74 = .ok (.getfield 92, 3) := by decide +kernel
theorem dX11_actor_77 : decode cX11_actor 77 = .ok (.getfield 255, 3) := by decide +kernel
theorem dX11_actor_80 : decode cX11_actor 80 = .ok (.iload_n 1, 1) := by decide +kernel
theorem dX11_actor_81 : decode cX11_actor 81 = .ok (.iaload, 1) := by decide +kernel
theorem dX11_actor_82 : decode cX11_actor 82 = .ok (.invokevirtual 190, 3) := by decide +kernel
theorem dX11_actor_85 : decode cX11_actor 85 = .ok (.ireturn, 1) := by decide +kernel
theorem dX11_actor_86 : decode cX11_actor 86 = .ok (.aload_n 0, 1) := by decide +kernel
theorem dX11_actor_87 : decode cX11_actor 87 = .ok (.aload_n 0, 1) := by decide +kernel
theorem dX11_actor_88 : decode cX11_actor 88 = .ok (.getfield 41, 3) := by decide +kernel
theorem dX11_actor_91 : decode cX11_actor 91 = .ok (.getfield 92, 3) := by decide +kernel
theorem dX11_actor_94 : decode cX11_actor 94 = .ok (.getfield 258, 3) := by decide +kernel
theorem dX11_actor_97 : decode cX11_actor 97 = .ok (.iload_n 1, 1) := by decide +kernel
theorem dX11_actor_98 : decode cX11_actor 98 = .ok (.iaload, 1) := by decide +kernel
theorem dX11_actor_99 : decode cX11_actor 99 = .ok (.invokevirtual 190, 3) := by decide +kernel
theorem dX11_actor_102 : decode cX11_actor 102 = .ok (.ireturn, 1) := by decide +kernel
theorem dX11_actor_103 : decode cX11_actor 103 = .ok (.aload_n 0, 1) := by decide +kernel
theorem dX11_actor_104 : decode cX11_actor 104 = .ok (.iconst 5, 1) := by decide +kernel
theorem dX11_actor_105 : decode cX11_actor 105 = .ok (.invokevirtual 143, 3) := by decide +kernel
theorem dX11_actor_108 : decode cX11_actor 108 = .ok (.ireturn, 1) := by decide +kernel
theorem dX11_bar_0 : decode cX11_bar 0 = .ok (.aload_n 0, 1) := by decide +kernel
theorem dX11_bar_1 : decode cX11_bar 1 = .ok (.iload_n 1, 1) := by decide +kernel
theorem dX11_bar_2 : decode cX11_bar 2 = .ok (.invokevirtual 237, 3) := by decide +kernel
theorem dX11_bar_5 : decode cX11_bar 5 = .ok (.ifCond .ne 9, 3) := by decide +kernel
theorem dX11_bar_8 : decode cX11_bar 8 = .ok (.aload_n 0, 1) := by decide +kernel
theorem dX11_bar_9 : decode cX11_bar 9 = .ok (.iconst 2, 1) := by decide +kernel
theorem dX11_bar_10 : decode cX11_bar 10 = .ok (.invokevirtual 106, 3) := by decide +kernel
theorem dX11_bar_13 : decode cX11_bar 13 = .ok (.ireturn, 1) := by decide +kernel
theorem dX11_bar_14 : decode cX11_bar 14 = .ok (.aload_n 0, 1) := by decide +kernel
theorem dX11_bar_15 : decode cX11_bar 15 = .ok (.getfield 41, 3) := by decide +kernel
theorem dX11_bar_18 : decode cX11_bar 18 = .ok (.iload_n 1, 1) := by decide +kernel
theorem dX11_bar_19 : decode cX11_bar 19 = .ok (.iload_n 2, 1) := by decide +kernel
theorem dX11_bar_20 : decode cX11_bar 20 = .ok (.invokevirtual 261, 3) := by decide +kernel
theorem dX11_bar_23 : decode cX11_bar 23 = .ok (.aload_n 0, 1) := by decide +kernel
theorem dX11_bar_24 : decode cX11_bar 24 = .ok (.invokevirtual 110, 3) := by decide +kernel
theorem dX11_bar_27 : decode cX11_bar 27 = .ok (.ireturn, 1) := by decide +kernel
theorem dX11_kill_0 : decode cX11_kill 0 = .ok (.aload_n 0, 1) := by decide +kernel
theorem dX11_kill_1 : decode cX11_kill 1 = .ok (.iload_n 1, 1) := by decide +kernel
theorem dX11_kill_2 : decode cX11_kill 2 = .ok (.invokevirtual 265, 3) := by decide +kernel
theorem dX11_kill_5 : decode cX11_kill 5 = .ok (.ifCond .ne 9, 3) := by decide +kernel
theorem dX11_kill_8 : decode cX11_kill 8 = .ok (.aload_n 0, 1) := by decide +kernel
theorem dX11_kill_9 : decode cX11_kill 9 = .ok (.iconst 2, 1) := by decide +kernel
theorem dX11_kill_10 : decode cX11_kill 10 = .ok (.invokevirtual 106, 3) := by decide +kernel
theorem dX11_kill_13 : decode cX11_kill 13 = .ok (.ireturn, 1) := by decide +kernel
theorem dX11_kill_14 : decode cX11_kill 14 = .ok (.aload_n 0, 1) := by decide +kernel
theorem dX11_kill_15 : decode cX11_kill 15 = .ok (.getfield 41, 3) := by decide +kernel
theorem dX11_kill_18 : decode cX11_kill 18 = .ok (.iload_n 1, 1) := by decide +kernel
theorem dX11_kill_19 : decode cX11_kill 19 = .ok (.iload_n 2, 1) := by decide +kernel
theorem dX11_kill_20 : decode cX11_kill 20 = .ok (.invokevirtual 268, 3) := by decide +kernel
theorem dX11_kill_23 : decode cX11_kill 23 = .ok (.aload_n 0, 1) := by decide +kernel
theorem dX11_kill_24 : decode cX11_kill 24 = .ok (.invokevirtual 110, 3) := by decide +kernel
theorem dX11_kill_27 : decode cX11_kill 27 = .ok (.ireturn, 1) := by decide +kernel
theorem dX11_night_0 : decode cX11_night 0 = .ok (.iload_n 1, 1) := by decide +kernel
theorem dX11_night_1 : decode cX11_night 1 = .ok (.iconst 4, 1) := by decide +kernel
theorem dX11_night_2 : decode cX11_night 2 = .ok (.invokestatic 117, 3) := by decide +kernel
theorem dX11_night_5 : decode cX11_night 5 = .ok (.ifCond .ne 9, 3) := by decide +kernel
theorem dX11_night_8 : decode cX11_night 8 = .ok (.aload_n 0, 1) := by decide +kernel
theorem dX11_night_9 : decode cX11_night 9 = .ok (.iconst 1, 1) := by decide +kernel
theorem dX11_night_10 : decode cX11_night 10 = .ok (.invokevirtual 143, 3) := by decide +kernel
theorem dX11_night_13 : decode cX11_night 13 = .ok (.ireturn, 1) := by decide +kernel
theorem dX11_night_14 : decode cX11_night 14 = .ok (.aload_n 0, 1) := by decide +kernel
theorem dX11_night_15 : decode cX11_night 15 = .ok (.getfield 11, 3) := by decide +kernel
theorem dX11_night_18 : decode cX11_night 18 = .ok (.iload_n 1, 1) := by decide +kernel
theorem dX11_night_19 : decode cX11_night 19 = .ok (.aaload, 1) := by decide +kernel
theorem dX11_night_20 : decode cX11_night 20 = .ok (.astore_n 3, 1) := by decide +kernel
theorem dX11_night_21 : decode cX11_night 21 = .ok (.aload_n 3, 1) := by decide +kernel
theorem dX11_night_22 : decode cX11_night 22 = .ok (.getfield 151, 3) := by decide +kernel
theorem dX11_night_25 : decode cX11_night 25 = .ok (.ifCond .ne 9, 3) := by decide +kernel
theorem dX11_night_28 : decode cX11_night 28 = .ok (.aload_n 0, 1) := by decide +kernel
theorem dX11_night_29 : decode cX11_night 29 = .ok (.iconst 3, 1) := by decide +kernel
theorem dX11_night_30 : decode cX11_night 30 = .ok (.invokevirtual 143, 3) := by decide +kernel
theorem dX11_night_33 : decode cX11_night 33 = .ok (.ireturn, 1) := by decide +kernel
theorem dX11_night_34 : decode cX11_night 34 = .ok (.iload_n 2, 1) := by decide +kernel
theorem dX11_night_35 : decode cX11_night 35 = .ok (.iconst 0, 1) := by decide +kernel
theorem dX11_night_36 : decode cX11_night 36 = .ok (.bipush 12, 2) := by decide +kernel
theorem dX11_night_38 : decode cX11_night 38 = .ok (.invokestatic 127, 3) := by decide +kernel
theorem dX11_night_41 : decode cX11_night 41 = .ok (.ifCond .ne 9, 3) := by decide +kernel
theorem dX11_night_44 : decode cX11_night 44 = .ok (.aload_n 0, 1) := by decide +kernel
theorem dX11_night_45 : decode cX11_night 45 = .ok (.iconst 5, 1) := by decide +kernel
theorem dX11_night_46 : decode cX11_night 46 = .ok (.invokevirtual 143, 3) := by decide +kernel
theorem dX11_night_49 : decode cX11_night 49 = .ok (.ireturn, 1) := by decide +kernel
theorem dX11_night_50 : decode cX11_night 50 = .ok (.aload_n 3, 1) := by decide +kernel
theorem dX11_night_51 : decode cX11_night 51 = .ok (.iconst 0, 1) := by decide +kernel
theorem dX11_night_52 : decode cX11_night 52 = .ok (.iload_n 2, 1) := by decide +kernel
theorem dX11_night_53 : decode cX11_night 53 = .ok (.invokevirtual 161, 3) := by decide +kernel
theorem dX11_night_56 : decode cX11_night 56 = .ok (.ifCond .ne 9, 3) := by decide +kernel
theorem dX11_night_59 : decode cX11_night 59 = .ok (.aload_n 0, 1) := by decide +kernel
theorem dX11_night_60 : decode cX11_night 60 = .ok (.iconst 4, 1) := by decide +kernel
theorem dX11_night_61 : decode cX11_night 61 = .ok (.invokevirtual 143, 3) := by decide +kernel
theorem dX11_night_64 : decode cX11_night 64 = .ok (.ireturn, 1) := by decide +kernel
theorem dX11_night_65 : decode cX11_night 65 = .ok (.aload_n 3, 1) := by decide +kernel
theorem dX11_night_66 : decode cX11_night 66 = .ok (.iload_n 2, 1) := by decide +kernel
theorem dX11_night_67 : decode cX11_night 67 = .ok (.invokevirtual 271, 3) := by decide +kernel
theorem dX11_night_70 : decode cX11_night 70 = .ok (.ifCond .ne 9, 3) := by decide +kernel
theorem dX11_night_73 : decode cX11_night 73 = .ok (.aload_n 0, 1) := by decide +kernel
theorem dX11_night_74 : decode cX11_night 74 = .ok (.iconst 5, 1) := by decide +kernel
theorem dX11_night_75 : decode cX11_night 75 = .ok (.invokevirtual 143, 3) := by decide +kernel
theorem dX11_night_78 : decode cX11_night 78 = .ok (.ireturn, 1) := by decide +kernel
theorem dX11_night_79 : decode cX11_night 79 = .ok (.aload_n 0, 1) := by decide +kernel
theorem dX11_night_80 : decode cX11_night 80 = .ok (.getfield 41, 3) := by decide +kernel
theorem dX11_night_83 : decode cX11_night 83 = .ok (.invokevirtual 274, 3) := by decide +kernel
theorem dX11_night_86 : decode cX11_night 86 = .ok (.ifCond .ne 10, 3) := by decide +kernel
theorem dX11_night_89 : decode cX11_night 89 = .ok (.aload_n 0, 1) := by decide +kernel
theorem dX11_night_90 : decode cX11_night 90 = .ok (.bipush 9, 2) := by decide +kernel
theorem dX11_night_92 : decode cX11_night 92 = .ok (.invokevirtual 143, 3) := by decide +kernel
theorem dX11_night_95 : decode cX11_night 95 = .ok (.ireturn, 1) := by decide +kernel
theorem dX11_night_96 : decode cX11_night 96 = .ok (.aload_n 0, 1) := by decide +kernel
theorem dX11_night_97 : decode cX11_night 97 = .ok (.getfield 52, 3) := by decide +kernel
theorem dX11_night_100 : decode cX11_night 100 = .ok (.aload_n 0, 1) := by decide +kernel
theorem dX11_night_101 : decode cX11_night 101 = .ok (.getfield 41, 3) := by decide +kernel
theorem dX11_night_104 : decode cX11_night 104 = .ok (.aload_n 3, 1) := by decide +kernel
theorem dX11_night_105 : decode cX11_night 105 = .ok (.getfield 147, 3) := by decide +kernel
theorem dX11_night_108 : decode cX11_night 108 = .ok (.iload_n 2, 1) := by decide +kernel
theorem dX11_night_109 : decode cX11_night 109 = .ok (.invokevirtual 277, 3) := by decide +kernel
theorem dX11_night_112 : decode cX11_night 112 = .ok (.aload_n 0, 1) := by decide +kernel
theorem dX11_night_113 : decode cX11_night 113 = .ok (.getfield 41, 3) := by decide +kernel
theorem dX11_night_116 : decode cX11_night 116 = .ok (.getfield 220, 3) := by decide +kernel
theorem dX11_night_119 : decode cX11_night 119 = .ok (.aload_n 0, 1) := by decide +kernel
theorem dX11_night_120 : decode cX11_night 120 = .ok (.getfield 52, 3) := by decide +kernel
theorem dX11_night_123 : decode cX11_night 123 = .ok (.invokevirtual 281, 3) := by decide +kernel
theorem dX11_night_126 : decode cX11_night 126 = .ok (.aload_n 0, 1) := by decide +kernel
theorem dX11_night_127 : decode cX11_night 127 = .ok (.aload_n 0, 1) := by decide +kernel
theorem dX11_night_128 : decode cX11_night 128 = .ok (.getfield 52, 3) := by decide +kernel
theorem dX11_night_131 : decode cX11_night 131 = .ok (.getfield 285, 3) := by decide +kernel
theorem dX11_night_134 : decode cX11_night 134 = .ok (.invokevirtual 190, 3) := by decide +kernel
theorem dX11_night_137 : decode cX11_night 137 = .ok (.ireturn, 1) := by decide +kernel
theorem dX11_lot_0 : decode cX11_lot 0 = .ok (.iload_n 1, 1) := by decide +kernel
theorem dX11_lot_1 : decode cX11_lot 1 = .ok (.iconst 0, 1) := by decide +kernel
theorem dX11_lot_2 : decode cX11_lot 2 = .ok (.sipush 9999, 3) := by decide +kernel
theorem dX11_lot_5 : decode cX11_lot 5 = .ok (.invokestatic 127, 3) := by decide +kernel
theorem dX11_lot_8 : decode cX11_lot 8 = .ok (.ifCond .ne 9, 3) := by decide +kernel
theorem dX11_lot_11 : decode cX11_lot 11 = .ok (.aload_n 0, 1) := by decide +kernel
theorem dX11_lot_12 : decode cX11_lot 12 = .ok (.iconst 5, 1) := by decide +kernel
theorem dX11_lot_13 : decode cX11_lot 13 = .ok (.invokevirtual 143, 3) := by decide +kernel
theorem dX11_lot_16 : decode cX11_lot 16 = .ok (.ireturn, 1) := by decide +kernel
theorem dX11_lot_17 : decode cX11_lot 17 = .ok (.aload_n 0, 1) := by decide +kernel
theorem dX11_lot_18 : decode cX11_lot 18 = .ok (.getfield 41, 3) := by decide +kernel
theorem dX11_lot_21 : decode cX11_lot 21 = .ok (.getfield 92, 3) := by decide +kernel
theorem dX11_lot_24 : decode cX11_lot 24 = .ok (.getfield 121, 3) := by decide +kernel
theorem dX11_lot_27 : decode cX11_lot 27 = .ok (.ifCond .ne 10, 3) := by decide +kernel
theorem dX11_lot_30 : decode cX11_lot 30 = .ok (.aload_n 0, 1) := by decide +kernel
theorem dX11_lot_31 : decode cX11_lot 31 = .ok (.bipush 8, 2) := by decide +kernel
theorem dX11_lot_33 : decode cX11_lot 33 = .ok (.invokevirtual 143, 3) := by decide +kernel
theorem dX11_lot_36 : decode cX11_lot 36 = .ok (.ireturn, 1) := by decide +kernel
theorem dX11_lot_37 : decode cX11_lot 37 = .ok (.aload_n 0, 1) := by decide +kernel
theorem dX11_lot_38 : decode cX11_lot 38 = .ok (.getfield 41, 3) := by decide +kernel
theorem dX11_lot_41 : decode cX11_lot 41 = .ok (.invokevirtual 274, 3) := by decide +kernel
theorem dX11_lot_44 : decode cX11_lot 44 = .ok (.ifCond .ne 10, 3) := by decide +kernel
theorem dX11_lot_47 : decode cX11_lot 47 = .ok (.aload_n 0, 1) := by decide +kernel
theorem dX11_lot_48 : decode cX11_lot 48 = .ok (.bipush 9, 2) := by decide +kernel
theorem dX11_lot_50 : decode cX11_lot 50 = .ok (.invokevirtual 143, 3) := by decide +kernel
theorem dX11_lot_53 : decode cX11_lot 53 = .ok (.ireturn, 1) := by decide +kernel
theorem dX11_lot_54 : decode cX11_lot 54 = .ok (.aload_n 0, 1) := by decide +kernel
theorem dX11_lot_55 : decode cX11_lot 55 = .ok (.getfield 52, 3) := by decide +kernel
theorem dX11_lot_58 : decode cX11_lot 58 = .ok (.iload_n 1, 1) := by decide +kernel
theorem dX11_lot_59 : decode cX11_lot 59 = .ok (.invokevirtual 288, 3) := by decide +kernel
theorem dX11_lot_62 : decode cX11_lot 62 = .ok (.aload_n 0, 1) := by decide +kernel
theorem dX11_lot_63 : decode cX11_lot 63 = .ok (.getfield 52, 3) := by decide +kernel
theorem dX11_lot_66 : decode cX11_lot 66 = .ok (.aload_n 0, 1) := by decide +kernel
theorem dX11_lot_67 : decode cX11_lot 67 = .ok (.getfield 41, 3) := by decide +kernel
theorem dX11_lot_70 : decode cX11_lot 70 = .ok (.aload_n 0, 1) := by decide +kernel
theorem dX11_lot_71 : decode cX11_lot 71 = .ok (.getfield 52, 3) := by decide +kernel
theorem dX11_lot_74 : decode cX11_lot 74 = .ok (.aload_n 0, 1) := by decide +kernel
theorem dX11_lot_75 : decode cX11_lot 75 = .ok (.getfield 41, 3) := by decide +kernel
theorem dX11_lot_78 : decode cX11_lot 78 = .ok (.getfield 92, 3) := by decide +kernel
theorem dX11_lot_81 : decode cX11_lot 81 = .ok (.invokevirtual 291, 3) := by decide +kernel
theorem dX11_lot_84 : decode cX11_lot 84 = .ok (.invokevirtual 295, 3) := by decide +kernel
theorem dX11_lot_87 : decode cX11_lot 87 = .ok (.aload_n 0, 1) := by decide +kernel
theorem dX11_lot_88 : decode cX11_lot 88 = .ok (.getfield 41, 3) := by decide +kernel
theorem dX11_lot_91 : decode cX11_lot 91 = .ok (.getfield 220, 3) := by decide +kernel
theorem dX11_lot_94 : decode cX11_lot 94 = .ok (.aload_n 0, 1) := by decide +kernel
theorem dX11_lot_95 : decode cX11_lot 95 = .ok (.getfield 52, 3) := by decide +kernel
theorem dX11_lot_98 : decode cX11_lot 98 = .ok (.invokevirtual 281, 3) := by decide +kernel
theorem dX11_lot_101 : decode cX11_lot 101 = .ok (.aload_n 0, 1) := by decide +kernel
theorem dX11_lot_102 : decode cX11_lot 102 = .ok (.aload_n 0, 1) := by decide +kernel
theorem dX11_lot_103 : decode cX11_lot 103 = .ok (.getfield 52, 3) := by decide +kernel
theorem dX11_lot_106 : decode cX11_lot 106 = .ok (.getfield 299, 3) := by decide +kernel
theorem dX11_lot_109 : decode cX11_lot 109 = .ok (.invokevirtual 190, 3) := by decide +kernel
theorem dX11_lot_112 : decode cX11_lot 112 = .ok (.ireturn, 1) := by decide +kernel
theorem dX11_book_0 : decode cX11_book 0 = .ok (.iload_n 2, 1) := by decide +kernel
theorem dX11_book_1 : decode cX11_book 1 = .ok (.iconst 0, 1) := by decide +kernel
theorem dX11_book_2 : decode cX11_book 2 = .ok (.iconst 3, 1) := by decide +kernel
theorem dX11_book_3 : decode cX11_book 3 = .ok (.invokestatic 127, 3) := by decide +kernel
theorem dX11_book_6 : decode cX11_book 6 = .ok (.ifCond .ne 9, 3) := by decide +kernel
theorem dX11_book_9 : decode cX11_book 9 = .ok (.aload_n 0, 1) := by decide +kernel
theorem dX11_book_10 : decode cX11_book 10 = .ok (.iconst 5, 1) := by decide +kernel
theorem dX11_book_11 : decode cX11_book 11 = .ok (.invokevirtual 143, 3) := by decide +kernel
theorem dX11_book_14 : decode cX11_book 14 = .ok (.ireturn, 1) := by decide +kernel
theorem dX11_book_15 : decode cX11_book 15 = .ok (.iload_n 1, 1) := by decide +kernel
theorem dX11_book_16 : decode cX11_book 16 = .ok (.aload_n 0, 1) := by decide +kernel
theorem dX11_book_17 : decode cX11_book 17 = .ok (.getfield 41, 3) := by decide +kernel
theorem dX11_book_20 : decode cX11_book 20 = .ok (.getfield 220, 3) := by decide +kernel
theorem dX11_book_23 : decode cX11_book 23 = .ok (.getfield 224, 3) := by decide +kernel
theorem dX11_book_26 : decode cX11_book 26 = .ok (.invokestatic 117, 3) := by decide +kernel
theorem dX11_book_29 : decode cX11_book 29 = .ok (.ifCond .ne 10, 3) := by decide +kernel
theorem dX11_book_32 : decode cX11_book 32 = .ok (.aload_n 0, 1) := by decide +kernel
theorem dX11_book_33 : decode cX11_book 33 = .ok (.bipush 8, 2) := by decide +kernel
theorem dX11_book_35 : decode cX11_book 35 = .ok (.invokevirtual 143, 3) := by decide +kernel
theorem dX11_book_38 : decode cX11_book 38 = .ok (.ireturn, 1) := by decide +kernel
theorem dX11_book_39 : decode cX11_book 39 = .ok (.aload_n 0, 1) := by decide +kernel
theorem dX11_book_40 : decode cX11_book 40 = .ok (.aload_n 0, 1) := by decide +kernel
theorem dX11_book_41 : decode cX11_book 41 = .ok (.getfield 41, 3) := by decide +kernel
theorem dX11_book_44 : decode cX11_book 44 = .ok (.getfield 220, 3) := by decide +kernel
theorem dX11_book_47 : decode cX11_book 47 = .ok (.iload_n 1, 1) := by decide +kernel
theorem dX11_book_48 : decode cX11_book 48 = .ok (.iload_n 2, 1) := by decide +kernel
theorem dX11_book_49 : decode cX11_book 49 = .ok (.invokevirtual 302, 3) := by decide +kernel
theorem dX11_book_52 : decode cX11_book 52 = .ok (.invokevirtual 190, 3) := by decide +kernel
theorem dX11_book_55 : decode cX11_book 55 = .ok (.ireturn, 1) := by decide +kernel
theorem dX11_unseen_0 : decode cX11_unseen 0 = .ok (.aload_n 0, 1) := by decide +kernel
theorem dX11_unseen_1 : decode cX11_unseen 1 = .ok (.aload_n 0, 1) := by decide +kernel
theorem dX11_unseen_2 : decode cX11_unseen 2 = .ok (.getfield 41, 3) := by decide +kernel
theorem dX11_unseen_5 : decode cX11_unseen 5 = .ok (.getfield 92, 3) := by decide +kernel
theorem dX11_unseen_8 : decode cX11_unseen 8 = .ok (.invokevirtual 305, 3) := by decide +kernel
theorem dX11_unseen_11 : decode cX11_unseen 11 = .ok (.aload_n 0, 1) := by decide +kernel
theorem dX11_unseen_12 : decode cX11_unseen 12 = .ok (.getfield 41, 3) := by decide +kernel
theorem dX11_unseen_15 : decode cX11_unseen 15 = .ok (.getfield 220, 3) := by decide +kernel
theorem dX11_unseen_18 : decode cX11_unseen 18 = .ok (.invokevirtual 308, 3) := by decide +kernel
theorem dX11_unseen_21 : decode cX11_unseen 21 = .ok (.iconst (-1), 1) := by decide +kernel
theorem dX11_unseen_22 : decode cX11_unseen 22 = .ok (.ixor, 1) := by decide +kernel
theorem dX11_unseen_23 : decode cX11_unseen 23 = .ok (.iand, 1) := by decide +kernel
theorem dX11_unseen_24 : decode cX11_unseen 24 = .ok (.invokevirtual 190, 3) := by decide +kernel
theorem dX11_unseen_27 : decode cX11_unseen 27 = .ok (.ireturn, 1) := by decide +kernel
theorem dX11_led_0 : decode cX11_led 0 = .ok (.aload_n 0, 1) := by decide +kernel
theorem dX11_led_1 : decode cX11_led 1 = .ok (.getfield 41, 3) := by decide +kernel
theorem dX11_led_4 : decode cX11_led 4 = .ok (.getfield 92, 3) := by decide +kernel
theorem dX11_led_7 : decode cX11_led 7 = .ok (.iload_n 1, 1) := by decide +kernel
theorem dX11_led_8 : decode cX11_led 8 = .ok (.invokevirtual 311, 3) := by decide +kernel
theorem dX11_led_11 : decode cX11_led 11 = .ok (.istore_n 2, 1) := by decide +kernel
theorem dX11_led_12 : decode cX11_led 12 = .ok (.iload_n 2, 1) := by decide +kernel
theorem dX11_led_13 : decode cX11_led 13 = .ok (.iconst (-1), 1) := by decide +kernel
theorem dX11_led_14 : decode cX11_led 14 = .ok (.if_icmp .ne 11, 3) := by decide +kernel
theorem dX11_led_17 : decode cX11_led 17 = .ok (.aload_n 0, 1) := by decide +kernel
theorem dX11_led_18 : decode cX11_led 18 = .ok (.iconst 5, 1) := by decide +kernel
theorem dX11_led_19 : decode cX11_led 19 = .ok (.invokevirtual 143, 3) := by decide +kernel
theorem dX11_led_22 : decode cX11_led 22 = .ok (.goto 8, 3) := by decide +kernel
theorem dX11_led_25 : decode cX11_led 25 = .ok (.aload_n 0, 1) := by decide +kernel
theorem dX11_led_26 : decode cX11_led 26 = .ok (.iload_n 2, 1) := by decide +kernel
theorem dX11_led_27 : decode cX11_led 27 = .ok (.invokevirtual 190, 3) := by decide +kernel
theorem dX11_led_30 : decode cX11_led 30 = .ok (.ireturn, 1) := by decide +kernel
theorem dX11_heard_0 : decode cX11_heard 0 = .ok (.aload_n 0, 1) := by decide +kernel
theorem dX11_heard_1 : decode cX11_heard 1 = .ok (.getfield 41, 3) := by decide +kernel
theorem dX11_heard_4 : decode cX11_heard 4 = .ok (.getfield 92, 3) := by decide +kernel
theorem dX11_heard_7 : decode cX11_heard 7 = .ok (.iload_n 1, 1) := by decide +kernel
theorem dX11_heard_8 : decode cX11_heard 8 = .ok (.invokevirtual 311, 3) := by decide +kernel
theorem dX11_heard_11 : decode cX11_heard 11 = .ok (.istore_n 2, 1) := by decide +kernel
theorem dX11_heard_12 : decode cX11_heard 12 = .ok (.iload_n 2, 1) := by decide +kernel
theorem dX11_heard_13 : decode cX11_heard 13 = .ok (.iconst (-1), 1) := by decide +kernel
theorem dX11_heard_14 : decode cX11_heard 14 = .ok (.if_icmp .ne 11, 3) := by decide +kernel
theorem dX11_heard_17 : decode cX11_heard 17 = .ok (.aload_n 0, 1) := by decide +kernel
theorem dX11_heard_18 : decode cX11_heard 18 = .ok (.iconst 5, 1) := by decide +kernel
theorem dX11_heard_19 : decode cX11_heard 19 = .ok (.invokevirtual 143, 3) := by decide +kernel
theorem dX11_heard_22 : decode cX11_heard 22 = .ok (.goto 18, 3) := by decide +kernel
theorem dX11_heard_25 : decode cX11_heard 25 = .ok (.aload_n 0, 1) := by decide +kernel
theorem dX11_heard_26 : decode cX11_heard 26 = .ok (.aload_n 0, 1) := by decide +kernel
theorem dX11_heard_27 : decode cX11_heard 27 = .ok (.getfield 41, 3) := by decide +kernel
theorem dX11_heard_30 : decode cX11_heard 30 = .ok (.getfield 220, 3) := by decide +kernel
theorem dX11_heard_33 : decode cX11_heard 33 = .ok (.iload_n 2, 1) := by decide +kernel
theorem dX11_heard_34 : decode cX11_heard 34 = .ok (.invokevirtual 314, 3) := by decide +kernel
theorem dX11_heard_37 : decode cX11_heard 37 = .ok (.invokevirtual 190, 3) := by decide +kernel
theorem dX11_heard_40 : decode cX11_heard 40 = .ok (.ireturn, 1) := by decide +kernel
theorem dX11_suspects_0 : decode cX11_suspects 0 = .ok (.iload_n 1, 1) := by decide +kernel
theorem dX11_suspects_1 : decode cX11_suspects 1 = .ok (.iconst 0, 1) := by decide +kernel
theorem dX11_suspects_2 : decode cX11_suspects 2 = .ok (.bipush 8, 2) := by decide +kernel
theorem dX11_suspects_4 : decode cX11_suspects 4 = .ok (.invokestatic 127, 3) := by decide +kernel
theorem dX11_suspects_7 : decode cX11_suspects 7 = .ok (.ifCond .ne 9, 3) := by decide +kernel
theorem dX11_suspects_10 : decode cX11_suspects 10 = .ok (.aload_n 0, 1) := by decide +kernel
theorem dX11_suspects_11 : decode cX11_suspects 11 = .ok (.iconst 5, 1) := by decide +kernel
theorem dX11_suspects_12 : decode cX11_suspects 12 = .ok (.invokevirtual 143, 3) := by decide +kernel
theorem dX11_suspects_15 : decode cX11_suspects 15 = .ok (.ireturn, 1) := by decide +kernel
theorem dX11_suspects_16 : decode cX11_suspects 16 = .ok (.aload_n 0, 1) := by decide +kernel
theorem dX11_suspects_17 : decode cX11_suspects 17 = .ok (.getfield 41, 3) := by decide +kernel
theorem dX11_suspects_20 : decode cX11_suspects 20 = .ok (.getfield 220, 3) := by decide +kernel
theorem dX11_suspects_23 : decode cX11_suspects 23 = .ok (.iload_n 1, 1) := by decide +kernel
theorem dX11_suspects_24 : decode cX11_suspects 24 = .ok (.invokevirtual 317, 3) := by decide +kernel
theorem dX11_suspects_27 : decode cX11_suspects 27 = .ok (.istore_n 2, 1) := by decide +kernel
theorem dX11_suspects_28 : decode cX11_suspects 28 = .ok (.iload_n 2, 1) := by decide +kernel
theorem dX11_suspects_29 : decode cX11_suspects 29 = .ok (.ifCond .ne 12, 3) := by decide +kernel
theorem dX11_suspects_32 : decode cX11_suspects 32 = .ok (.aload_n 0, 1) := by decide +kernel
theorem dX11_suspects_33 : decode cX11_suspects 33 = .ok (.bipush 8, 2) := by decide +kernel
theorem dX11_suspects_35 : decode cX11_suspects 35 = .ok (.invokevirtual 143, 3) := by decide +kernel
theorem dX11_suspects_38 : decode cX11_suspects 38 = .ok (.goto 18, 3) := by decide +kernel
theorem dX11_suspects_41 : decode cX11_suspects 41 = .ok (.aload_n 0, 1) := by decide +kernel
theorem dX11_suspects_42 : decode cX11_suspects 42 = .ok (.aload_n 0, 1) := by decide +kernel
theorem dX11_suspects_43 : decode cX11_suspects 43 = .ok (.getfield 41, 3) := by decide +kernel
theorem dX11_suspects_46 : decode cX11_suspects 46 = .ok (.getfield 92, 3) := by decide +kernel
theorem dX11_suspects_49 : decode cX11_suspects 49 = .ok (.iload_n 2, 1) := by decide +kernel
theorem dX11_suspects_50 : decode cX11_suspects 50 = .ok (.invokevirtual 320, 3) := by decide +kernel
theorem dX11_suspects_53 : decode cX11_suspects 53 = .ok (.invokevirtual 190, 3) := by decide +kernel
theorem dX11_suspects_56 : decode cX11_suspects 56 = .ok (.ireturn, 1) := by decide +kernel
theorem dX11_odds_0 : decode cX11_odds 0 = .ok (.aload_n 0, 1) := by decide +kernel
theorem dX11_odds_1 : decode cX11_odds 1 = .ok (.iload_n 2, 1) := by decide +kernel
theorem dX11_odds_2 : decode cX11_odds 2 = .ok (.invokevirtual 323, 3) := by decide +kernel
theorem dX11_odds_5 : decode cX11_odds 5 = .ok (.ifCond .ne 9, 3) := by decide +kernel
theorem dX11_odds_8 : decode cX11_odds 8 = .ok (.aload_n 0, 1) := by decide +kernel
theorem dX11_odds_9 : decode cX11_odds 9 = .ok (.iconst 2, 1) := by decide +kernel
theorem dX11_odds_10 : decode cX11_odds 10 = .ok (.invokevirtual 106, 3) := by decide +kernel
theorem dX11_odds_13 : decode cX11_odds 13 = .ok (.ireturn, 1) := by decide +kernel
theorem dX11_odds_14 : decode cX11_odds 14 = .ok (.iload_n 1, 1) := by decide +kernel
theorem dX11_odds_15 : decode cX11_odds 15 = .ok (.iconst 0, 1) := by decide +kernel
theorem dX11_odds_16 : decode cX11_odds 16 = .ok (.bipush 9, 2) := by decide +kernel
theorem dX11_odds_18 : decode cX11_odds 18 = .ok (.invokestatic 127, 3) := by decide +kernel
theorem dX11_odds_21 : decode cX11_odds 21 = .ok (.ifCond .ne 9, 3) := by decide +kernel
theorem dX11_odds_24 : decode cX11_odds 24 = .ok (.aload_n 0, 1) := by decide +kernel
theorem dX11_odds_25 : decode cX11_odds 25 = .ok (.iconst 5, 1) := by decide +kernel
theorem dX11_odds_26 : decode cX11_odds 26 = .ok (.invokevirtual 106, 3) := by decide +kernel
theorem dX11_odds_29 : decode cX11_odds 29 = .ok (.ireturn, 1) := by decide +kernel
theorem dX11_odds_30 : decode cX11_odds 30 = .ok (.aload_n 0, 1) := by decide +kernel
theorem dX11_odds_31 : decode cX11_odds 31 = .ok (.iload_n 2, 1) := by decide +kernel
theorem dX11_odds_32 : decode cX11_odds 32 = .ok (.invokevirtual 326, 3) := by decide +kernel
theorem dX11_odds_35 : decode cX11_odds 35 = .ok (.istore_n 3, 1) := by decide +kernel
theorem dX11_odds_36 : decode cX11_odds 36 = .ok (.iload_n 3, 1) := by decide +kernel
theorem dX11_odds_37 : decode cX11_odds 37 = .ok (.ifCond .eq 9, 3) := by decide +kernel
theorem dX11_odds_40 : decode cX11_odds 40 = .ok (.aload_n 0, 1) := by decide +kernel
theorem dX11_odds_41 : decode cX11_odds 41 = .ok (.iload_n 3, 1) := by decide +kernel
theorem dX11_odds_42 : decode cX11_odds 42 = .ok (.invokevirtual 106, 3) := by decide +kernel
theorem dX11_odds_45 : decode cX11_odds 45 = .ok (.ireturn, 1) := by decide +kernel
theorem dX11_odds_46 : decode cX11_odds 46 = .ok (.aload_n 0, 1) := by decide +kernel
theorem dX11_odds_47 : decode cX11_odds 47 = .ok (.getfield 59, 3) := by decide +kernel
theorem dX11_odds_50 : decode cX11_odds 50 = .ok (.aload_n 0, 1) := by decide +kernel
theorem dX11_odds_51 : decode cX11_odds 51 = .ok (.getfield 41, 3) := by decide +kernel
theorem dX11_odds_54 : decode cX11_odds 54 = .ok (.iload_n 2, 1) := by decide +kernel
theorem dX11_odds_55 : decode cX11_odds 55 = .ok (.aload_n 0, 1) := by decide +kernel
theorem dX11_odds_56 : decode cX11_odds 56 = .ok (.getfield 41, 3) := by decide +kernel
theorem dX11_odds_59 : decode cX11_odds 59 = .ok (.getfield 230, 3) := by decide +kernel
theorem dX11_odds_62 : decode cX11_odds 62 = .ok (.invokevirtual 329, 3) := by decide +kernel
theorem dX11_odds_65 : decode cX11_odds 65 = .ok (.aload_n 0, 1) := by decide +kernel
theorem dX11_odds_66 : decode cX11_odds 66 = .ok (.aload_n 0, 1) := by decide +kernel
theorem dX11_odds_67 : decode cX11_odds 67 = .ok (.getfield 59, 3) := by decide +kernel
theorem dX11_odds_70 : decode cX11_odds 70 = .ok (.getfield 333, 3) := by decide +kernel
theorem dX11_odds_73 : decode cX11_odds 73 = .ok (.iload_n 1, 1) := by decide +kernel
theorem dX11_odds_74 : decode cX11_odds 74 = .ok (.laload, 1) := by decide +kernel
theorem dX11_odds_75 : decode cX11_odds 75 = .ok (.aload_n 0, 1) := by decide +kernel
theorem dX11_odds_76 : decode cX11_odds 76 = .ok (.getfield 59, 3) := by decide +kernel
theorem dX11_odds_79 : decode cX11_odds 79 = .ok (.getfield 336, 3) := by decide +kernel
theorem dX11_odds_82 : decode cX11_odds 82 = .ok (.invokevirtual 339, 3) := by decide +kernel
theorem dX11_odds_85 : decode cX11_odds 85 = .ok (.ireturn, 1) := by decide +kernel
theorem dX11_seen_0 : decode cX11_seen 0 = .ok (.aload_n 0, 1) := by decide +kernel
theorem dX11_seen_1 : decode cX11_seen 1 = .ok (.iload_n 1, 1) := by decide +kernel
theorem dX11_seen_2 : decode cX11_seen 2 = .ok (.invokevirtual 237, 3) := by decide +kernel
theorem dX11_seen_5 : decode cX11_seen 5 = .ok (.ifCond .eq 11, 3) := by decide +kernel
theorem dX11_seen_8 : decode cX11_seen 8 = .ok (.aload_n 0, 1) := by decide +kernel
theorem dX11_seen_9 : decode cX11_seen 9 = .ok (.iload_n 2, 1) := by decide +kernel
theorem dX11_seen_10 : decode cX11_seen 10 = .ok (.invokevirtual 323, 3) := by decide +kernel
theorem dX11_seen_13 : decode cX11_seen 13 = .ok (.ifCond .ne 9, 3) := by decide +kernel
theorem dX11_seen_16 : decode cX11_seen 16 = .ok (.aload_n 0, 1) := by decide +kernel
theorem dX11_seen_17 : decode cX11_seen 17 = .ok (.iconst 2, 1) := by decide +kernel
theorem dX11_seen_18 : decode cX11_seen 18 = .ok (.invokevirtual 106, 3) := by decide +kernel
theorem dX11_seen_21 : decode cX11_seen 21 = .ok (.ireturn, 1) := by decide +kernel
theorem dX11_seen_22 : decode cX11_seen 22 = .ok (.aload_n 0, 1) := by decide +kernel
theorem dX11_seen_23 : decode cX11_seen 23 = .ok (.iload_n 2, 1) := by decide +kernel
theorem dX11_seen_24 : decode cX11_seen 24 = .ok (.invokevirtual 326, 3) := by decide +kernel
theorem dX11_seen_27 : decode cX11_seen 27 = .ok (.istore_n 3, 1) := by decide +kernel
theorem dX11_seen_28 : decode cX11_seen 28 = .ok (.iload_n 3, 1) := by decide +kernel
theorem dX11_seen_29 : decode cX11_seen 29 = .ok (.ifCond .eq 9, 3) := by decide +kernel
theorem dX11_seen_32 : decode cX11_seen 32 = .ok (.aload_n 0, 1) := by decide +kernel
theorem dX11_seen_33 : decode cX11_seen 33 = .ok (.iload_n 3, 1) := by decide +kernel
theorem dX11_seen_34 : decode cX11_seen 34 = .ok (.invokevirtual 106, 3) := by decide +kernel
theorem dX11_seen_37 : decode cX11_seen 37 = .ok (.ireturn, 1) := by decide +kernel
theorem dX11_seen_38 : decode cX11_seen 38 = .ok (.aload_n 0, 1) := by decide +kernel
theorem dX11_seen_39 : decode cX11_seen 39 = .ok (.getfield 59, 3) := by decide +kernel
theorem dX11_seen_42 : decode cX11_seen 42 = .ok (.aload_n 0, 1) := by decide +kernel
theorem dX11_seen_43 : decode cX11_seen 43 = .ok (.getfield 41, 3) := by decide +kernel
theorem dX11_seen_46 : decode cX11_seen 46 = .ok (.iload_n 2, 1) := by decide +kernel
theorem dX11_seen_47 : decode cX11_seen 47 = .ok (.aload_n 0, 1) := by decide +kernel
theorem dX11_seen_48 : decode cX11_seen 48 = .ok (.getfield 41, 3) := by decide +kernel
theorem dX11_seen_51 : decode cX11_seen 51 = .ok (.getfield 230, 3) := by decide +kernel
theorem dX11_seen_54 : decode cX11_seen 54 = .ok (.invokevirtual 329, 3) := by decide +kernel
theorem dX11_seen_57 : decode cX11_seen 57 = .ok (.aload_n 0, 1) := by decide +kernel
theorem dX11_seen_58 : decode cX11_seen 58 = .ok (.aload_n 0, 1) := by decide +kernel
theorem dX11_seen_59 : decode cX11_seen 59 = .ok (.getfield 59, 3) := by decide +kernel
theorem dX11_seen_62 : decode cX11_seen 62 = .ok (.getfield 343, 3) := by decide +kernel
theorem dX11_seen_65 : decode cX11_seen 65 = .ok (.iload_n 1, 1) := by decide +kernel
theorem dX11_seen_66 : decode cX11_seen 66 = .ok (.laload, 1) := by decide +kernel
theorem dX11_seen_67 : decode cX11_seen 67 = .ok (.aload_n 0, 1) := by decide +kernel
theorem dX11_seen_68 : decode cX11_seen 68 = .ok (.getfield 59, 3) := by decide +kernel
theorem dX11_seen_71 : decode cX11_seen 71 = .ok (.getfield 336, 3) := by decide +kernel
theorem dX11_seen_74 : decode cX11_seen 74 = .ok (.invokevirtual 339, 3) := by decide +kernel
theorem dX11_seen_77 : decode cX11_seen 77 = .ok (.ireturn, 1) := by decide +kernel
theorem dX11_who_0 : decode cX11_who 0 = .ok (.aload_n 0, 1) := by decide +kernel
theorem dX11_who_1 : decode cX11_who 1 = .ok (.iload_n 1, 1) := by decide +kernel
theorem dX11_who_2 : decode cX11_who 2 = .ok (.invokevirtual 243, 3) := by decide +kernel
theorem dX11_who_5 : decode cX11_who 5 = .ok (.ifCond .ne 9, 3) := by decide +kernel
theorem dX11_who_8 : decode cX11_who 8 = .ok (.aload_n 0, 1) := by decide +kernel
theorem dX11_who_9 : decode cX11_who 9 = .ok (.iconst 2, 1) := by decide +kernel
theorem dX11_who_10 : decode cX11_who 10 = .ok (.invokevirtual 106, 3) := by decide +kernel
theorem dX11_who_13 : decode cX11_who 13 = .ok (.ireturn, 1) := by decide +kernel
theorem dX11_who_14 : decode cX11_who 14 = .ok (.iload_n 2, 1) := by decide +kernel
theorem dX11_who_15 : decode cX11_who 15 = .ok (.iconst 0, 1) := by decide +kernel
theorem dX11_who_16 : decode cX11_who 16 = .ok (.bipush 9, 2) := by decide +kernel
theorem dX11_who_18 : decode cX11_who 18 = .ok (.invokestatic 127, 3) := by decide +kernel
theorem dX11_who_21 : decode cX11_who 21 = .ok (.ifCond .ne 9, 3) := by decide +kernel
theorem dX11_who_24 : decode cX11_who 24 = .ok (.aload_n 0, 1) := by decide +kernel
theorem dX11_who_25 : decode cX11_who 25 = .ok (.iconst 5, 1) := by decide +kernel
theorem dX11_who_26 : decode cX11_who 26 = .ok (.invokevirtual 106, 3) := by decide +kernel
theorem dX11_who_29 : decode cX11_who 29 = .ok (.ireturn, 1) := by decide +kernel
theorem dX11_who_30 : decode cX11_who 30 = .ok (.aload_n 0, 1) := by decide +kernel
theorem dX11_who_31 : decode cX11_who 31 = .ok (.getfield 59, 3) := by decide +kernel
theorem dX11_who_34 : decode cX11_who 34 = .ok (.aload_n 0, 1) := by decide +kernel
theorem dX11_who_35 : decode cX11_who 35 = .ok (.getfield 41, 3) := by decide +kernel
theorem dX11_who_38 : decode cX11_who 38 = .ok (.iconst (-1), 1) := by decide +kernel
theorem dX11_who_39 : decode cX11_who 39 = .ok (.aload_n 0, 1) := by decide +kernel
theorem dX11_who_40 : decode cX11_who 40 = .ok (.getfield 41, 3) := by decide +kernel
theorem dX11_who_43 : decode cX11_who 43 = .ok (.getfield 230, 3) := by decide +kernel
theorem dX11_who_46 : decode cX11_who 46 = .ok (.invokevirtual 329, 3) := by decide +kernel
theorem dX11_who_49 : decode cX11_who 49 = .ok (.aload_n 0, 1) := by decide +kernel
theorem dX11_who_50 : decode cX11_who 50 = .ok (.getfield 59, 3) := by decide +kernel
theorem dX11_who_53 : decode cX11_who 53 = .ok (.getfield 333, 3) := by decide +kernel
theorem dX11_who_56 : decode cX11_who 56 = .ok (.iload_n 2, 1) := by decide +kernel
theorem dX11_who_57 : decode cX11_who 57 = .ok (.laload, 1) := by decide +kernel
theorem dX11_who_58 : decode cX11_who 58 = .ok (.lstore_n 3, 1) := by decide +kernel
theorem dX11_who_59 : decode cX11_who 59 = .ok (.lload_n 3, 1) := by decide +kernel
theorem dX11_who_60 : decode cX11_who 60 = .ok (.lconst 0, 1) := by decide +kernel
theorem dX11_who_61 : decode cX11_who 61 = .ok (.lcmp, 1) := by decide +kernel
theorem dX11_who_62 : decode cX11_who 62 = .ok (.ifCond .ne 10, 3) := by decide +kernel
theorem dX11_who_65 : decode cX11_who 65 = .ok (.aload_n 0, 1) := by decide +kernel
theorem dX11_who_66 : decode cX11_who 66 = .ok (.bipush 8, 2) := by decide +kernel
theorem dX11_who_68 : decode cX11_who 68 = .ok (.invokevirtual 106, 3) := by decide +kernel
theorem dX11_who_71 : decode cX11_who 71 = .ok (.ireturn, 1) := by decide +kernel
theorem dX11_who_72 : decode cX11_who 72 = .ok (.aload_n 0, 1) := by decide +kernel
theorem dX11_who_73 : decode cX11_who 73 = .ok (.getfield 59, 3) := by decide +kernel
theorem dX11_who_76 : decode cX11_who 76 = .ok (.aload_n 0, 1) := by decide +kernel
theorem dX11_who_77 : decode cX11_who 77 = .ok (.getfield 41, 3) := by decide +kernel
theorem dX11_who_80 : decode cX11_who 80 = .ok (.iload_n 1, 1) := by decide +kernel
theorem dX11_who_81 : decode cX11_who 81 = .ok (.aload_n 0, 1) := by decide +kernel
theorem dX11_who_82 : decode cX11_who 82 = .ok (.getfield 41, 3) := by decide +kernel
theorem dX11_who_85 : decode cX11_who 85 = .ok (.getfield 230, 3) := by decide +kernel
theorem dX11_who_88 : decode cX11_who 88 = .ok (.invokevirtual 329, 3) := by decide +kernel
theorem dX11_who_91 : decode cX11_who 91 = .ok (.aload_n 0, 1) := by decide +kernel
theorem dX11_who_92 : decode cX11_who 92 = .ok (.aload_n 0, 1) := by decide +kernel
theorem dX11_who_93 : decode cX11_who 93 = .ok (.getfield 59, 3) := by decide +kernel
theorem dX11_who_96 : decode cX11_who 96 = .ok (.getfield 333, 3) := by decide +kernel
theorem dX11_who_99 : decode cX11_who 99 = .ok (.iload_n 2, 1) := by decide +kernel
theorem dX11_who_100 : decode cX11_who 100 = .ok (.laload, 1) := by decide +kernel
theorem dX11_who_101 : decode cX11_who 101 = .ok (.aload_n 0, 1) := by decide +kernel
theorem dX11_who_102 : decode cX11_who 102 = .ok (.getfield 41, 3) := by decide +kernel
theorem dX11_who_105 : decode cX11_who 105 = .ok (.getfield 92, 3) := by decide +kernel
theorem dX11_who_108 : decode cX11_who 108 = .ok (.getfield 246, 3) := by decide +kernel
theorem dX11_who_111 : decode cX11_who 111 = .ok (.iload_n 1, 1) := by decide +kernel
theorem dX11_who_112 : decode cX11_who 112 = .ok (.iaload, 1) := by decide +kernel
theorem dX11_who_113 : decode cX11_who 113 = .ok (.i2l, 1) := by decide +kernel
theorem dX11_who_114 : decode cX11_who 114 = .ok (.lmul, 1) := by decide +kernel
theorem dX11_who_115 : decode cX11_who 115 = .ok (.lload_n 3, 1) := by decide +kernel
theorem dX11_who_116 : decode cX11_who 116 = .ok (.invokevirtual 339, 3) := by decide +kernel
theorem dX11_who_119 : decode cX11_who 119 = .ok (.ireturn, 1) := by decide +kernel
theorem dX11_mean_0 : decode cX11_mean 0 = .ok (.aload_n 0, 1) := by decide +kernel
theorem dX11_mean_1 : decode cX11_mean 1 = .ok (.iload_n 1, 1) := by decide +kernel
theorem dX11_mean_2 : decode cX11_mean 2 = .ok (.invokevirtual 323, 3) := by decide +kernel
theorem dX11_mean_5 : decode cX11_mean 5 = .ok (.ifCond .ne 9, 3) := by decide +kernel
theorem dX11_mean_8 : decode cX11_mean 8 = .ok (.aload_n 0, 1) := by decide +kernel
theorem dX11_mean_9 : decode cX11_mean 9 = .ok (.iconst 2, 1) := by decide +kernel
theorem dX11_mean_10 : decode cX11_mean 10 = .ok (.invokevirtual 106, 3) := by decide +kernel
theorem dX11_mean_13 : decode cX11_mean 13 = .ok (.ireturn, 1) := by decide +kernel
theorem dX11_mean_14 : decode cX11_mean 14 = .ok (.aload_n 0, 1) := by decide +kernel
theorem dX11_mean_15 : decode cX11_mean 15 = .ok (.iload_n 1, 1) := by decide +kernel
theorem dX11_mean_16 : decode cX11_mean 16 = .ok (.invokevirtual 326, 3) := by decide +kernel
theorem dX11_mean_19 : decode cX11_mean 19 = .ok (.istore_n 2, 1) := by decide +kernel
theorem dX11_mean_20 : decode cX11_mean 20 = .ok (.iload_n 2, 1) := by decide +kernel
theorem dX11_mean_21 : decode cX11_mean 21 = .ok (.ifCond .eq 9, 3) := by decide +kernel
theorem dX11_mean_24 : decode cX11_mean 24 = .ok (.aload_n 0, 1) := by decide +kernel
theorem dX11_mean_25 : decode cX11_mean 25 = .ok (.iload_n 2, 1) := by decide +kernel
theorem dX11_mean_26 : decode cX11_mean 26 = .ok (.invokevirtual 106, 3) := by decide +kernel
theorem dX11_mean_29 : decode cX11_mean 29 = .ok (.ireturn, 1) := by decide +kernel
theorem dX11_mean_30 : decode cX11_mean 30 = .ok (.aload_n 0, 1) := by decide +kernel
theorem dX11_mean_31 : decode cX11_mean 31 = .ok (.getfield 59, 3) := by decide +kernel
theorem dX11_mean_34 : decode cX11_mean 34 = .ok (.aload_n 0, 1) := by decide +kernel
theorem dX11_mean_35 : decode cX11_mean 35 = .ok (.getfield 41, 3) := by decide +kernel
theorem dX11_mean_38 : decode cX11_mean 38 = .ok (.iload_n 1, 1) := by decide +kernel
theorem dX11_mean_39 : decode cX11_mean 39 = .ok (.aload_n 0, 1) := by decide +kernel
theorem dX11_mean_40 : decode cX11_mean 40 = .ok (.getfield 41, 3) := by decide +kernel
theorem dX11_mean_43 : decode cX11_mean 43 = .ok (.getfield 230, 3) := by decide +kernel
theorem dX11_mean_46 : decode cX11_mean 46 = .ok (.invokevirtual 329, 3) := by decide +kernel
theorem dX11_mean_49 : decode cX11_mean 49 = .ok (.aload_n 0, 1) := by decide +kernel
theorem dX11_mean_50 : decode cX11_mean 50 = .ok (.aload_n 0, 1) := by decide +kernel
theorem dX11_mean_51 : decode cX11_mean 51 = .ok (.getfield 59, 3) := by decide +kernel
theorem dX11_mean_54 : decode cX11_mean 54 = .ok (.aload_n 0, 1) := by decide +kernel
theorem dX11_mean_55 : decode cX11_mean 55 = .ok (.getfield 41, 3) := by decide +kernel
theorem dX11_mean_58 : decode cX11_mean 58 = .ok (.getfield 92, 3) := by decide +kernel
theorem dX11_mean_61 : decode cX11_mean 61 = .ok (.invokevirtual 346, 3) := by decide +kernel
theorem dX11_mean_64 : decode cX11_mean 64 = .ok (.aload_n 0, 1) := by decide +kernel
theorem dX11_mean_65 : decode cX11_mean 65 = .ok (.getfield 59, 3) := by decide +kernel
theorem dX11_mean_68 : decode cX11_mean 68 = .ok (.getfield 336, 3) := by decide +kernel
theorem dX11_mean_71 : decode cX11_mean 71 = .ok (.invokevirtual 339, 3) := by decide +kernel
theorem dX11_mean_74 : decode cX11_mean 74 = .ok (.ireturn, 1) := by decide +kernel
theorem dX11_isKindOrLot_0 : decode cX11_isKindOrLot 0 = .ok (.iload_n 1, 1) := by decide +kernel
theorem dX11_isKindOrLot_1 : decode cX11_isKindOrLot 1 = .ok (.iconst (-1), 1) := by decide +kernel
theorem dX11_isKindOrLot_2 : decode cX11_isKindOrLot 2 = .ok (.if_icmp .eq 11, 3) := by decide +kernel
theorem dX11_isKindOrLot_5 : decode cX11_isKindOrLot 5 = .ok (.aload_n 0, 1) := by decide +kernel
theorem dX11_isKindOrLot_6 : decode cX11_isKindOrLot 6 = .ok (.iload_n 1, 1) := by decide +kernel
theorem dX11_isKindOrLot_7 : decode cX11_isKindOrLot 7 = .ok (.invokevirtual 243, 3) := by decide +kernel
theorem dX11_isKindOrLot_10 : decode cX11_isKindOrLot 10 = .ok (.ifCond .eq 7, 3) := by decide +kernel
theorem dX11_isKindOrLot_13 : decode cX11_isKindOrLot 13 = .ok (.iconst 1, 1) := by decide +kernel
theorem dX11_isKindOrLot_14 : decode cX11_isKindOrLot 14 = .ok (.goto 4, 3) := by decide +kernel
theorem dX11_isKindOrLot_17 : decode cX11_isKindOrLot 17 = .ok (.iconst 0, 1) := by decide +kernel
theorem dX11_isKindOrLot_18 : decode cX11_isKindOrLot 18 = .ok (.ireturn, 1) := by decide +kernel
theorem dX11_whyNoOdds_0 : decode cX11_whyNoOdds 0 = .ok (.iload_n 1, 1) := by decide +kernel
theorem dX11_whyNoOdds_1 : decode cX11_whyNoOdds 1 = .ok (.iconst (-1), 1) := by decide +kernel
theorem dX11_whyNoOdds_2 : decode cX11_whyNoOdds 2 = .ok (.if_icmp .ne 19, 3) := by decide +kernel
theorem dX11_whyNoOdds_5 : decode cX11_whyNoOdds 5 = .ok (.aload_n 0, 1) := by decide +kernel
theorem dX11_whyNoOdds_6 : decode cX11_whyNoOdds 6 = .ok (.getfield 41, 3) := by decide +kernel
theorem dX11_whyNoOdds_9 : decode cX11_whyNoOdds 9 = .ok (.getfield 92, 3) := by decide +kernel
theorem dX11_whyNoOdds_12 : decode cX11_whyNoOdds 12 = .ok (.getfield 121, 3) := by decide +kernel
theorem dX11_whyNoOdds_15 : decode cX11_whyNoOdds 15 = .ok (.ifCond .ne 6, 3) := by decide +kernel
theorem dX11_whyNoOdds_18 : decode cX11_whyNoOdds 18 = .ok (.bipush 8, 2) := by decide +kernel
theorem dX11_whyNoOdds_20 : decode cX11_whyNoOdds 20 = .ok (.ireturn, 1) := by decide +kernel
theorem dX11_whyNoOdds_21 : decode cX11_whyNoOdds 21 = .ok (.aload_n 0, 1) := by decide +kernel
theorem dX11_whyNoOdds_22 : decode cX11_whyNoOdds 22 = .ok (.getfield 41, 3) := by decide +kernel
theorem dX11_whyNoOdds_25 : decode cX11_whyNoOdds 25 = .ok (.invokevirtual 274, 3) := by decide +kernel
theorem dX11_whyNoOdds_28 : decode cX11_whyNoOdds 28 = .ok (.ifCond .eq 7, 3) := by decide +kernel
theorem dX11_whyNoOdds_31 : decode cX11_whyNoOdds 31 = .ok (.iconst 0, 1) := by decide +kernel
theorem dX11_whyNoOdds_32 : decode cX11_whyNoOdds 32 = .ok (.goto 5, 3) := by decide +kernel
theorem dX11_whyNoOdds_35 : decode cX11_whyNoOdds 35 = .ok (.bipush 9, 2) := by decide +kernel
theorem dX11_whyNoOdds_37 : decode cX11_whyNoOdds 37 = .ok (.ireturn, 1) := by decide +kernel
theorem dX11_ways_0 : decode cX11_ways 0 = .ok (.aload_n 0, 1) := by decide +kernel
theorem dX11_ways_1 : decode cX11_ways 1 = .ok (.getfield 41, 3) := by decide +kernel
theorem dX11_ways_4 : decode cX11_ways 4 = .ok (.invokevirtual 274, 3) := by decide +kernel
theorem dX11_ways_7 : decode cX11_ways 7 = .ok (.ifCond .ne 10, 3) := by decide +kernel
theorem dX11_ways_10 : decode cX11_ways 10 = .ok (.aload_n 0, 1) := by decide +kernel
theorem dX11_ways_11 : decode cX11_ways 11 = .ok (.bipush 9, 2) := by decide +kernel
theorem dX11_ways_13 : decode cX11_ways 13 = .ok (.invokevirtual 143, 3) := by decide +kernel
theorem dX11_ways_16 : decode cX11_ways 16 = .ok (.ireturn, 1) := by decide +kernel
theorem dX11_ways_17 : decode cX11_ways 17 = .ok (.aload_n 0, 1) := by decide +kernel
theorem dX11_ways_18 : decode cX11_ways 18 = .ok (.getfield 66, 3) := by decide +kernel
theorem dX11_ways_21 : decode cX11_ways 21 = .ok (.aload_n 0, 1) := by decide +kernel
theorem dX11_ways_22 : decode cX11_ways 22 = .ok (.getfield 41, 3) := by decide +kernel
theorem dX11_ways_25 : decode cX11_ways 25 = .ok (.invokevirtual 350, 3) := by decide +kernel
theorem dX11_ways_28 : decode cX11_ways 28 = .ok (.aload_n 0, 1) := by decide +kernel
theorem dX11_ways_29 : decode cX11_ways 29 = .ok (.aload_n 0, 1) := by decide +kernel
theorem dX11_ways_30 : decode cX11_ways 30 = .ok (.getfield 66, 3) := by decide +kernel
theorem dX11_ways_33 : decode cX11_ways 33 = .ok (.invokevirtual 354, 3) := by decide +kernel
theorem dX11_ways_36 : decode cX11_ways 36 = .ok (.invokevirtual 190, 3) := by decide +kernel
theorem dX11_ways_39 : decode cX11_ways 39 = .ok (.ireturn, 1) := by decide +kernel
theorem dX11_length_0 : decode cX11_length 0 = .ok (.iload_n 1, 1) := by decide +kernel
theorem dX11_length_1 : decode cX11_length 1 = .ok (.iconst 0, 1) := by decide +kernel
theorem dX11_length_2 : decode cX11_length 2 = .ok (.iconst 1, 1) := by decide +kernel
theorem dX11_length_3 : decode cX11_length 3 = .ok (.invokestatic 127, 3) := by decide +kernel
theorem dX11_length_6 : decode cX11_length 6 = .ok (.ifCond .ne 9, 3) := by decide +kernel
theorem dX11_length_9 : decode cX11_length 9 = .ok (.aload_n 0, 1) := by decide +kernel
theorem dX11_length_10 : decode cX11_length 10 = .ok (.iconst 5, 1) := by decide +kernel
theorem dX11_length_11 : decode cX11_length 11 = .ok (.invokevirtual 143, 3) := by decide +kernel
theorem dX11_length_14 : decode cX11_length 14 = .ok (.ireturn, 1) := by decide +kernel
theorem dX11_length_15 : decode cX11_length 15 = .ok (.aload_n 0, 1) := by decide +kernel
theorem dX11_length_16 : decode cX11_length 16 = .ok (.getfield 41, 3) := by decide +kernel
theorem dX11_length_19 : decode cX11_length 19 = .ok (.invokevirtual 274, 3) := by decide +kernel
theorem dX11_length_22 : decode cX11_length 22 = .ok (.ifCond .ne 10, 3) := by decide +kernel
theorem dX11_length_25 : decode cX11_length 25 = .ok (.aload_n 0, 1) := by decide +kernel
theorem dX11_length_26 : decode cX11_length 26 = .ok (.bipush 9, 2) := by decide +kernel
theorem dX11_length_28 : decode cX11_length 28 = .ok (.invokevirtual 143, 3) := by decide +kernel
theorem dX11_length_31 : decode cX11_length 31 = .ok (.ireturn, 1) := by decide +kernel
theorem dX11_length_32 : decode cX11_length 32 = .ok (.aload_n 0, 1) := by decide +kernel
theorem dX11_length_33 : decode cX11_length 33 = .ok (.getfield 66, 3) := by decide +kernel
theorem dX11_length_36 : decode cX11_length 36 = .ok (.aload_n 0, 1) := by decide +kernel
theorem dX11_length_37 : decode cX11_length 37 = .ok (.getfield 41, 3) := by decide +kernel
theorem dX11_length_40 : decode cX11_length 40 = .ok (.invokevirtual 350, 3) := by decide +kernel
theorem dX11_length_43 : decode cX11_length 43 = .ok (.aload_n 0, 1) := by decide +kernel
theorem dX11_length_44 : decode cX11_length 44 = .ok (.iload_n 1, 1) := by decide +kernel
theorem dX11_length_45 : decode cX11_length 45 = .ok (.ifCond .ne 13, 3) := by decide +kernel
theorem dX11_length_48 : decode cX11_length 48 = .ok (.aload_n 0, 1) := by decide +kernel
theorem dX11_length_49 : decode cX11_length 49 = .ok (.getfield 66, 3) := by decide +kernel
theorem dX11_length_52 : decode cX11_length 52 = .ok (.invokevirtual 357, 3) := by decide +kernel
theorem dX11_length_55 : decode cX11_length 55 = .ok (.goto 10, 3) := by decide +kernel
theorem dX11_length_58 : decode cX11_length 58 = .ok (.aload_n 0, 1) := by decide +kernel
theorem dX11_length_59 : decode cX11_length 59 = .ok (.getfield 66, 3) := by decide +kernel
theorem dX11_length_62 : decode cX11_length 62 = .ok (.invokevirtual 360, 3) := by decide +kernel
theorem dX11_length_65 : decode cX11_length 65 = .ok (.invokevirtual 190, 3) := by decide +kernel
theorem dX11_length_68 : decode cX11_length 68 = .ok (.ireturn, 1) := by decide +kernel
theorem dX11_can_0 : decode cX11_can 0 = .ok (.iload_n 1, 1) := by decide +kernel
theorem dX11_can_1 : decode cX11_can 1 = .ok (.iconst 0, 1) := by decide +kernel
theorem dX11_can_2 : decode cX11_can 2 = .ok (.iconst 1, 1) := by decide +kernel
theorem dX11_can_3 : decode cX11_can 3 = .ok (.invokestatic 127, 3) := by decide +kernel
theorem dX11_can_6 : decode cX11_can 6 = .ok (.ifCond .ne 9, 3) := by decide +kernel
theorem dX11_can_9 : decode cX11_can 9 = .ok (.aload_n 0, 1) := by decide +kernel
theorem dX11_can_10 : decode cX11_can 10 = .ok (.iconst 5, 1) := by decide +kernel
theorem dX11_can_11 : decode cX11_can 11 = .ok (.invokevirtual 143, 3) := by decide +kernel
theorem dX11_can_14 : decode cX11_can 14 = .ok (.ireturn, 1) := by decide +kernel
theorem dX11_can_15 : decode cX11_can 15 = .ok (.aload_n 0, 1) := by decide +kernel
theorem dX11_can_16 : decode cX11_can 16 = .ok (.getfield 66, 3) := by decide +kernel
theorem dX11_can_19 : decode cX11_can 19 = .ok (.aload_n 0, 1) := by decide +kernel
theorem dX11_can_20 : decode cX11_can 20 = .ok (.getfield 41, 3) := by decide +kernel
theorem dX11_can_23 : decode cX11_can 23 = .ok (.invokevirtual 350, 3) := by decide +kernel
theorem dX11_can_26 : decode cX11_can 26 = .ok (.aload_n 0, 1) := by decide +kernel
theorem dX11_can_27 : decode cX11_can 27 = .ok (.iload_n 1, 1) := by decide +kernel
theorem dX11_can_28 : decode cX11_can 28 = .ok (.ifCond .ne 13, 3) := by decide +kernel
theorem dX11_can_31 : decode cX11_can 31 = .ok (.aload_n 0, 1) := by decide +kernel
theorem dX11_can_32 : decode cX11_can 32 = .ok (.getfield 66, 3) := by decide +kernel
theorem dX11_can_35 : decode cX11_can 35 = .ok (.invokevirtual 363, 3) := by decide +kernel
theorem dX11_can_38 : decode cX11_can 38 = .ok (.goto 27, 3) := by decide +kernel
theorem dX11_can_41 : decode cX11_can 41 = .ok (.aload_n 0, 1) := by decide +kernel
theorem dX11_can_42 : decode cX11_can 42 = .ok (.getfield 66, 3) := by decide +kernel
theorem dX11_can_45 : decode cX11_can 45 = .ok (.aload_n 0, 1) := by decide +kernel
theorem dX11_can_46 : decode cX11_can 46 = .ok (.getfield 41, 3) := by decide +kernel
theorem dX11_can_49 : decode cX11_can 49 = .ok (.getfield 92, 3) := by decide +kernel
theorem dX11_can_52 : decode cX11_can 52 = .ok (.aload_n 0, 1) := by decide +kernel
theorem dX11_can_53 : decode cX11_can 53 = .ok (.getfield 41, 3) := by decide +kernel
theorem dX11_can_56 : decode cX11_can 56 = .ok (.getfield 92, 3) := by decide +kernel
theorem dX11_can_59 : decode cX11_can 59 = .ok (.invokevirtual 305, 3) := by decide +kernel
theorem dX11_can_62 : decode cX11_can 62 = .ok (.invokevirtual 366, 3) := by decide +kernel
theorem dX11_can_65 : decode cX11_can 65 = .ok (.invokevirtual 190, 3) := by decide +kernel
theorem dX11_can_68 : decode cX11_can 68 = .ok (.ireturn, 1) := by decide +kernel
theorem dX11_by_0 : decode cX11_by 0 = .ok (.aload_n 0, 1) := by decide +kernel
theorem dX11_by_1 : decode cX11_by 1 = .ok (.iload_n 1, 1) := by decide +kernel
theorem dX11_by_2 : decode cX11_by 2 = .ok (.invokevirtual 237, 3) := by decide +kernel
theorem dX11_by_5 : decode cX11_by 5 = .ok (.ifCond .ne 9, 3) := by decide +kernel
theorem dX11_by_8 : decode cX11_by 8 = .ok (.aload_n 0, 1) := by decide +kernel
theorem dX11_by_9 : decode cX11_by 9 = .ok (.iconst 2, 1) := by decide +kernel
theorem dX11_by_10 : decode cX11_by 10 = .ok (.invokevirtual 143, 3) := by decide +kernel
theorem dX11_by_13 : decode cX11_by 13 = .ok (.ireturn, 1) := by decide +kernel
theorem dX11_by_14 : decode cX11_by 14 = .ok (.aload_n 0, 1) := by decide +kernel
theorem dX11_by_15 : decode cX11_by 15 = .ok (.getfield 66, 3) := by decide +kernel
theorem dX11_by_18 : decode cX11_by 18 = .ok (.aload_n 0, 1) := by decide +kernel
theorem dX11_by_19 : decode cX11_by 19 = .ok (.getfield 41, 3) := by decide +kernel
theorem dX11_by_22 : decode cX11_by 22 = .ok (.invokevirtual 350, 3) := by decide +kernel
theorem dX11_by_25 : decode cX11_by 25 = .ok (.aload_n 0, 1) := by decide +kernel
theorem dX11_by_26 : decode cX11_by 26 = .ok (.aload_n 0, 1) := by decide +kernel
theorem dX11_by_27 : decode cX11_by 27 = .ok (.getfield 66, 3) := by decide +kernel
theorem dX11_by_30 : decode cX11_by 30 = .ok (.aload_n 0, 1) := by decide +kernel
theorem dX11_by_31 : decode cX11_by 31 = .ok (.getfield 41, 3) := by decide +kernel
theorem dX11_by_34 : decode cX11_by 34 = .ok (.getfield 92, 3) := by decide +kernel
theorem dX11_by_37 : decode cX11_by 37 = .ok (.iconst 1, 1) := by decide +kernel
theorem dX11_by_38 : decode cX11_by 38 = .ok (.iload_n 1, 1) := by decide +kernel
theorem dX11_by_39 : decode cX11_by 39 = .ok (.ishl, 1) := by decide +kernel
theorem dX11_by_40 : decode cX11_by 40 = .ok (.invokevirtual 366, 3) := by decide +kernel
theorem dX11_by_43 : decode cX11_by 43 = .ok (.invokevirtual 190, 3) := by decide +kernel
theorem dX11_by_46 : decode cX11_by 46 = .ok (.ireturn, 1) := by decide +kernel
theorem dX11_fewest_0 : decode cX11_fewest 0 = .ok (.aload_n 0, 1) := by decide +kernel
theorem dX11_fewest_1 : decode cX11_fewest 1 = .ok (.getfield 41, 3) := by decide +kernel
theorem dX11_fewest_4 : decode cX11_fewest 4 = .ok (.invokevirtual 274, 3) := by decide +kernel
theorem dX11_fewest_7 : decode cX11_fewest 7 = .ok (.ifCond .ne 10, 3) := by decide +kernel
theorem dX11_fewest_10 : decode cX11_fewest 10 = .ok (.aload_n 0, 1) := by decide +kernel
theorem dX11_fewest_11 : decode cX11_fewest 11 = .ok (.bipush 9, 2) := by decide +kernel
theorem dX11_fewest_13 : decode cX11_fewest 13 = .ok (.invokevirtual 143, 3) := by decide +kernel
theorem dX11_fewest_16 : decode cX11_fewest 16 = .ok (.ireturn, 1) := by decide +kernel
theorem dX11_fewest_17 : decode cX11_fewest 17 = .ok (.aload_n 0, 1) := by decide +kernel
theorem dX11_fewest_18 : decode cX11_fewest 18 = .ok (.getfield 66, 3) := by decide +kernel
theorem dX11_fewest_21 : decode cX11_fewest 21 = .ok (.aload_n 0, 1) := by decide +kernel
theorem dX11_fewest_22 : decode cX11_fewest 22 = .ok (.getfield 41, 3) := by decide +kernel
theorem dX11_fewest_25 : decode cX11_fewest 25 = .ok (.invokevirtual 350, 3) := by decide +kernel
theorem dX11_fewest_28 : decode cX11_fewest 28 = .ok (.aload_n 0, 1) := by decide +kernel
theorem dX11_fewest_29 : decode cX11_fewest 29 = .ok (.aload_n 0, 1) := by decide +kernel
theorem dX11_fewest_30 : decode cX11_fewest 30 = .ok (.getfield 66, 3) := by decide +kernel
theorem dX11_fewest_33 : decode cX11_fewest 33 = .ok (.invokevirtual 370, 3) := by decide +kernel
theorem dX11_fewest_36 : decode cX11_fewest 36 = .ok (.invokevirtual 190, 3) := by decide +kernel
theorem dX11_fewest_39 : decode cX11_fewest 39 = .ok (.ireturn, 1) := by decide +kernel
theorem dX11_steer_0 : decode cX11_steer 0 = .ok (.iload_n 1, 1) := by decide +kernel
theorem dX11_steer_1 : decode cX11_steer 1 = .ok (.iconst 0, 1) := by decide +kernel
theorem dX11_steer_2 : decode cX11_steer 2 = .ok (.bipush 9, 2) := by decide +kernel
theorem dX11_steer_4 : decode cX11_steer 4 = .ok (.invokestatic 127, 3) := by decide +kernel
theorem dX11_steer_7 : decode cX11_steer 7 = .ok (.ifCond .ne 9, 3) := by decide +kernel
theorem dX11_steer_10 : decode cX11_steer 10 = .ok (.aload_n 0, 1) := by decide +kernel
theorem dX11_steer_11 : decode cX11_steer 11 = .ok (.iconst 5, 1) := by decide +kernel
theorem dX11_steer_12 : decode cX11_steer 12 = .ok (.invokevirtual 143, 3) := by decide +kernel
theorem dX11_steer_15 : decode cX11_steer 15 = .ok (.ireturn, 1) := by decide +kernel
theorem dX11_steer_16 : decode cX11_steer 16 = .ok (.aload_n 0, 1) := by decide +kernel
theorem dX11_steer_17 : decode cX11_steer 17 = .ok (.getfield 66, 3) := by decide +kernel
theorem dX11_steer_20 : decode cX11_steer 20 = .ok (.aload_n 0, 1) := by decide +kernel
theorem dX11_steer_21 : decode cX11_steer 21 = .ok (.getfield 41, 3) := by decide +kernel
theorem dX11_steer_24 : decode cX11_steer 24 = .ok (.invokevirtual 350, 3) := by decide +kernel
theorem dX11_steer_27 : decode cX11_steer 27 = .ok (.aload_n 0, 1) := by decide +kernel
theorem dX11_steer_28 : decode cX11_steer 28 = .ok (.getfield 66, 3) := by decide +kernel
theorem dX11_steer_31 : decode cX11_steer 31 = .ok (.aload_n 0, 1) := by decide +kernel
theorem dX11_steer_32 : decode cX11_steer 32 = .ok (.getfield 41, 3) := by decide +kernel
theorem dX11_steer_35 : decode cX11_steer 35 = .ok (.getfield 92, 3) := by decide +kernel
theorem dX11_steer_38 : decode cX11_steer 38 = .ok (.iload_n 1, 1) := by decide +kernel
theorem dX11_steer_39 : decode cX11_steer 39 = .ok (.invokevirtual 373, 3) := by decide +kernel
theorem dX11_steer_42 : decode cX11_steer 42 = .ok (.istore_n 2, 1) := by decide +kernel
theorem dX11_steer_43 : decode cX11_steer 43 = .ok (.iload_n 2, 1) := by decide +kernel
theorem dX11_steer_44 : decode cX11_steer 44 = .ok (.ifCond .ne 10, 3) := by decide +kernel
theorem dX11_steer_47 : decode cX11_steer 47 = .ok (.aload_n 0, 1) := by decide +kernel
theorem dX11_steer_48 : decode cX11_steer 48 = .ok (.bipush 8, 2) := by decide +kernel
theorem dX11_steer_50 : decode cX11_steer 50 = .ok (.invokevirtual 143, 3) := by decide +kernel
theorem dX11_steer_53 : decode cX11_steer 53 = .ok (.ireturn, 1) := by decide +kernel
theorem dX11_steer_54 : decode cX11_steer 54 = .ok (.aload_n 0, 1) := by decide +kernel
theorem dX11_steer_55 : decode cX11_steer 55 = .ok (.getfield 66, 3) := by decide +kernel
theorem dX11_steer_58 : decode cX11_steer 58 = .ok (.aload_n 0, 1) := by decide +kernel
theorem dX11_steer_59 : decode cX11_steer 59 = .ok (.getfield 41, 3) := by decide +kernel
theorem dX11_steer_62 : decode cX11_steer 62 = .ok (.iload_n 1, 1) := by decide +kernel
theorem dX11_steer_63 : decode cX11_steer 63 = .ok (.iload_n 2, 1) := by decide +kernel
theorem dX11_steer_64 : decode cX11_steer 64 = .ok (.aload_n 0, 1) := by decide +kernel
theorem dX11_steer_65 : decode cX11_steer 65 = .ok (.getfield 87, 3) := by decide +kernel
theorem dX11_steer_68 : decode cX11_steer 68 = .ok (.invokevirtual 376, 3) := by decide +kernel
theorem dX11_steer_71 : decode cX11_steer 71 = .ok (.aload_n 0, 1) := by decide +kernel
theorem dX11_steer_72 : decode cX11_steer 72 = .ok (.iload_n 2, 1) := by decide +kernel
theorem dX11_steer_73 : decode cX11_steer 73 = .ok (.putfield 380, 3) := by decide +kernel
theorem dX11_steer_76 : decode cX11_steer 76 = .ok (.aload_n 0, 1) := by decide +kernel
theorem dX11_steer_77 : decode cX11_steer 77 = .ok (.iload_n 2, 1) := by decide +kernel
theorem dX11_steer_78 : decode cX11_steer 78 = .ok (.invokevirtual 190, 3) := by decide +kernel
theorem dX11_steer_81 : decode cX11_steer 81 = .ok (.ireturn, 1) := by decide +kernel
theorem dX11_steerAt_0 : decode cX11_steerAt 0 = .ok (.iload_n 1, 1) := by decide +kernel
theorem dX11_steerAt_1 : decode cX11_steerAt 1 = .ok (.aload_n 0, 1) := by decide +kernel
theorem dX11_steerAt_2 : decode cX11_steerAt 2 = .ok (.getfield 380, 3) := by decide +kernel
theorem dX11_steerAt_5 : decode cX11_steerAt 5 = .ok (.invokestatic 117, 3) := by decide +kernel
theorem dX11_steerAt_8 : decode cX11_steerAt 8 = .ok (.ifCond .eq 22, 3) := by decide +kernel
theorem dX11_steerAt_11 : decode cX11_steerAt 11 = .ok (.iload_n 1, 1) := by decide +kernel
theorem dX11_steerAt_12 : decode cX11_steerAt 12 = .ok (.bipush 12, 2) := by decide +kernel
theorem dX11_steerAt_14 : decode cX11_steerAt 14 = .ok (.if_icmp .ge 16, 3) := by decide +kernel
theorem dX11_steerAt_17 : decode cX11_steerAt 17 = .ok (.aload_n 0, 1) := by decide +kernel
theorem dX11_steerAt_18 : decode cX11_steerAt 18 = .ok (.aload_n 0, 1) := by decide +kernel
theorem dX11_steerAt_19 : decode cX11_steerAt 19 = .ok (.getfield 87, 3) := by decide +kernel
theorem dX11_steerAt_22 : decode cX11_steerAt 22 = .ok (.iload_n 1, 1) := by decide +kernel
theorem dX11_steerAt_23 : decode cX11_steerAt 23 = .ok (.iaload, 1) := by decide +kernel
theorem dX11_steerAt_24 : decode cX11_steerAt 24 = .ok (.invokevirtual 190, 3) := by decide +kernel
theorem dX11_steerAt_27 : decode cX11_steerAt 27 = .ok (.goto 9, 3) := by decide +kernel
theorem dX11_steerAt_30 : decode cX11_steerAt 30 = .ok (.aload_n 0, 1) := by decide +kernel
theorem dX11_steerAt_31 : decode cX11_steerAt 31 = .ok (.bipush 8, 2) := by decide +kernel
theorem dX11_steerAt_33 : decode cX11_steerAt 33 = .ok (.invokevirtual 143, 3) := by decide +kernel
theorem dX11_steerAt_36 : decode cX11_steerAt 36 = .ok (.ireturn, 1) := by decide +kernel
theorem dX11_death_0 : decode cX11_death 0 = .ok (.iload_n 1, 1) := by decide +kernel
theorem dX11_death_1 : decode cX11_death 1 = .ok (.iconst 0, 1) := by decide +kernel
theorem dX11_death_2 : decode cX11_death 2 = .ok (.bipush 9, 2) := by decide +kernel
theorem dX11_death_4 : decode cX11_death 4 = .ok (.invokestatic 127, 3) := by decide +kernel
theorem dX11_death_7 : decode cX11_death 7 = .ok (.ifCond .ne 9, 3) := by decide +kernel
theorem dX11_death_10 : decode cX11_death 10 = .ok (.aload_n 0, 1) := by decide +kernel
theorem dX11_death_11 : decode cX11_death 11 = .ok (.iconst 5, 1) := by decide +kernel
theorem dX11_death_12 : decode cX11_death 12 = .ok (.invokevirtual 143, 3) := by decide +kernel
theorem dX11_death_15 : decode cX11_death 15 = .ok (.ireturn, 1) := by decide +kernel
theorem dX11_death_16 : decode cX11_death 16 = .ok (.aload_n 0, 1) := by decide +kernel
theorem dX11_death_17 : decode cX11_death 17 = .ok (.getfield 59, 3) := by decide +kernel
theorem dX11_death_20 : decode cX11_death 20 = .ok (.aload_n 0, 1) := by decide +kernel
theorem dX11_death_21 : decode cX11_death 21 = .ok (.getfield 41, 3) := by decide +kernel
theorem dX11_death_24 : decode cX11_death 24 = .ok (.iconst (-1), 1) := by decide +kernel
theorem dX11_death_25 : decode cX11_death 25 = .ok (.aload_n 0, 1) := by decide +kernel
theorem dX11_death_26 : decode cX11_death 26 = .ok (.getfield 41, 3) := by decide +kernel
theorem dX11_death_29 : decode cX11_death 29 = .ok (.getfield 230, 3) := by decide +kernel
theorem dX11_death_32 : decode cX11_death 32 = .ok (.invokevirtual 329, 3) := by decide +kernel
theorem dX11_death_35 : decode cX11_death 35 = .ok (.aload_n 0, 1) := by decide +kernel
theorem dX11_death_36 : decode cX11_death 36 = .ok (.getfield 59, 3) := by decide +kernel
theorem dX11_death_39 : decode cX11_death 39 = .ok (.getfield 336, 3) := by decide +kernel
theorem dX11_death_42 : decode cX11_death 42 = .ok (.lstore_n 2, 1) := by decide +kernel
theorem dX11_death_43 : decode cX11_death 43 = .ok (.aload_n 0, 1) := by decide +kernel
theorem dX11_death_44 : decode cX11_death 44 = .ok (.getfield 59, 3) := by decide +kernel
theorem dX11_death_47 : decode cX11_death 47 = .ok (.getfield 333, 3) := by decide +kernel
theorem dX11_death_50 : decode cX11_death 50 = .ok (.iload_n 1, 1) := by decide +kernel
theorem dX11_death_51 : decode cX11_death 51 = .ok (.laload, 1) := by decide +kernel
theorem dX11_death_52 : decode cX11_death 52 = .ok (.lstore 4, 2) := by decide +kernel
theorem dX11_death_54 : decode cX11_death 54 = .ok (.lconst 0, 1) := by decide +kernel
theorem dX11_death_55 : decode cX11_death 55 = .ok (.lstore 6, 2) := by decide +kernel
theorem dX11_death_57 : decode cX11_death 57 = .ok (.iconst (-1), 1) := by decide +kernel
theorem dX11_death_58 : decode cX11_death 58 = .ok (.istore 8, 2) := by decide +kernel
theorem dX11_death_60 : decode cX11_death 60 = .ok (.iconst 0, 1) := by decide +kernel
theorem dX11_death_61 : decode cX11_death 61 = .ok (.istore 9, 2) := by decide +kernel
theorem dX11_death_63 : decode cX11_death 63 = .ok (.iload 9, 2) := by decide +kernel
theorem dX11_death_65 : decode cX11_death 65 = .ok (.aload_n 0, 1) := by decide +kernel
theorem dX11_death_66 : decode cX11_death 66 = .ok (.getfield 41, 3) := by decide +kernel
theorem dX11_death_69 : decode cX11_death 69 = .ok (.getfield 92, 3) := by decide +kernel
theorem dX11_death_72 : decode cX11_death 72 = .ok (.getfield 124, 3) := by decide +kernel
theorem dX11_death_75 : decode cX11_death 75 = .ok (.if_icmp .ge 66, 3) := by decide +kernel
theorem dX11_death_78 : decode cX11_death 78 = .ok (.aload_n 0, 1) := by decide +kernel
theorem dX11_death_79 : decode cX11_death 79 = .ok (.getfield 59, 3) := by decide +kernel
theorem dX11_death_82 : decode cX11_death 82 = .ok (.aload_n 0, 1) := by decide +kernel
theorem dX11_death_83 : decode cX11_death 83 = .ok (.getfield 41, 3) := by decide +kernel
theorem dX11_death_86 : decode cX11_death 86 = .ok (.iconst (-1), 1) := by decide +kernel
theorem dX11_death_87 : decode cX11_death 87 = .ok (.aload_n 0, 1) := by decide +kernel
theorem dX11_death_88 : decode cX11_death 88 = .ok (.getfield 41, 3) := by decide +kernel
theorem dX11_death_91 : decode cX11_death 91 = .ok (.getfield 230, 3) := by decide +kernel
theorem dX11_death_94 : decode cX11_death 94 = .ok (.iconst 1, 1) := by decide +kernel
theorem dX11_death_95 : decode cX11_death 95 = .ok (.iload 9, 2) := by decide +kernel
theorem dX11_death_97 : decode cX11_death 97 = .ok (.ishl, 1) := by decide +kernel
theorem dX11_death_98 : decode cX11_death 98 = .ok (.ior, 1) := by decide +kernel
theorem dX11_death_99 : decode cX11_death 99 = .ok (.invokevirtual 329, 3) := by decide +kernel
theorem dX11_death_102 : decode cX11_death 102 = .ok (.aload_n 0, 1) := by decide +kernel
theorem dX11_death_103 : decode cX11_death 103 = .ok (.getfield 59, 3) := by decide +kernel
theorem dX11_death_106 : decode cX11_death 106 = .ok (.getfield 333, 3) := by decide +kernel
theorem dX11_death_109 : decode cX11_death 109 = .ok (.iload_n 1, 1) := by decide +kernel
theorem dX11_death_110 : decode cX11_death 110 = .ok (.laload, 1) := by decide +kernel
theorem dX11_death_111 : decode cX11_death 111 = .ok (.lload 4, 2) := by decide +kernel
theorem dX11_death_113 : decode cX11_death 113 = .ok (.lsub, 1) := by decide +kernel
theorem dX11_death_114 : decode cX11_death 114 = .ok (.invokestatic 383, 3) := by decide +kernel
theorem dX11_death_117 : decode cX11_death 117 = .ok (.lstore 10, 2) := by decide +kernel
theorem dX11_death_119 : decode cX11_death 119 = .ok (.lload 10, 2) := by decide +kernel
theorem dX11_death_121 : decode cX11_death 121 = .ok (.lload 6, 2) := by decide +kernel
theorem dX11_death_123 : decode cX11_death 123 = .ok (.lcmp, 1) := by decide +kernel
theorem dX11_death_124 : decode cX11_death 124 = .ok (.ifCond .le 11, 3) := by decide +kernel
theorem dX11_death_127 : decode cX11_death 127 = .ok (.lload 10, 2) := by decide +kernel
theorem dX11_death_129 : decode cX11_death 129 = .ok (.lstore 6, 2) := by decide +kernel
theorem dX11_death_131 : decode cX11_death 131 = .ok (.iload 9, 2) := by decide +kernel
theorem dX11_death_133 : decode cX11_death 133 = .ok (.istore 8, 2) := by decide +kernel
theorem dX11_death_135 : decode cX11_death 135 = .ok (.iinc 9 1, 3) := by decide +kernel
theorem dX11_death_138 : decode cX11_death 138 = .ok (.goto (-75), 3) := by decide +kernel
theorem dX11_death_141 : decode cX11_death 141 = .ok (.iload 8, 2) := by decide +kernel
theorem dX11_death_143 : decode cX11_death 143 = .ok (.iconst (-1), 1) := by decide +kernel
theorem dX11_death_144 : decode cX11_death 144 = .ok (.if_icmp .ne 10, 3) := by decide +kernel
theorem dX11_death_147 : decode cX11_death 147 = .ok (.aload_n 0, 1) := by decide +kernel
theorem dX11_death_148 : decode cX11_death 148 = .ok (.bipush 8, 2) := by decide +kernel
theorem dX11_death_150 : decode cX11_death 150 = .ok (.invokevirtual 143, 3) := by decide +kernel
theorem dX11_death_153 : decode cX11_death 153 = .ok (.ireturn, 1) := by decide +kernel
theorem dX11_death_154 : decode cX11_death 154 = .ok (.aload_n 0, 1) := by decide +kernel
theorem dX11_death_155 : decode cX11_death 155 = .ok (.lload 6, 2) := by decide +kernel
theorem dX11_death_157 : decode cX11_death 157 = .ok (.lload_n 2, 1) := by decide +kernel
theorem dX11_death_158 : decode cX11_death 158 = .ok (.invokevirtual 339, 3) := by decide +kernel
theorem dX11_death_161 : decode cX11_death 161 = .ok (.pop, 1) := by decide +kernel
theorem dX11_death_162 : decode cX11_death 162 = .ok (.aload_n 0, 1) := by decide +kernel
theorem dX11_death_163 : decode cX11_death 163 = .ok (.iload 8, 2) := by decide +kernel
theorem dX11_death_165 : decode cX11_death 165 = .ok (.invokevirtual 190, 3) := by decide +kernel
theorem dX11_death_168 : decode cX11_death 168 = .ok (.ireturn, 1) := by decide +kernel
theorem dX11_cast_0 : decode cX11_cast 0 = .ok (.iload_n 1, 1) := by decide +kernel
theorem dX11_cast_1 : decode cX11_cast 1 = .ok (.iconst 1, 1) := by decide +kernel
theorem dX11_cast_2 : decode cX11_cast 2 = .ok (.bipush 7, 2) := by decide +kernel
theorem dX11_cast_4 : decode cX11_cast 4 = .ok (.invokestatic 127, 3) := by decide +kernel
theorem dX11_cast_7 : decode cX11_cast 7 = .ok (.ifCond .ne 9, 3) := by decide +kernel
theorem dX11_cast_10 : decode cX11_cast 10 = .ok (.aload_n 0, 1) := by decide +kernel
theorem dX11_cast_11 : decode cX11_cast 11 = .ok (.iconst 5, 1) := by decide +kernel
theorem dX11_cast_12 : decode cX11_cast 12 = .ok (.invokevirtual 143, 3) := by decide +kernel
theorem dX11_cast_15 : decode cX11_cast 15 = .ok (.ireturn, 1) := by decide +kernel
theorem dX11_cast_16 : decode cX11_cast 16 = .ok (.aload_n 0, 1) := by decide +kernel
theorem dX11_cast_17 : decode cX11_cast 17 = .ok (.getfield 41, 3) := by decide +kernel
theorem dX11_cast_20 : decode cX11_cast 20 = .ok (.getfield 92, 3) := by decide +kernel
theorem dX11_cast_23 : decode cX11_cast 23 = .ok (.invokevirtual 387, 3) := by decide +kernel
theorem dX11_cast_26 : decode cX11_cast 26 = .ok (.ifCond .ne 10, 3) := by decide +kernel
theorem dX11_cast_29 : decode cX11_cast 29 = .ok (.aload_n 0, 1) := by decide +kernel
theorem dX11_cast_30 : decode cX11_cast 30 = .ok (.bipush 8, 2) := by decide +kernel
theorem dX11_cast_32 : decode cX11_cast 32 = .ok (.invokevirtual 143, 3) := by decide +kernel
theorem dX11_cast_35 : decode cX11_cast 35 = .ok (.ireturn, 1) := by decide +kernel
theorem dX11_cast_36 : decode cX11_cast 36 = .ok (.aload_n 0, 1) := by decide +kernel
theorem dX11_cast_37 : decode cX11_cast 37 = .ok (.getfield 73, 3) := by decide +kernel
theorem dX11_cast_40 : decode cX11_cast 40 = .ok (.aload_n 0, 1) := by decide +kernel
theorem dX11_cast_41 : decode cX11_cast 41 = .ok (.getfield 41, 3) := by decide +kernel
theorem dX11_cast_44 : decode cX11_cast 44 = .ok (.getfield 92, 3) := by decide +kernel
theorem dX11_cast_47 : decode cX11_cast 47 = .ok (.iload_n 1, 1) := by decide +kernel
theorem dX11_cast_48 : decode cX11_cast 48 = .ok (.invokevirtual 390, 3) := by decide +kernel
theorem dX11_cast_51 : decode cX11_cast 51 = .ok (.istore_n 2, 1) := by decide +kernel
theorem dX11_cast_52 : decode cX11_cast 52 = .ok (.iload_n 2, 1) := by decide +kernel
theorem dX11_cast_53 : decode cX11_cast 53 = .ok (.iconst (-1), 1) := by decide +kernel
theorem dX11_cast_54 : decode cX11_cast 54 = .ok (.if_icmp .ne 12, 3) := by decide +kernel
theorem dX11_cast_57 : decode cX11_cast 57 = .ok (.aload_n 0, 1) := by decide +kernel
theorem dX11_cast_58 : decode cX11_cast 58 = .ok (.bipush 9, 2) := by decide +kernel
theorem dX11_cast_60 : decode cX11_cast 60 = .ok (.invokevirtual 143, 3) := by decide +kernel
theorem dX11_cast_63 : decode cX11_cast 63 = .ok (.goto 8, 3) := by decide +kernel
theorem dX11_cast_66 : decode cX11_cast 66 = .ok (.aload_n 0, 1) := by decide +kernel
theorem dX11_cast_67 : decode cX11_cast 67 = .ok (.iload_n 2, 1) := by decide +kernel
theorem dX11_cast_68 : decode cX11_cast 68 = .ok (.invokevirtual 190, 3) := by decide +kernel
theorem dX11_cast_71 : decode cX11_cast 71 = .ok (.ireturn, 1) := by decide +kernel
theorem dX11_castAt_0 : decode cX11_castAt 0 = .ok (.iload_n 1, 1) := by decide +kernel
theorem dX11_castAt_1 : decode cX11_castAt 1 = .ok (.bipush 6, 2) := by decide +kernel
theorem dX11_castAt_3 : decode cX11_castAt 3 = .ok (.invokestatic 117, 3) := by decide +kernel
theorem dX11_castAt_6 : decode cX11_castAt 6 = .ok (.ifCond .ne 9, 3) := by decide +kernel
theorem dX11_castAt_9 : decode cX11_castAt 9 = .ok (.aload_n 0, 1) := by decide +kernel
theorem dX11_castAt_10 : decode cX11_castAt 10 = .ok (.iconst 5, 1) := by decide +kernel
theorem dX11_castAt_11 : decode cX11_castAt 11 = .ok (.invokevirtual 143, 3) := by decide +kernel
theorem dX11_castAt_14 : decode cX11_castAt 14 = .ok (.ireturn, 1) := by decide +kernel
theorem dX11_castAt_15 : decode cX11_castAt 15 = .ok (.aload_n 0, 1) := by decide +kernel
theorem dX11_castAt_16 : decode cX11_castAt 16 = .ok (.getfield 73, 3) := by decide +kernel
theorem dX11_castAt_19 : decode cX11_castAt 19 = .ok (.getfield 393, 3) := by decide +kernel
theorem dX11_castAt_22 : decode cX11_castAt 22 = .ok (.iload_n 1, 1) := by decide +kernel
theorem dX11_castAt_23 : decode cX11_castAt 23 = .ok (.iaload, 1) := by decide +kernel
theorem dX11_castAt_24 : decode cX11_castAt 24 = .ok (.istore_n 2, 1) := by decide +kernel
theorem dX11_castAt_25 : decode cX11_castAt 25 = .ok (.iload_n 2, 1) := by decide +kernel
theorem dX11_castAt_26 : decode cX11_castAt 26 = .ok (.iconst (-1), 1) := by decide +kernel
theorem dX11_castAt_27 : decode cX11_castAt 27 = .ok (.if_icmp .ne 12, 3) := by decide +kernel
theorem dX11_castAt_30 : decode cX11_castAt 30 = .ok (.aload_n 0, 1) := by decide +kernel
theorem dX11_castAt_31 : decode cX11_castAt 31 = .ok (.bipush 8, 2) := by decide +kernel
theorem dX11_castAt_33 : decode cX11_castAt 33 = .ok (.invokevirtual 143, 3) := by decide +kernel
theorem dX11_castAt_36 : decode cX11_castAt 36 = .ok (.goto 8, 3) := by decide +kernel
theorem dX11_castAt_39 : decode cX11_castAt 39 = .ok (.aload_n 0, 1) := by decide +kernel
theorem dX11_castAt_40 : decode cX11_castAt 40 = .ok (.iload_n 2, 1) := by decide +kernel
theorem dX11_castAt_41 : decode cX11_castAt 41 = .ok (.invokevirtual 190, 3) := by decide +kernel
theorem dX11_castAt_44 : decode cX11_castAt 44 = .ok (.ireturn, 1) := by decide +kernel
theorem dX11_breaths_0 : decode cX11_breaths 0 = .ok (.aload_n 0, 1) := by decide +kernel
theorem dX11_breaths_1 : decode cX11_breaths 1 = .ok (.iload_n 1, 1) := by decide +kernel
theorem dX11_breaths_2 : decode cX11_breaths 2 = .ok (.invokevirtual 265, 3) := by decide +kernel
theorem dX11_breaths_5 : decode cX11_breaths 5 = .ok (.ifCond .ne 9, 3) := by decide +kernel
theorem dX11_breaths_8 : decode cX11_breaths 8 = .ok (.aload_n 0, 1) := by decide +kernel
theorem dX11_breaths_9 : decode cX11_breaths 9 = .ok (.iconst 2, 1) := by decide +kernel
theorem dX11_breaths_10 : decode cX11_breaths 10 = .ok (.invokevirtual 143, 3) := by decide +kernel
theorem dX11_breaths_13 : decode cX11_breaths 13 = .ok (.ireturn, 1) := by decide +kernel
theorem dX11_breaths_14 : decode cX11_breaths 14 = .ok (.iload_n 2, 1) := by decide +kernel
theorem dX11_breaths_15 : decode cX11_breaths 15 = .ok (.iconst 1, 1) := by decide +kernel
theorem dX11_breaths_16 : decode cX11_breaths 16 = .ok (.bipush 7, 2) := by decide +kernel
theorem dX11_breaths_18 : decode cX11_breaths 18 = .ok (.invokestatic 127, 3) := by decide +kernel
theorem dX11_breaths_21 : decode cX11_breaths 21 = .ok (.ifCond .ne 9, 3) := by decide +kernel
theorem dX11_breaths_24 : decode cX11_breaths 24 = .ok (.aload_n 0, 1) := by decide +kernel
theorem dX11_breaths_25 : decode cX11_breaths 25 = .ok (.iconst 5, 1) := by decide +kernel
theorem dX11_breaths_26 : decode cX11_breaths 26 = .ok (.invokevirtual 143, 3) := by decide +kernel
theorem dX11_breaths_29 : decode cX11_breaths 29 = .ok (.ireturn, 1) := by decide +kernel
theorem dX11_breaths_30 : decode cX11_breaths 30 = .ok (.aload_n 0, 1) := by decide +kernel
theorem dX11_breaths_31 : decode cX11_breaths 31 = .ok (.aload_n 0, 1) := by decide +kernel
theorem dX11_breaths_32 : decode cX11_breaths 32 = .ok (.getfield 41, 3) := by decide +kernel
theorem dX11_breaths_35 : decode cX11_breaths 35 = .ok (.getfield 92, 3) := by decide +kernel
theorem dX11_breaths_38 : decode cX11_breaths 38 = .ok (.iload_n 1, 1) := by decide +kernel
theorem dX11_breaths_39 : decode cX11_breaths 39 = .ok (.invokevirtual 396, 3) := by decide +kernel
theorem dX11_breaths_42 : decode cX11_breaths 42 = .ok (.iload_n 2, 1) := by decide +kernel
theorem dX11_breaths_43 : decode cX11_breaths 43 = .ok (.imul, 1) := by decide +kernel
theorem dX11_breaths_44 : decode cX11_breaths 44 = .ok (.invokevirtual 190, 3) := by decide +kernel
theorem dX11_breaths_47 : decode cX11_breaths 47 = .ok (.ireturn, 1) := by decide +kernel
theorem dX11_run_0 : decode cX11_run 0 = .ok (.iload_n 1, 1) := by decide +kernel
theorem dX11_run_1 : decode cX11_run 1 = .ok (.iconst 0, 1) := by decide +kernel
theorem dX11_run_2 : decode cX11_run 2 = .ok (.sipush 9999, 3) := by decide +kernel
theorem dX11_run_5 : decode cX11_run 5 = .ok (.invokestatic 127, 3) := by decide +kernel
theorem dX11_run_8 : decode cX11_run 8 = .ok (.ifCond .ne 9, 3) := by decide +kernel
theorem dX11_run_11 : decode cX11_run 11 = .ok (.aload_n 0, 1) := by decide +kernel
theorem dX11_run_12 : decode cX11_run 12 = .ok (.iconst 5, 1) := by decide +kernel
theorem dX11_run_13 : decode cX11_run 13 = .ok (.invokevirtual 143, 3) := by decide +kernel
theorem dX11_run_16 : decode cX11_run 16 = .ok (.ireturn, 1) := by decide +kernel
theorem dX11_run_17 : decode cX11_run 17 = .ok (.aload_n 0, 1) := by decide +kernel
theorem dX11_run_18 : decode cX11_run 18 = .ok (.getfield 41, 3) := by decide +kernel
theorem dX11_run_21 : decode cX11_run 21 = .ok (.getfield 204, 3) := by decide +kernel
theorem dX11_run_24 : decode cX11_run 24 = .ok (.ifnonnull 10, 3) := by decide +kernel
theorem dX11_run_27 : decode cX11_run 27 = .ok (.aload_n 0, 1) := by decide +kernel
theorem dX11_run_28 : decode cX11_run 28 = .ok (.bipush 8, 2) := by decide +kernel
theorem dX11_run_30 : decode cX11_run 30 = .ok (.invokevirtual 143, 3) := by decide +kernel
theorem dX11_run_33 : decode cX11_run 33 = .ok (.ireturn, 1) := by decide +kernel
theorem dX11_run_34 : decode cX11_run 34 = .ok (.aload_n 0, 1) := by decide +kernel
theorem dX11_run_35 : decode cX11_run 35 = .ok (.getfield 80, 3) := by decide +kernel
theorem dX11_run_38 : decode cX11_run 38 = .ok (.aload_n 0, 1) := by decide +kernel
theorem dX11_run_39 : decode cX11_run 39 = .ok (.getfield 41, 3) := by decide +kernel
theorem dX11_run_42 : decode cX11_run 42 = .ok (.iload_n 1, 1) := by decide +kernel
theorem dX11_run_43 : decode cX11_run 43 = .ok (.iconst 1, 1) := by decide +kernel
theorem dX11_run_44 : decode cX11_run 44 = .ok (.invokevirtual 399, 3) := by decide +kernel
theorem dX11_run_47 : decode cX11_run 47 = .ok (.aload_n 0, 1) := by decide +kernel
theorem dX11_run_48 : decode cX11_run 48 = .ok (.aload_n 0, 1) := by decide +kernel
theorem dX11_run_49 : decode cX11_run 49 = .ok (.getfield 80, 3) := by decide +kernel
theorem dX11_run_52 : decode cX11_run 52 = .ok (.getfield 403, 3) := by decide +kernel
theorem dX11_run_55 : decode cX11_run 55 = .ok (.invokevirtual 190, 3) := by decide +kernel
theorem dX11_run_58 : decode cX11_run 58 = .ok (.ireturn, 1) := by decide +kernel
theorem dX11_ran_0 : decode cX11_ran 0 = .ok (.iload_n 1, 1) := by decide +kernel
theorem dX11_ran_1 : decode cX11_ran 1 = .ok (.iconst 0, 1) := by decide +kernel
theorem dX11_ran_2 : decode cX11_ran 2 = .ok (.iconst 4, 1) := by decide +kernel
theorem dX11_ran_3 : decode cX11_ran 3 = .ok (.invokestatic 127, 3) := by decide +kernel
theorem dX11_ran_6 : decode cX11_ran 6 = .ok (.ifCond .ne 9, 3) := by decide +kernel
theorem dX11_ran_9 : decode cX11_ran 9 = .ok (.aload_n 0, 1) := by decide +kernel
theorem dX11_ran_10 : decode cX11_ran 10 = .ok (.iconst 5, 1) := by decide +kernel
theorem dX11_ran_11 : decode cX11_ran 11 = .ok (.invokevirtual 143, 3) := by decide +kernel
theorem dX11_ran_14 : decode cX11_ran 14 = .ok (.ireturn, 1) := by decide +kernel
theorem dX11_ran_15 : decode cX11_ran 15 = .ok (.aload_n 0, 1) := by decide +kernel
theorem dX11_ran_16 : decode cX11_ran 16 = .ok (.getfield 80, 3) := by decide +kernel
theorem dX11_ran_19 : decode cX11_ran 19 = .ok (.getfield 406, 3) := by decide +kernel
theorem dX11_ran_22 : decode cX11_ran 22 = .ok (.ifCond .eq 18, 3) := by decide +kernel
theorem dX11_ran_25 : decode cX11_ran 25 = .ok (.aload_n 0, 1) := by decide +kernel
theorem dX11_ran_26 : decode cX11_ran 26 = .ok (.aload_n 0, 1) := by decide +kernel
theorem dX11_ran_27 : decode cX11_ran 27 = .ok (.getfield 80, 3) := by decide +kernel
theorem dX11_ran_30 : decode cX11_ran 30 = .ok (.iload_n 1, 1) := by decide +kernel
theorem dX11_ran_31 : decode cX11_ran 31 = .ok (.invokevirtual 409, 3) := by decide +kernel
theorem dX11_ran_34 : decode cX11_ran 34 = .ok (.invokevirtual 190, 3) := by decide +kernel
theorem dX11_ran_37 : decode cX11_ran 37 = .ok (.goto 9, 3) := by decide +kernel
theorem dX11_ran_40 : decode cX11_ran 40 = .ok (.aload_n 0, 1) := by decide +kernel
theorem dX11_ran_41 : decode cX11_ran 41 = .ok (.bipush 8, 2) := by decide +kernel
theorem dX11_ran_43 : decode cX11_ran 43 = .ok (.invokevirtual 143, 3) := by decide +kernel
theorem dX11_ran_46 : decode cX11_ran 46 = .ok (.ireturn, 1) := by decide +kernel
theorem dX11_often_0 : decode cX11_often 0 = .ok (.iload_n 1, 1) := by decide +kernel
theorem dX11_often_1 : decode cX11_often 1 = .ok (.iconst 0, 1) := by decide +kernel
theorem dX11_often_2 : decode cX11_often 2 = .ok (.bipush 9, 2) := by decide +kernel
theorem dX11_often_4 : decode cX11_often 4 = .ok (.invokestatic 127, 3) := by decide +kernel
theorem dX11_often_7 : decode cX11_often 7 = .ok (.ifCond .eq 24, 3) := by decide +kernel
theorem dX11_often_10 : decode cX11_often 10 = .ok (.iload_n 2, 1) := by decide +kernel
theorem dX11_often_11 : decode cX11_often 11 = .ok (.iconst 0, 1) := by decide +kernel
theorem dX11_often_12 : decode cX11_often 12 = .ok (.sipush 9999, 3) := by decide +kernel
theorem dX11_often_15 : decode cX11_often 15 = .ok (.invokestatic 127, 3) := by decide +kernel
theorem dX11_often_18 : decode cX11_often 18 = .ok (.ifCond .eq 13, 3) := by decide +kernel
theorem dX11_often_21 : decode cX11_often 21 = .ok (.iload_n 3, 1) := by decide +kernel
theorem dX11_often_22 : decode cX11_often 22 = .ok (.iconst 1, 1) := by decide +kernel
theorem dX11_often_23 : decode cX11_often 23 = .ok (.bipush 20, 2) := by decide +kernel
theorem dX11_often_25 : decode cX11_often 25 = .ok (.invokestatic 127, 3) := by decide +kernel
theorem dX11_often_28 : decode cX11_often 28 = .ok (.ifCond .ne 9, 3) := by decide +kernel
theorem dX11_often_31 : decode cX11_often 31 = .ok (.aload_n 0, 1) := by decide +kernel
theorem dX11_often_32 : decode cX11_often 32 = .ok (.iconst 5, 1) := by decide +kernel
theorem dX11_often_33 : decode cX11_often 33 = .ok (.invokevirtual 106, 3) := by decide +kernel
theorem dX11_often_36 : decode cX11_often 36 = .ok (.ireturn, 1) := by decide +kernel
theorem dX11_often_37 : decode cX11_often 37 = .ok (.iload_n 2, 1) := by decide +kernel
theorem dX11_often_38 : decode cX11_often 38 = .ok (.iload_n 3, 1) := by decide +kernel
theorem dX11_often_39 : decode cX11_often 39 = .ok (.iadd, 1) := by decide +kernel
theorem dX11_often_40 : decode cX11_often 40 = .ok (.iconst 1, 1) := by decide +kernel
theorem dX11_often_41 : decode cX11_often 41 = .ok (.isub, 1) := by decide +kernel
theorem dX11_often_42 : decode cX11_often 42 = .ok (.sipush 9999, 3) := by decide +kernel
theorem dX11_often_45 : decode cX11_often 45 = .ok (.if_icmp .le 9, 3) := by decide +kernel
theorem dX11_often_48 : decode cX11_often 48 = .ok (.aload_n 0, 1) := by decide +kernel
theorem dX11_often_49 : decode cX11_often 49 = .ok (.iconst 5, 1) := by decide +kernel
theorem dX11_often_50 : decode cX11_often 50 = .ok (.invokevirtual 106, 3) := by decide +kernel
theorem dX11_often_53 : decode cX11_often 53 = .ok (.ireturn, 1) := by decide +kernel
theorem dX11_often_54 : decode cX11_often 54 = .ok (.aload_n 0, 1) := by decide +kernel
theorem dX11_often_55 : decode cX11_often 55 = .ok (.getfield 41, 3) := by decide +kernel
theorem dX11_often_58 : decode cX11_often 58 = .ok (.getfield 204, 3) := by decide +kernel
theorem dX11_often_61 : decode cX11_often 61 = .ok (.ifnonnull 10, 3) := by decide +kernel
theorem dX11_often_64 : decode cX11_often 64 = .ok (.aload_n 0, 1) := by decide +kernel
theorem dX11_often_65 : decode cX11_often 65 = .ok (.bipush 8, 2) := by decide +kernel
theorem dX11_often_67 : decode cX11_often 67 = .ok (.invokevirtual 106, 3) := by decide +kernel
theorem dX11_often_70 : decode cX11_often 70 = .ok (.ireturn, 1) := by decide +kernel
theorem dX11_often_71 : decode cX11_often 71 = .ok (.iconst 0, 1) := by decide +kernel
theorem dX11_often_72 : decode cX11_often 72 = .ok (.istore 4, 2) := by decide +kernel
theorem dX11_often_74 : decode cX11_often 74 = .ok (.iconst 0, 1) := by decide +kernel
theorem dX11_often_75 : decode cX11_often 75 = .ok (.istore 5, 2) := by decide +kernel
theorem dX11_often_77 : decode cX11_often 77 = .ok (.iload 5, 2) := by decide +kernel
theorem dX11_often_79 : decode cX11_often 79 = .ok (.iload_n 3, 1) := by decide +kernel
theorem dX11_often_80 : decode cX11_often 80 = .ok (.if_icmp .ge 41, 3) := by decide +kernel
theorem dX11_often_83 : decode cX11_often 83 = .ok (.aload_n 0, 1) := by decide +kernel
theorem dX11_often_84 : decode cX11_often 84 = .ok (.getfield 84, 3) := by decide +kernel
theorem dX11_often_87 : decode cX11_often 87 = .ok (.aload_n 0, 1) := by decide +kernel
theorem dX11_often_88 : decode cX11_often 88 = .ok (.getfield 41, 3) := by decide +kernel
theorem dX11_often_91 : decode cX11_often 91 = .ok (.iload_n 2, 1) := by decide +kernel
theorem dX11_often_92 : decode cX11_often 92 = .ok (.iload 5, 2) := by decide +kernel
theorem dX11_often_94 : decode cX11_often 94 = .ok (.iadd, 1) := by decide +kernel
theorem dX11_often_95 : decode cX11_often 95 = .ok (.iconst 0, 1) := by decide +kernel
theorem dX11_often_96 : decode cX11_often 96 = .ok (.invokevirtual 399, 3) := by decide +kernel
theorem dX11_often_99 : decode cX11_often 99 = .ok (.iload 4, 2) := by decide +kernel
theorem dX11_often_101 : decode cX11_often 101 = .ok (.aload_n 0, 1) := by decide +kernel
theorem dX11_often_102 : decode cX11_often 102 = .ok (.getfield 84, 3) := by decide +kernel
theorem dX11_often_105 : decode cX11_often 105 = .ok (.getfield 412, 3) := by decide +kernel
theorem dX11_often_108 : decode cX11_often 108 = .ok (.iload_n 1, 1) := by decide +kernel
theorem dX11_often_109 : decode cX11_often 109 = .ok (.ishr, 1) := by decide +kernel
theorem dX11_often_110 : decode cX11_often 110 = .ok (.iconst 1, 1) := by decide +kernel
theorem dX11_often_111 : decode cX11_often 111 = .ok (.iand, 1) := by decide +kernel
theorem dX11_often_112 : decode cX11_often 112 = .ok (.iadd, 1) := by decide +kernel
theorem dX11_often_113 : decode cX11_often 113 = .ok (.istore 4, 2) := by decide +kernel
theorem dX11_often_115 : decode cX11_often 115 = .ok (.iinc 5 1, 3) := by decide +kernel
theorem dX11_often_118 : decode cX11_often 118 = .ok (.goto (-41), 3) := by decide +kernel
theorem dX11_often_121 : decode cX11_often 121 = .ok (.aload_n 0, 1) := by decide +kernel
theorem dX11_often_122 : decode cX11_often 122 = .ok (.iload 4, 2) := by decide +kernel
theorem dX11_often_124 : decode cX11_often 124 = .ok (.i2l, 1) := by decide +kernel
theorem dX11_often_125 : decode cX11_often 125 = .ok (.iload_n 3, 1) := by decide +kernel
theorem dX11_often_126 : decode cX11_often 126 = .ok (.i2l, 1) := by decide +kernel
theorem dX11_often_127 : decode cX11_often 127 = .ok (.invokevirtual 339, 3) := by decide +kernel
theorem dX11_often_130 : decode cX11_often 130 = .ok (.ireturn, 1) := by decide +kernel
theorem dX11_mark_0 : decode cX11_mark 0 = .ok (.aload_n 0, 1) := by decide +kernel
theorem dX11_mark_1 : decode cX11_mark 1 = .ok (.getfield 415, 3) := by decide +kernel
theorem dX11_mark_4 : decode cX11_mark 4 = .ok (.iconst 3, 1) := by decide +kernel
theorem dX11_mark_5 : decode cX11_mark 5 = .ok (.invokestatic 117, 3) := by decide +kernel
theorem dX11_mark_8 : decode cX11_mark 8 = .ok (.ifCond .ne 10, 3) := by decide +kernel
theorem dX11_mark_11 : decode cX11_mark 11 = .ok (.aload_n 0, 1) := by decide +kernel
theorem dX11_mark_12 : decode cX11_mark 12 = .ok (.bipush 7, 2) := by decide +kernel
theorem dX11_mark_14 : decode cX11_mark 14 = .ok (.invokevirtual 143, 3) := by decide +kernel
theorem dX11_mark_17 : decode cX11_mark 17 = .ok (.ireturn, 1) := by decide +kernel
theorem dX11_mark_18 : decode cX11_mark 18 = .ok (.aload_n 0, 1) := by decide +kernel
theorem dX11_mark_19 : decode cX11_mark 19 = .ok (.getfield 45, 3) := by decide +kernel
theorem dX11_mark_22 : decode cX11_mark 22 = .ok (.aload_n 0, 1) := by decide +kernel
theorem dX11_mark_23 : decode cX11_mark 23 = .ok (.dup, 1) := by decide +kernel
theorem dX11_mark_24 : decode cX11_mark 24 = .ok (.getfield 415, 3) := by decide +kernel
theorem dX11_mark_27 : decode cX11_mark 27 = .ok (.dup_x1, 1) := by decide +kernel
theorem dX11_mark_28 : decode cX11_mark 28 = .ok (.iconst 1, 1) := by decide +kernel
theorem dX11_mark_29 : decode cX11_mark 29 = .ok (.iadd, 1) := by decide +kernel
theorem dX11_mark_30 : decode cX11_mark 30 = .ok (.putfield 415, 3) := by decide +kernel
theorem dX11_mark_33 : decode cX11_mark 33 = .ok (.aaload, 1) := by decide +kernel
theorem dX11_mark_34 : decode cX11_mark 34 = .ok (.aload_n 0, 1) := by decide +kernel
theorem dX11_mark_35 : decode cX11_mark 35 = .ok (.getfield 41, 3) := by decide +kernel
theorem dX11_mark_38 : decode cX11_mark 38 = .ok (.invokevirtual 418, 3) := by decide +kernel
theorem dX11_mark_41 : decode cX11_mark 41 = .ok (.aload_n 0, 1) := by decide +kernel
theorem dX11_mark_42 : decode cX11_mark 42 = .ok (.aload_n 0, 1) := by decide +kernel
theorem dX11_mark_43 : decode cX11_mark 43 = .ok (.getfield 415, 3) := by decide +kernel
theorem dX11_mark_46 : decode cX11_mark 46 = .ok (.invokevirtual 190, 3) := by decide +kernel
theorem dX11_mark_49 : decode cX11_mark 49 = .ok (.ireturn, 1) := by decide +kernel
theorem dX11_back_0 : decode cX11_back 0 = .ok (.aload_n 0, 1) := by decide +kernel
theorem dX11_back_1 : decode cX11_back 1 = .ok (.getfield 415, 3) := by decide +kernel
theorem dX11_back_4 : decode cX11_back 4 = .ok (.iconst 1, 1) := by decide +kernel
theorem dX11_back_5 : decode cX11_back 5 = .ok (.iconst 3, 1) := by decide +kernel
theorem dX11_back_6 : decode cX11_back 6 = .ok (.invokestatic 127, 3) := by decide +kernel
theorem dX11_back_9 : decode cX11_back 9 = .ok (.ifCond .ne 10, 3) := by decide +kernel
theorem dX11_back_12 : decode cX11_back 12 = .ok (.aload_n 0, 1) := by decide +kernel
theorem dX11_back_13 : decode cX11_back 13 = .ok (.bipush 8, 2) := by decide +kernel
theorem dX11_back_15 : decode cX11_back 15 = .ok (.invokevirtual 143, 3) := by decide +kernel
theorem dX11_back_18 : decode cX11_back 18 = .ok (.ireturn, 1) := by decide +kernel
theorem dX11_back_19 : decode cX11_back 19 = .ok (.aload_n 0, 1) := by decide +kernel
theorem dX11_back_20 : decode cX11_back 20 = .ok (.getfield 41, 3) := by decide +kernel
theorem dX11_back_23 : decode cX11_back 23 = .ok (.aload_n 0, 1) := by decide +kernel
theorem dX11_back_24 : decode cX11_back 24 = .ok (.getfield 45, 3) := by decide +kernel
theorem dX11_back_27 : decode cX11_back 27 = .ok (.aload_n 0, 1) := by decide +kernel
theorem dX11_back_28 : decode cX11_back 28 = .ok (.dup, 1) := by decide +kernel
theorem dX11_back_29 : decode cX11_back 29 = .ok (.getfield 415, 3) := by decide +kernel
theorem dX11_back_32 : decode cX11_back 32 = .ok (.iconst 1, 1) := by decide +kernel
theorem dX11_back_33 : decode cX11_back 33 = .ok (.isub, 1) := by decide +kernel
theorem dX11_back_34 : decode cX11_back 34 = .ok (.dup_x1, 1) := by decide +kernel
theorem dX11_back_35 : decode cX11_back 35 = .ok (.putfield 415, 3) := by decide +kernel
theorem dX11_back_38 : decode cX11_back 38 = .ok (.aaload, 1) := by decide +kernel
theorem dX11_back_39 : decode cX11_back 39 = .ok (.invokevirtual 418, 3) := by decide +kernel
theorem dX11_back_42 : decode cX11_back 42 = .ok (.aload_n 0, 1) := by decide +kernel
theorem dX11_back_43 : decode cX11_back 43 = .ok (.aload_n 0, 1) := by decide +kernel
theorem dX11_back_44 : decode cX11_back 44 = .ok (.getfield 415, 3) := by decide +kernel
theorem dX11_back_47 : decode cX11_back 47 = .ok (.invokevirtual 190, 3) := by decide +kernel
theorem dX11_back_50 : decode cX11_back 50 = .ok (.ireturn, 1) := by decide +kernel
