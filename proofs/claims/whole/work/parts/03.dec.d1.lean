theorem dX12_init_0 : decode cX12_init 0 = .ok (.aload_n 0, 1) := by decide +kernel
theorem dX12_init_1 : decode cX12_init 1 = .ok (.invokespecial 1, 3) := by decide +kernel
theorem dX12_init_4 : decode cX12_init 4 = .ok (.aload_n 0, 1) := by decide +kernel
theorem dX12_init_5 : decode cX12_init 5 = .ok (.lconst 1, 1) := by decide +kernel
theorem dX12_init_6 : decode cX12_init 6 = .ok (.putfield 7, 3) := by decide +kernel
theorem dX12_init_9 : decode cX12_init 9 = .ok (.aload_n 0, 1) := by decide +kernel
theorem dX12_init_10 : decode cX12_init 10 = .ok (.iconst 4, 1) := by decide +kernel
theorem dX12_init_11 : decode cX12_init 11 = .ok (.newarray .int, 2) := by decide +kernel
theorem dX12_init_13 : decode cX12_init 13 = .ok (.putfield 13, 3) := by decide +kernel
theorem dX12_init_16 : decode cX12_init 16 = .ok (.aload_n 0, 1) := by decide +kernel
theorem dX12_init_17 : decode cX12_init 17 = .ok (.iconst 4, 1) := by decide +kernel
theorem dX12_init_18 : decode cX12_init 18 = .ok (.newarray .int, 2) := by decide +kernel
theorem dX12_init_20 : decode cX12_init 20 = .ok (.putfield 17, 3) := by decide +kernel
theorem dX12_init_23 : decode cX12_init 23 = .ok (.aload_n 0, 1) := by decide +kernel
theorem dX12_init_24 : decode cX12_init 24 = .ok (.sipush 240, 3) := by decide +kernel
theorem dX12_init_27 : decode cX12_init 27 = .ok (.newarray .long, 2) := by decide +kernel
theorem dX12_init_29 : decode cX12_init 29 = .ok (.putfield 20, 3) := by decide +kernel
theorem dX12_init_32 : decode cX12_init 32 = .ok (.aload_n 0, 1) := by decide +kernel
theorem dX12_init_33 : decode cX12_init 33 = .ok (.sipush 900, 3) := by decide +kernel
theorem dX12_init_36 : decode cX12_init 36 = .ok (.newarray .byte, 2) := by decide +kernel
theorem dX12_init_38 : decode cX12_init 38 = .ok (.putfield 24, 3) := by decide +kernel
theorem dX12_init_41 : decode cX12_init 41 = .ok (.aload_n 0, 1) := by decide +kernel
theorem dX12_init_42 : decode cX12_init 42 = .ok (.iconst (-1), 1) := by decide +kernel
theorem dX12_init_43 : decode cX12_init 43 = .ok (.putfield 28, 3) := by decide +kernel
theorem dX12_init_46 : decode cX12_init 46 = .ok (.aload_n 0, 1) := by decide +kernel
theorem dX12_init_47 : decode cX12_init 47 = .ok (.iconst (-1), 1) := by decide +kernel
theorem dX12_init_48 : decode cX12_init 48 = .ok (.putfield 32, 3) := by decide +kernel
theorem dX12_init_51 : decode cX12_init 51 = .ok (.aload_n 0, 1) := by decide +kernel
theorem dX12_init_52 : decode cX12_init 52 = .ok (.sipush 2150, 3) := by decide +kernel
theorem dX12_init_55 : decode cX12_init 55 = .ok (.newarray .int, 2) := by decide +kernel
theorem dX12_init_57 : decode cX12_init 57 = .ok (.putfield 35, 3) := by decide +kernel
theorem dX12_init_60 : decode cX12_init 60 = .ok (.aload_n 0, 1) := by decide +kernel
theorem dX12_init_61 : decode cX12_init 61 = .ok (.sipush 219, 3) := by decide +kernel
theorem dX12_init_64 : decode cX12_init 64 = .ok (.newarray .int, 2) := by decide +kernel
theorem dX12_init_66 : decode cX12_init 66 = .ok (.putfield 38, 3) := by decide +kernel
theorem dX12_init_69 : decode cX12_init 69 = .ok (.aload_n 0, 1) := by decide +kernel
theorem dX12_init_70 : decode cX12_init 70 = .ok (.sipush 140, 3) := by decide +kernel
theorem dX12_init_73 : decode cX12_init 73 = .ok (.newarray .long, 2) := by decide +kernel
theorem dX12_init_75 : decode cX12_init 75 = .ok (.putfield 41, 3) := by decide +kernel
theorem dX12_init_78 : decode cX12_init 78 = .ok (.aload_n 0, 1) := by decide +kernel
theorem dX12_init_79 : decode cX12_init 79 = .ok (.bipush 10, 2) := by decide +kernel
theorem dX12_init_81 : decode cX12_init 81 = .ok (.newarray .long, 2) := by decide +kernel
theorem dX12_init_83 : decode cX12_init 83 = .ok (.putfield 44, 3) := by decide +kernel
theorem dX12_init_86 : decode cX12_init 86 = .ok (.aload_n 0, 1) := by decide +kernel
theorem dX12_init_87 : decode cX12_init 87 = .ok (.bipush 12, 2) := by decide +kernel
theorem dX12_init_89 : decode cX12_init 89 = .ok (.newarray .long, 2) := by decide +kernel
theorem dX12_init_91 : decode cX12_init 91 = .ok (.putfield 47, 3) := by decide +kernel
theorem dX12_init_94 : decode cX12_init 94 = .ok (.aload_n 0, 1) := by decide +kernel
theorem dX12_init_95 : decode cX12_init 95 = .ok (.bipush 12, 2) := by decide +kernel
theorem dX12_init_97 : decode cX12_init 97 = .ok (.newarray .int, 2) := by decide +kernel
theorem dX12_init_99 : decode cX12_init 99 = .ok (.putfield 50, 3) := by decide +kernel
theorem dX12_init_102 : decode cX12_init 102 = .ok (.aload_n 0, 1) := by decide +kernel
theorem dX12_init_103 : decode cX12_init 103 = .ok (.sipush 4096, 3) := by decide +kernel
theorem dX12_init_106 : decode cX12_init 106 = .ok (.newarray .boolean, 2) := by decide +kernel
theorem dX12_init_108 : decode cX12_init 108 = .ok (.putfield 53, 3) := by decide +kernel
theorem dX12_init_111 : decode cX12_init 111 = .ok (.aload_n 0, 1) := by decide +kernel
theorem dX12_init_112 : decode cX12_init 112 = .ok (.bipush 10, 2) := by decide +kernel
theorem dX12_init_114 : decode cX12_init 114 = .ok (.newarray .long, 2) := by decide +kernel
theorem dX12_init_116 : decode cX12_init 116 = .ok (.putfield 57, 3) := by decide +kernel
theorem dX12_init_119 : decode cX12_init 119 = .ok (.aload_n 0, 1) := by decide +kernel
theorem dX12_init_120 : decode cX12_init 120 = .ok (.bipush 12, 2) := by decide +kernel
theorem dX12_init_122 : decode cX12_init 122 = .ok (.newarray .long, 2) := by decide +kernel
theorem dX12_init_124 : decode cX12_init 124 = .ok (.putfield 60, 3) := by decide +kernel
theorem dX12_init_127 : decode cX12_init 127 = .ok (.aload_n 0, 1) := by decide +kernel
theorem dX12_init_128 : decode cX12_init 128 = .ok (.sipush 4096, 3) := by decide +kernel
theorem dX12_init_131 : decode cX12_init 131 = .ok (.newarray .int, 2) := by decide +kernel
theorem dX12_init_133 : decode cX12_init 133 = .ok (.putfield 63, 3) := by decide +kernel
theorem dX12_init_136 : decode cX12_init 136 = .ok (.aload_n 0, 1) := by decide +kernel
theorem dX12_init_137 : decode cX12_init 137 = .ok (.bipush 12, 2) := by decide +kernel
theorem dX12_init_139 : decode cX12_init 139 = .ok (.newarray .int, 2) := by decide +kernel
theorem dX12_init_141 : decode cX12_init 141 = .ok (.putfield 66, 3) := by decide +kernel
theorem dX12_init_144 : decode cX12_init 144 = .ok (.aload_n 0, 1) := by decide +kernel
theorem dX12_init_145 : decode cX12_init 145 = .ok (.bipush 12, 2) := by decide +kernel
theorem dX12_init_147 : decode cX12_init 147 = .ok (.newarray .int, 2) := by decide +kernel
theorem dX12_init_149 : decode cX12_init 149 = .ok (.putfield 69, 3) := by decide +kernel
theorem dX12_init_152 : decode cX12_init 152 = .ok (.aload_n 0, 1) := by decide +kernel
theorem dX12_init_153 : decode cX12_init 153 = .ok (.bipush 12, 2) := by decide +kernel
theorem dX12_init_155 : decode cX12_init 155 = .ok (.newarray .int, 2) := by decide +kernel
theorem dX12_init_157 : decode cX12_init 157 = .ok (.putfield 72, 3) := by decide +kernel
theorem dX12_init_160 : decode cX12_init 160 = .ok (.aload_n 0, 1) := by decide +kernel
theorem dX12_init_161 : decode cX12_init 161 = .ok (.bipush 6, 2) := by decide +kernel
theorem dX12_init_163 : decode cX12_init 163 = .ok (.newarray .int, 2) := by decide +kernel
theorem dX12_init_165 : decode cX12_init 165 = .ok (.putfield 75, 3) := by decide +kernel
theorem dX12_init_168 : decode cX12_init 168 = .ok (.aload_n 0, 1) := by decide +kernel
theorem dX12_init_169 : decode cX12_init 169 = .ok (.bipush 6, 2) := by decide +kernel
theorem dX12_init_171 : decode cX12_init 171 = .ok (.newarray .int, 2) := by decide +kernel
theorem dX12_init_173 : decode cX12_init 173 = .ok (.putfield 78, 3) := by decide +kernel
theorem dX12_init_176 : decode cX12_init 176 = .ok (.aload_n 0, 1) := by decide +kernel
theorem dX12_init_177 : decode cX12_init 177 = .ok (.bipush 6, 2) := by decide +kernel
theorem dX12_init_179 : decode cX12_init 179 = .ok (.newarray .int, 2) := by decide +kernel
theorem dX12_init_181 : decode cX12_init 181 = .ok (.putfield 81, 3) := by decide +kernel
theorem dX12_init_184 : decode cX12_init 184 = .ok (.aload_n 0, 1) := by decide +kernel
theorem dX12_init_185 : decode cX12_init 185 = .ok (.bipush 6, 2) := by decide +kernel
theorem dX12_init_187 : decode cX12_init 187 = .ok (.newarray .int, 2) := by decide +kernel
theorem dX12_init_189 : decode cX12_init 189 = .ok (.putfield 84, 3) := by decide +kernel
theorem dX12_init_192 : decode cX12_init 192 = .ok (.aload_n 0, 1) := by decide +kernel
theorem dX12_init_193 : decode cX12_init 193 = .ok (.iconst 5, 1) := by decide +kernel
theorem dX12_init_194 : decode cX12_init 194 = .ok (.newarray .int, 2) := by decide +kernel
theorem dX12_init_196 : decode cX12_init 196 = .ok (.putfield 87, 3) := by decide +kernel
theorem dX12_init_199 : decode cX12_init 199 = .ok (.iconst 0, 1) := by decide +kernel
theorem dX12_init_200 : decode cX12_init 200 = .ok (.istore_n 1, 1) := by decide +kernel
theorem dX12_init_201 : decode cX12_init 201 = .ok (.iload_n 1, 1) := by decide +kernel
theorem dX12_init_202 : decode cX12_init 202 = .ok (.iconst 4, 1) := by decide +kernel
theorem dX12_init_203 : decode cX12_init 203 = .ok (.if_icmp .ge 16, 3) := by decide +kernel
theorem dX12_init_206 : decode cX12_init 206 = .ok (.aload_n 0, 1) := by decide +kernel
theorem dX12_init_207 : decode cX12_init 207 = .ok (.getfield 17, 3) := by decide +kernel
theorem dX12_init_210 : decode cX12_init 210 = .ok (.iload_n 1, 1) := by decide +kernel
theorem dX12_init_211 : decode cX12_init 211 = .ok (.iconst (-1), 1) := by decide +kernel
theorem dX12_init_212 : decode cX12_init 212 = .ok (.iastore, 1) := by decide +kernel
theorem dX12_init_213 : decode cX12_init 213 = .ok (.iinc 1 1, 3) := by decide +kernel
theorem dX12_init_216 : decode cX12_init 216 = .ok (.goto (-15), 3) := by decide +kernel
theorem dX12_init_219 : decode cX12_init 219 = .ok (.return_, 1) := by decide +kernel
theorem dX12_status_0 : decode cX12_status 0 = .ok (.aload_n 0, 1) := by decide +kernel
theorem dX12_status_1 : decode cX12_status 1 = .ok (.iconst 0, 1) := by decide +kernel
theorem dX12_status_2 : decode cX12_status 2 = .ok (.putfield 90, 3) := by decide +kernel
theorem dX12_status_5 : decode cX12_status 5 = .ok (.aload_n 0, 1) := by decide +kernel
theorem dX12_status_6 : decode cX12_status 6 = .ok (.getfield 93, 3) := by decide +kernel
theorem dX12_status_9 : decode cX12_status 9 = .ok (.ireturn, 1) := by decide +kernel
theorem dX12_top_0 : decode cX12_top 0 = .ok (.aload_n 0, 1) := by decide +kernel
theorem dX12_top_1 : decode cX12_top 1 = .ok (.iconst 0, 1) := by decide +kernel
theorem dX12_top_2 : decode cX12_top 2 = .ok (.putfield 90, 3) := by decide +kernel
theorem dX12_top_5 : decode cX12_top 5 = .ok (.aload_n 0, 1) := by decide +kernel
theorem dX12_top_6 : decode cX12_top 6 = .ok (.getfield 96, 3) := by decide +kernel
theorem dX12_top_9 : decode cX12_top 9 = .ok (.lreturn, 1) := by decide +kernel
theorem dX12_bottom_0 : decode cX12_bottom 0 = .ok (.aload_n 0, 1) := by decide +kernel
theorem dX12_bottom_1 : decode cX12_bottom 1 = .ok (.iconst 0, 1) := by decide +kernel
theorem dX12_bottom_2 : decode cX12_bottom 2 = .ok (.putfield 90, 3) := by decide +kernel
theorem dX12_bottom_5 : decode cX12_bottom 5 = .ok (.aload_n 0, 1) := by decide +kernel
theorem dX12_bottom_6 : decode cX12_bottom 6 = .ok (.getfield 7, 3) := by decide +kernel
theorem dX12_bottom_9 : decode cX12_bottom 9 = .ok (.lreturn, 1) := by decide +kernel
theorem dX12_refuse_0 : decode cX12_refuse 0 = .ok (.aload_n 0, 1) := by decide +kernel
theorem dX12_refuse_1 : decode cX12_refuse 1 = .ok (.iload_n 1, 1) := by decide +kernel
theorem dX12_refuse_2 : decode cX12_refuse 2 = .ok (.putfield 93, 3) := by decide +kernel
theorem dX12_refuse_5 : decode cX12_refuse 5 = .ok (.iconst (-1), 1) := by decide +kernel
theorem dX12_refuse_6 : decode cX12_refuse 6 = .ok (.ireturn, 1) := by decide +kernel
theorem dX12_no_0 : decode cX12_no 0 = .ok (.aload_n 0, 1) := by decide +kernel
theorem dX12_no_1 : decode cX12_no 1 = .ok (.iload_n 1, 1) := by decide +kernel
theorem dX12_no_2 : decode cX12_no 2 = .ok (.putfield 93, 3) := by decide +kernel
theorem dX12_no_5 : decode cX12_no 5 = .ok (.iconst 0, 1) := by decide +kernel
theorem dX12_no_6 : decode cX12_no 6 = .ok (.ireturn, 1) := by decide +kernel
theorem dX12_isIn_0 : decode cX12_isIn 0 = .ok (.lload_n 0, 1) := by decide +kernel
theorem dX12_isIn_1 : decode cX12_isIn 1 = .ok (.lload_n 2, 1) := by decide +kernel
theorem dX12_isIn_2 : decode cX12_isIn 2 = .ok (.lcmp, 1) := by decide +kernel
theorem dX12_isIn_3 : decode cX12_isIn 3 = .ok (.ifCond .lt 14, 3) := by decide +kernel
theorem dX12_isIn_6 : decode cX12_isIn 6 = .ok (.lload_n 0, 1) := by decide +kernel
theorem dX12_isIn_7 : decode cX12_isIn 7 = .ok (.lload 4, 2) := by decide +kernel
theorem dX12_isIn_9 : decode cX12_isIn 9 = .ok (.lcmp, 1) := by decide +kernel
theorem dX12_isIn_10 : decode cX12_isIn 10 = .ok (.ifCond .gt 7, 3) := by decide +kernel
theorem dX12_isIn_13 : decode cX12_isIn 13 = .ok (.iconst 1, 1) := by decide +kernel
theorem dX12_isIn_14 : decode cX12_isIn 14 = .ok (.goto 4, 3) := by decide +kernel
theorem dX12_isIn_17 : decode cX12_isIn 17 = .ok (.iconst 0, 1) := by decide +kernel
theorem dX12_isIn_18 : decode cX12_isIn 18 = .ok (.ireturn, 1) := by decide +kernel
theorem dX12_common_0 : decode cX12_common 0 = .ok (.lload_n 0, 1) := by decide +kernel
theorem dX12_common_1 : decode cX12_common 1 = .ok (.invokestatic 99, 3) := by decide +kernel
theorem dX12_common_4 : decode cX12_common 4 = .ok (.lstore 4, 2) := by decide +kernel
theorem dX12_common_6 : decode cX12_common 6 = .ok (.lload_n 2, 1) := by decide +kernel
theorem dX12_common_7 : decode cX12_common 7 = .ok (.invokestatic 99, 3) := by decide +kernel
theorem dX12_common_10 : decode cX12_common 10 = .ok (.lstore 6, 2) := by decide +kernel
theorem dX12_common_12 : decode cX12_common 12 = .ok (.lload 6, 2) := by decide +kernel
theorem dX12_common_14 : decode cX12_common 14 = .ok (.lconst 0, 1) := by decide +kernel
theorem dX12_common_15 : decode cX12_common 15 = .ok (.lcmp, 1) := by decide +kernel
theorem dX12_common_16 : decode cX12_common 16 = .ok (.ifCond .eq 21, 3) := by decide +kernel
theorem dX12_common_19 : decode cX12_common 19 = .ok (.lload 4, 2) := by decide +kernel
theorem dX12_common_21 : decode cX12_common 21 = .ok (.lload 6, 2) := by decide +kernel
theorem dX12_common_23 : decode cX12_common 23 = .ok (.lrem, 1) := by decide +kernel
theorem dX12_common_24 : decode cX12_common 24 = .ok (.lstore 8, 2) := by decide +kernel
theorem dX12_common_26 : decode cX12_common 26 = .ok (.lload 6, 2) := by decide +kernel
theorem dX12_common_28 : decode cX12_common 28 = .ok (.lstore 4, 2) := by decide +kernel
theorem dX12_common_30 : decode cX12_common 30 = .ok (.lload 8, 2) := by decide +kernel
theorem dX12_common_32 : decode cX12_common 32 = .ok (.lstore 6, 2) := by decide +kernel
theorem dX12_common_34 : decode cX12_common 34 = .ok (.goto (-22), 3) := by decide +kernel
theorem dX12_common_37 : decode cX12_common 37 = .ok (.lload 4, 2) := by decide +kernel
theorem dX12_common_39 : decode cX12_common 39 = .ok (.lreturn, 1) := by decide +kernel
theorem dX12_fraction_0 : decode cX12_fraction 0 = .ok (.lload_n 1, 1) := by decide +kernel
theorem dX12_fraction_1 : decode cX12_fraction 1 = .ok (.lload_n 3, 1) := by decide +kernel
theorem dX12_fraction_2 : decode cX12_fraction 2 = .ok (.invokestatic 105, 3) := by decide +kernel
theorem dX12_fraction_5 : decode cX12_fraction 5 = .ok (.lstore 5, 2) := by decide +kernel
theorem dX12_fraction_7 : decode cX12_fraction 7 = .ok (.aload_n 0, 1) := by decide +kernel
theorem dX12_fraction_8 : decode cX12_fraction 8 = .ok (.lload_n 1, 1) := by decide +kernel
theorem dX12_fraction_9 : decode cX12_fraction 9 = .ok (.lload 5, 2) := by decide +kernel
theorem dX12_fraction_11 : decode cX12_fraction 11 = .ok (.ldiv, 1) := by decide +kernel
theorem dX12_fraction_12 : decode cX12_fraction 12 = .ok (.putfield 96, 3) := by decide +kernel
theorem dX12_fraction_15 : decode cX12_fraction 15 = .ok (.aload_n 0, 1) := by decide +kernel
theorem dX12_fraction_16 : decode cX12_fraction 16 = .ok (.lload_n 3, 1) := by decide +kernel
theorem dX12_fraction_17 : decode cX12_fraction 17 = .ok (.lload 5, 2) := by decide +kernel
theorem dX12_fraction_19 : decode cX12_fraction 19 = .ok (.ldiv, 1) := by decide +kernel
theorem dX12_fraction_20 : decode cX12_fraction 20 = .ok (.putfield 7, 3) := by decide +kernel
theorem dX12_fraction_23 : decode cX12_fraction 23 = .ok (.iconst 1, 1) := by decide +kernel
theorem dX12_fraction_24 : decode cX12_fraction 24 = .ok (.ireturn, 1) := by decide +kernel
theorem dX12_cut_0 : decode cX12_cut 0 = .ok (.iload_n 0, 1) := by decide +kernel
theorem dX12_cut_1 : decode cX12_cut 1 = .ok (.ifCond .ne 10, 3) := by decide +kernel
theorem dX12_cut_4 : decode cX12_cut 4 = .ok (.lload_n 1, 1) := by decide +kernel
theorem dX12_cut_5 : decode cX12_cut 5 = .ok (.l2i, 1) := by decide +kernel
theorem dX12_cut_6 : decode cX12_cut 6 = .ok (.i2b, 1) := by decide +kernel
theorem dX12_cut_7 : decode cX12_cut 7 = .ok (.i2l, 1) := by decide +kernel
theorem dX12_cut_8 : decode cX12_cut 8 = .ok (.goto 27, 3) := by decide +kernel
theorem dX12_cut_11 : decode cX12_cut 11 = .ok (.iload_n 0, 1) := by decide +kernel
theorem dX12_cut_12 : decode cX12_cut 12 = .ok (.iconst 1, 1) := by decide +kernel
theorem dX12_cut_13 : decode cX12_cut 13 = .ok (.if_icmp .ne 10, 3) := by decide +kernel
theorem dX12_cut_16 : decode cX12_cut 16 = .ok (.lload_n 1, 1) := by decide +kernel
theorem dX12_cut_17 : decode cX12_cut 17 = .ok (.l2i, 1) := by decide +kernel
theorem dX12_cut_18 : decode cX12_cut 18 = .ok (.i2s, 1) := by decide +kernel
theorem dX12_cut_19 : decode cX12_cut 19 = .ok (.i2l, 1) := by decide +kernel
theorem dX12_cut_20 : decode cX12_cut 20 = .ok (.goto 15, 3) := by decide +kernel
theorem dX12_cut_23 : decode cX12_cut 23 = .ok (.iload_n 0, 1) := by decide +kernel
theorem dX12_cut_24 : decode cX12_cut 24 = .ok (.iconst 2, 1) := by decide +kernel
theorem dX12_cut_25 : decode cX12_cut 25 = .ok (.if_icmp .ne 9, 3) := by decide +kernel
theorem dX12_cut_28 : decode cX12_cut 28 = .ok (.lload_n 1, 1) := by decide +kernel
theorem dX12_cut_29 : decode cX12_cut 29 = .ok (.l2i, 1) := by decide +kernel
theorem dX12_cut_30 : decode cX12_cut 30 = .ok (.i2l, 1) := by decide +kernel
theorem dX12_cut_31 : decode cX12_cut 31 = .ok (.goto 4, 3) := by decide +kernel
theorem dX12_cut_34 : decode cX12_cut 34 = .ok (.lload_n 1, 1) := by decide +kernel
theorem dX12_cut_35 : decode cX12_cut 35 = .ok (.lreturn, 1) := by decide +kernel
theorem dX12_tray_0 : decode cX12_tray 0 = .ok (.aload_n 0, 1) := by decide +kernel
theorem dX12_tray_1 : decode cX12_tray 1 = .ok (.iconst 0, 1) := by decide +kernel
theorem dX12_tray_2 : decode cX12_tray 2 = .ok (.putfield 90, 3) := by decide +kernel
theorem dX12_tray_5 : decode cX12_tray 5 = .ok (.aload_n 0, 1) := by decide +kernel
theorem dX12_tray_6 : decode cX12_tray 6 = .ok (.iconst 0, 1) := by decide +kernel
theorem dX12_tray_7 : decode cX12_tray 7 = .ok (.putfield 93, 3) := by decide +kernel
theorem dX12_tray_10 : decode cX12_tray 10 = .ok (.iload_n 1, 1) := by decide +kernel
theorem dX12_tray_11 : decode cX12_tray 11 = .ok (.ifCond .lt 17, 3) := by decide +kernel
theorem dX12_tray_14 : decode cX12_tray 14 = .ok (.iload_n 1, 1) := by decide +kernel
theorem dX12_tray_15 : decode cX12_tray 15 = .ok (.iconst 4, 1) := by decide +kernel
theorem dX12_tray_16 : decode cX12_tray 16 = .ok (.if_icmp .ge 12, 3) := by decide +kernel
theorem dX12_tray_19 : decode cX12_tray 19 = .ok (.iload_n 2, 1) := by decide +kernel
theorem dX12_tray_20 : decode cX12_tray 20 = .ok (.ifCond .lt 8, 3) := by decide +kernel
theorem dX12_tray_23 : decode cX12_tray 23 = .ok (.iload_n 2, 1) := by decide +kernel
theorem dX12_tray_24 : decode cX12_tray 24 = .ok (.iconst 3, 1) := by decide +kernel
theorem dX12_tray_25 : decode cX12_tray 25 = .ok (.if_icmp .le 9, 3) := by decide +kernel
theorem dX12_tray_28 : decode cX12_tray 28 = .ok (.aload_n 0, 1) := by decide +kernel
theorem dX12_tray_29 : decode cX12_tray 29 = .ok (.iconst 1, 1) := by decide +kernel
theorem dX12_tray_30 : decode cX12_tray 30 = .ok (.invokevirtual 109, 3) := by decide +kernel
theorem dX12_tray_33 : decode cX12_tray 33 = .ok (.ireturn, 1) := by decide +kernel
theorem dX12_tray_34 : decode cX12_tray 34 = .ok (.iload_n 3, 1) := by decide +kernel
theorem dX12_tray_35 : decode cX12_tray 35 = .ok (.bipush 60, 2) := by decide +kernel
theorem dX12_tray_37 : decode cX12_tray 37 = .ok (.if_icmp .le 9, 3) := by decide +kernel
theorem dX12_tray_40 : decode cX12_tray 40 = .ok (.aload_n 0, 1) := by decide +kernel
theorem dX12_tray_41 : decode cX12_tray 41 = .ok (.iconst 5, 1) := by decide +kernel
theorem dX12_tray_42 : decode cX12_tray 42 = .ok (.invokevirtual 109, 3) := by decide +kernel
theorem dX12_tray_45 : decode cX12_tray 45 = .ok (.ireturn, 1) := by decide +kernel
theorem dX12_tray_46 : decode cX12_tray 46 = .ok (.iload_n 3, 1) := by decide +kernel
theorem dX12_tray_47 : decode cX12_tray 47 = .ok (.ifCond .ge 10, 3) := by decide +kernel
theorem dX12_tray_50 : decode cX12_tray 50 = .ok (.aload_n 0, 1) := by decide +kernel
theorem dX12_tray_51 : decode cX12_tray 51 = .ok (.bipush 6, 2) := by decide +kernel
theorem dX12_tray_53 : decode cX12_tray 53 = .ok (.invokevirtual 109, 3) := by decide +kernel
theorem dX12_tray_56 : decode cX12_tray 56 = .ok (.ireturn, 1) := by decide +kernel
theorem dX12_tray_57 : decode cX12_tray 57 = .ok (.aload_n 0, 1) := by decide +kernel
theorem dX12_tray_58 : decode cX12_tray 58 = .ok (.getfield 13, 3) := by decide +kernel
theorem dX12_tray_61 : decode cX12_tray 61 = .ok (.iload_n 1, 1) := by decide +kernel
theorem dX12_tray_62 : decode cX12_tray 62 = .ok (.iload_n 2, 1) := by decide +kernel
theorem dX12_tray_63 : decode cX12_tray 63 = .ok (.iastore, 1) := by decide +kernel
theorem dX12_tray_64 : decode cX12_tray 64 = .ok (.aload_n 0, 1) := by decide +kernel
theorem dX12_tray_65 : decode cX12_tray 65 = .ok (.getfield 17, 3) := by decide +kernel
theorem dX12_tray_68 : decode cX12_tray 68 = .ok (.iload_n 1, 1) := by decide +kernel
theorem dX12_tray_69 : decode cX12_tray 69 = .ok (.iload_n 3, 1) := by decide +kernel
theorem dX12_tray_70 : decode cX12_tray 70 = .ok (.iastore, 1) := by decide +kernel
theorem dX12_tray_71 : decode cX12_tray 71 = .ok (.iconst 0, 1) := by decide +kernel
theorem dX12_tray_72 : decode cX12_tray 72 = .ok (.istore 4, 2) := by decide +kernel
theorem dX12_tray_74 : decode cX12_tray 74 = .ok (.iload 4, 2) := by decide +kernel
theorem dX12_tray_76 : decode cX12_tray 76 = .ok (.iload_n 3, 1) := by decide +kernel
theorem dX12_tray_77 : decode cX12_tray 77 = .ok (.if_icmp .ge 22, 3) := by decide +kernel
theorem dX12_tray_80 : decode cX12_tray 80 = .ok (.aload_n 0, 1) := by decide +kernel
theorem dX12_tray_81 : decode cX12_tray 81 = .ok (.getfield 20, 3) := by decide +kernel
theorem dX12_tray_84 : decode cX12_tray 84 = .ok (.bipush 60, 2) := by decide +kernel
theorem dX12_tray_86 : decode cX12_tray 86 = .ok (.iload_n 1, 1) := by decide +kernel
theorem dX12_tray_87 : decode cX12_tray 87 = .ok (.imul, 1) := by decide +kernel
theorem dX12_tray_88 : decode cX12_tray 88 = .ok (.iload 4, 2) := by decide +kernel
theorem dX12_tray_90 : decode cX12_tray 90 = .ok (.iadd, 1) := by decide +kernel
theorem dX12_tray_91 : decode cX12_tray 91 = .ok (.lconst 0, 1) := by decide +kernel
theorem dX12_tray_92 : decode cX12_tray 92 = .ok (.lastore, 1) := by decide +kernel
theorem dX12_tray_93 : decode cX12_tray 93 = .ok (.iinc 4 1, 3) := by decide +kernel
theorem dX12_tray_96 : decode cX12_tray 96 = .ok (.goto (-22), 3) := by decide +kernel
theorem dX12_tray_99 : decode cX12_tray 99 = .ok (.iconst 1, 1) := by decide +kernel
theorem dX12_tray_100 : decode cX12_tray 100 = .ok (.ireturn, 1) := by decide +kernel
theorem dX12_trayed_0 : decode cX12_trayed 0 = .ok (.iload_n 1, 1) := by decide +kernel
theorem dX12_trayed_1 : decode cX12_trayed 1 = .ok (.ifCond .lt 8, 3) := by decide +kernel
theorem dX12_trayed_4 : decode cX12_trayed 4 = .ok (.iload_n 1, 1) := by decide +kernel
theorem dX12_trayed_5 : decode cX12_trayed 5 = .ok (.iconst 4, 1) := by decide +kernel
theorem dX12_trayed_6 : decode cX12_trayed 6 = .ok (.if_icmp .lt 7, 3) := by decide +kernel
theorem dX12_trayed_9 : decode cX12_trayed 9 = .ok (.iconst 1, 1) := by decide +kernel
theorem dX12_trayed_10 : decode cX12_trayed 10 = .ok (.goto 17, 3) := by decide +kernel
theorem dX12_trayed_13 : decode cX12_trayed 13 = .ok (.aload_n 0, 1) := by decide +kernel
theorem dX12_trayed_14 : decode cX12_trayed 14 = .ok (.getfield 17, 3) := by decide +kernel
theorem dX12_trayed_17 : decode cX12_trayed 17 = .ok (.iload_n 1, 1) := by decide +kernel
theorem dX12_trayed_18 : decode cX12_trayed 18 = .ok (.iaload, 1) := by decide +kernel
theorem dX12_trayed_19 : decode cX12_trayed 19 = .ok (.ifCond .ge 7, 3) := by decide +kernel
theorem dX12_trayed_22 : decode cX12_trayed 22 = .ok (.iconst 3, 1) := by decide +kernel
theorem dX12_trayed_23 : decode cX12_trayed 23 = .ok (.goto 4, 3) := by decide +kernel
theorem dX12_trayed_26 : decode cX12_trayed 26 = .ok (.iconst 0, 1) := by decide +kernel
theorem dX12_trayed_27 : decode cX12_trayed 27 = .ok (.ireturn, 1) := by decide +kernel
theorem dX12_placed_0 : decode cX12_placed 0 = .ok (.aload_n 0, 1) := by decide +kernel
theorem dX12_placed_1 : decode cX12_placed 1 = .ok (.iload_n 1, 1) := by decide +kernel
theorem dX12_placed_2 : decode cX12_placed 2 = .ok (.invokevirtual 113, 3) := by decide +kernel
theorem dX12_placed_5 : decode cX12_placed 5 = .ok (.istore_n 3, 1) := by decide +kernel
theorem dX12_placed_6 : decode cX12_placed 6 = .ok (.iload_n 3, 1) := by decide +kernel
theorem dX12_placed_7 : decode cX12_placed 7 = .ok (.ifCond .le 7, 3) := by decide +kernel
theorem dX12_placed_10 : decode cX12_placed 10 = .ok (.iload_n 3, 1) := by decide +kernel
theorem dX12_placed_11 : decode cX12_placed 11 = .ok (.goto 22, 3) := by decide +kernel
theorem dX12_placed_14 : decode cX12_placed 14 = .ok (.iload_n 2, 1) := by decide +kernel
theorem dX12_placed_15 : decode cX12_placed 15 = .ok (.ifCond .lt 13, 3) := by decide +kernel
theorem dX12_placed_18 : decode cX12_placed 18 = .ok (.iload_n 2, 1) := by decide +kernel
theorem dX12_placed_19 : decode cX12_placed 19 = .ok (.aload_n 0, 1) := by decide +kernel
theorem dX12_placed_20 : decode cX12_placed 20 = .ok (.getfield 17, 3) := by decide +kernel
theorem dX12_placed_23 : decode cX12_placed 23 = .ok (.iload_n 1, 1) := by decide +kernel
theorem dX12_placed_24 : decode cX12_placed 24 = .ok (.iaload, 1) := by decide +kernel
theorem dX12_placed_25 : decode cX12_placed 25 = .ok (.if_icmp .lt 7, 3) := by decide +kernel
theorem dX12_placed_28 : decode cX12_placed 28 = .ok (.iconst 4, 1) := by decide +kernel
theorem dX12_placed_29 : decode cX12_placed 29 = .ok (.goto 4, 3) := by decide +kernel
theorem dX12_placed_32 : decode cX12_placed 32 = .ok (.iconst 0, 1) := by decide +kernel
theorem dX12_placed_33 : decode cX12_placed 33 = .ok (.ireturn, 1) := by decide +kernel
theorem dX12_write_0 : decode cX12_write 0 = .ok (.aload_n 0, 1) := by decide +kernel
theorem dX12_write_1 : decode cX12_write 1 = .ok (.iconst 0, 1) := by decide +kernel
theorem dX12_write_2 : decode cX12_write 2 = .ok (.putfield 90, 3) := by decide +kernel
theorem dX12_write_5 : decode cX12_write 5 = .ok (.aload_n 0, 1) := by decide +kernel
theorem dX12_write_6 : decode cX12_write 6 = .ok (.aload_n 0, 1) := by decide +kernel
theorem dX12_write_7 : decode cX12_write 7 = .ok (.iload_n 1, 1) := by decide +kernel
theorem dX12_write_8 : decode cX12_write 8 = .ok (.iload_n 2, 1) := by decide +kernel
theorem dX12_write_9 : decode cX12_write 9 = .ok (.invokevirtual 117, 3) := by decide +kernel
theorem dX12_write_12 : decode cX12_write 12 = .ok (.putfield 93, 3) := by decide +kernel
theorem dX12_write_15 : decode cX12_write 15 = .ok (.aload_n 0, 1) := by decide +kernel
theorem dX12_write_16 : decode cX12_write 16 = .ok (.getfield 93, 3) := by decide +kernel
theorem dX12_write_19 : decode cX12_write 19 = .ok (.ifCond .le 5, 3) := by decide +kernel
theorem dX12_write_22 : decode cX12_write 22 = .ok (.iconst 0, 1) := by decide +kernel
theorem dX12_write_23 : decode cX12_write 23 = .ok (.ireturn, 1) := by decide +kernel
theorem dX12_write_24 : decode cX12_write 24 = .ok (.aload_n 0, 1) := by decide +kernel
theorem dX12_write_25 : decode cX12_write 25 = .ok (.getfield 20, 3) := by decide +kernel
theorem dX12_write_28 : decode cX12_write 28 = .ok (.bipush 60, 2) := by decide +kernel
theorem dX12_write_30 : decode cX12_write 30 = .ok (.iload_n 1, 1) := by decide +kernel
theorem dX12_write_31 : decode cX12_write 31 = .ok (.imul, 1) := by decide +kernel
theorem dX12_write_32 : decode cX12_write 32 = .ok (.iload_n 2, 1) := by decide +kernel
theorem dX12_write_33 : decode cX12_write 33 = .ok (.iadd, 1) := by decide +kernel
theorem dX12_write_34 : decode cX12_write 34 = .ok (.aload_n 0, 1) := by decide +kernel
theorem dX12_write_35 : decode cX12_write 35 = .ok (.getfield 13, 3) := by decide +kernel
theorem dX12_write_38 : decode cX12_write 38 = .ok (.iload_n 1, 1) := by decide +kernel
theorem dX12_write_39 : decode cX12_write 39 = .ok (.iaload, 1) := by decide +kernel
theorem dX12_write_40 : decode cX12_write 40 = .ok (.lload_n 3, 1) := by decide +kernel
theorem dX12_write_41 : decode cX12_write 41 = .ok (.invokestatic 121, 3) := by decide +kernel
theorem dX12_write_44 : decode cX12_write 44 = .ok (.lastore, 1) := by decide +kernel
theorem dX12_write_45 : decode cX12_write 45 = .ok (.iconst 1, 1) := by decide +kernel
theorem dX12_write_46 : decode cX12_write 46 = .ok (.ireturn, 1) := by decide +kernel
theorem dX12_read_0 : decode cX12_read 0 = .ok (.aload_n 0, 1) := by decide +kernel
theorem dX12_read_1 : decode cX12_read 1 = .ok (.iconst 0, 1) := by decide +kernel
theorem dX12_read_2 : decode cX12_read 2 = .ok (.putfield 90, 3) := by decide +kernel
theorem dX12_read_5 : decode cX12_read 5 = .ok (.aload_n 0, 1) := by decide +kernel
theorem dX12_read_6 : decode cX12_read 6 = .ok (.aload_n 0, 1) := by decide +kernel
theorem dX12_read_7 : decode cX12_read 7 = .ok (.iload_n 1, 1) := by decide +kernel
theorem dX12_read_8 : decode cX12_read 8 = .ok (.iload_n 2, 1) := by decide +kernel
theorem dX12_read_9 : decode cX12_read 9 = .ok (.invokevirtual 117, 3) := by decide +kernel
theorem dX12_read_12 : decode cX12_read 12 = .ok (.putfield 93, 3) := by decide +kernel
theorem dX12_read_15 : decode cX12_read 15 = .ok (.aload_n 0, 1) := by decide +kernel
theorem dX12_read_16 : decode cX12_read 16 = .ok (.getfield 93, 3) := by decide +kernel
theorem dX12_read_19 : decode cX12_read 19 = .ok (.ifCond .le 9, 3) := by decide +kernel
theorem dX12_read_22 : decode cX12_read 22 = .ok (.ldc2_w 125, 3) := by decide +kernel
theorem dX12_read_25 : decode cX12_read 25 = .ok (.goto 14, 3) := by decide +kernel
theorem dX12_read_28 : decode cX12_read 28 = .ok (.aload_n 0, 1) := by decide +kernel
theorem dX12_read_29 : decode cX12_read 29 = .ok (.getfield 20, 3) := by decide +kernel
theorem dX12_read_32 : decode cX12_read 32 = .ok (.bipush 60, 2) := by decide +kernel
theorem dX12_read_34 : decode cX12_read 34 = .ok (.iload_n 1, 1) := by decide +kernel
theorem dX12_read_35 : decode cX12_read 35 = .ok (.imul, 1) := by decide +kernel
theorem dX12_read_36 : decode cX12_read 36 = .ok (.iload_n 2, 1) := by decide +kernel
theorem dX12_read_37 : decode cX12_read 37 = .ok (.iadd, 1) := by decide +kernel
theorem dX12_read_38 : decode cX12_read 38 = .ok (.laload, 1) := by decide +kernel
theorem dX12_read_39 : decode cX12_read 39 = .ok (.lreturn, 1) := by decide +kernel
theorem dX12_pour_0 : decode cX12_pour 0 = .ok (.aload_n 0, 1) := by decide +kernel
theorem dX12_pour_1 : decode cX12_pour 1 = .ok (.iconst 0, 1) := by decide +kernel
theorem dX12_pour_2 : decode cX12_pour 2 = .ok (.putfield 90, 3) := by decide +kernel
theorem dX12_pour_5 : decode cX12_pour 5 = .ok (.aload_n 0, 1) := by decide +kernel
theorem dX12_pour_6 : decode cX12_pour 6 = .ok (.iconst 0, 1) := by decide +kernel
theorem dX12_pour_7 : decode cX12_pour 7 = .ok (.putfield 93, 3) := by decide +kernel
theorem dX12_pour_10 : decode cX12_pour 10 = .ok (.iload_n 1, 1) := by decide +kernel
theorem dX12_pour_11 : decode cX12_pour 11 = .ok (.ifCond .lt 17, 3) := by decide +kernel
theorem dX12_pour_14 : decode cX12_pour 14 = .ok (.iload_n 1, 1) := by decide +kernel
theorem dX12_pour_15 : decode cX12_pour 15 = .ok (.iconst 4, 1) := by decide +kernel
theorem dX12_pour_16 : decode cX12_pour 16 = .ok (.if_icmp .ge 12, 3) := by decide +kernel
theorem dX12_pour_19 : decode cX12_pour 19 = .ok (.iload_n 3, 1) := by decide +kernel
theorem dX12_pour_20 : decode cX12_pour 20 = .ok (.ifCond .lt 8, 3) := by decide +kernel
theorem dX12_pour_23 : decode cX12_pour 23 = .ok (.iload_n 3, 1) := by decide +kernel
theorem dX12_pour_24 : decode cX12_pour 24 = .ok (.iconst 4, 1) := by decide +kernel
theorem dX12_pour_25 : decode cX12_pour 25 = .ok (.if_icmp .lt 9, 3) := by decide +kernel
theorem dX12_pour_28 : decode cX12_pour 28 = .ok (.aload_n 0, 1) := by decide +kernel
theorem dX12_pour_29 : decode cX12_pour 29 = .ok (.iconst 1, 1) := by decide +kernel
theorem dX12_pour_30 : decode cX12_pour 30 = .ok (.invokevirtual 109, 3) := by decide +kernel
theorem dX12_pour_33 : decode cX12_pour 33 = .ok (.ireturn, 1) := by decide +kernel
theorem dX12_pour_34 : decode cX12_pour 34 = .ok (.aload_n 0, 1) := by decide +kernel
theorem dX12_pour_35 : decode cX12_pour 35 = .ok (.getfield 17, 3) := by decide +kernel
theorem dX12_pour_38 : decode cX12_pour 38 = .ok (.iload_n 1, 1) := by decide +kernel
theorem dX12_pour_39 : decode cX12_pour 39 = .ok (.iaload, 1) := by decide +kernel
theorem dX12_pour_40 : decode cX12_pour 40 = .ok (.ifCond .lt 12, 3) := by decide +kernel
theorem dX12_pour_43 : decode cX12_pour 43 = .ok (.aload_n 0, 1) := by decide +kernel
theorem dX12_pour_44 : decode cX12_pour 44 = .ok (.getfield 17, 3) := by decide +kernel
theorem dX12_pour_47 : decode cX12_pour 47 = .ok (.iload_n 3, 1) := by decide +kernel
theorem dX12_pour_48 : decode cX12_pour 48 = .ok (.iaload, 1) := by decide +kernel
theorem dX12_pour_49 : decode cX12_pour 49 = .ok (.ifCond .ge 9, 3) := by decide +kernel
theorem dX12_pour_52 : decode cX12_pour 52 = .ok (.aload_n 0, 1) := by decide +kernel
theorem dX12_pour_53 : decode cX12_pour 53 = .ok (.iconst 3, 1) := by decide +kernel
theorem dX12_pour_54 : decode cX12_pour 54 = .ok (.invokevirtual 109, 3) := by decide +kernel
theorem dX12_pour_57 : decode cX12_pour 57 = .ok (.ireturn, 1) := by decide +kernel
theorem dX12_pour_58 : decode cX12_pour 58 = .ok (.aload_n 0, 1) := by decide +kernel
theorem dX12_pour_59 : decode cX12_pour 59 = .ok (.getfield 13, 3) := by decide +kernel
theorem dX12_pour_62 : decode cX12_pour 62 = .ok (.iload_n 1, 1) := by decide +kernel
theorem dX12_pour_63 : decode cX12_pour 63 = .ok (.iaload, 1) := by decide +kernel
theorem dX12_pour_64 : decode cX12_pour 64 = .ok (.aload_n 0, 1) := by decide +kernel
theorem dX12_pour_65 : decode cX12_pour 65 = .ok (.getfield 13, 3) := by decide +kernel
theorem dX12_pour_68 : decode cX12_pour 68 = .ok (.iload_n 3, 1) := by decide +kernel
theorem dX12_pour_69 : decode cX12_pour 69 = .ok (.iaload, 1) := by decide +kernel
theorem dX12_pour_70 : decode cX12_pour 70 = .ok (.if_icmp .eq 10, 3) := by decide +kernel
theorem dX12_pour_73 : decode cX12_pour 73 = .ok (.aload_n 0, 1) := by decide +kernel
theorem dX12_pour_74 : decode cX12_pour 74 = .ok (.bipush 11, 2) := by decide +kernel
theorem dX12_pour_76 : decode cX12_pour 76 = .ok (.invokevirtual 109, 3) := by decide +kernel
theorem dX12_pour_79 : decode cX12_pour 79 = .ok (.ireturn, 1) := by decide +kernel
theorem dX12_pour_80 : decode cX12_pour 80 = .ok (.iload 5, 2) := by decide +kernel
theorem dX12_pour_82 : decode cX12_pour 82 = .ok (.ifCond .ge 10, 3) := by decide +kernel
theorem dX12_pour_85 : decode cX12_pour 85 = .ok (.aload_n 0, 1) := by decide +kernel
theorem dX12_pour_86 : decode cX12_pour 86 = .ok (.bipush 6, 2) := by decide +kernel
theorem dX12_pour_88 : decode cX12_pour 88 = .ok (.invokevirtual 109, 3) := by decide +kernel
theorem dX12_pour_91 : decode cX12_pour 91 = .ok (.ireturn, 1) := by decide +kernel
theorem dX12_pour_92 : decode cX12_pour 92 = .ok (.iload_n 2, 1) := by decide +kernel
theorem dX12_pour_93 : decode cX12_pour 93 = .ok (.ifCond .lt 43, 3) := by decide +kernel
theorem dX12_pour_96 : decode cX12_pour 96 = .ok (.iload 4, 2) := by decide +kernel
theorem dX12_pour_98 : decode cX12_pour 98 = .ok (.ifCond .lt 38, 3) := by decide +kernel
theorem dX12_pour_101 : decode cX12_pour 101 = .ok (.iload_n 2, 1) := by decide +kernel
theorem dX12_pour_102 : decode cX12_pour 102 = .ok (.i2l, 1) := by decide +kernel
theorem dX12_pour_103 : decode cX12_pour 103 = .ok (.iload 5, 2) := by decide +kernel
theorem dX12_pour_105 : decode cX12_pour 105 = .ok (.i2l, 1) := by decide +kernel
theorem dX12_pour_106 : decode cX12_pour 106 = .ok (.ladd, 1) := by decide +kernel
theorem dX12_pour_107 : decode cX12_pour 107 = .ok (.aload_n 0, 1) := by decide +kernel
theorem dX12_pour_108 : decode cX12_pour 108 = .ok (.getfield 17, 3) := by decide +kernel
theorem dX12_pour_111 : decode cX12_pour 111 = .ok (.iload_n 1, 1) := by decide +kernel
theorem dX12_pour_112 : decode cX12_pour 112 = .ok (.iaload, 1) := by decide +kernel
theorem dX12_pour_113 : decode cX12_pour 113 = .ok (.i2l, 1) := by decide +kernel
theorem dX12_pour_114 : decode cX12_pour 114 = .ok (.lcmp, 1) := by decide +kernel
theorem dX12_pour_115 : decode cX12_pour 115 = .ok (.ifCond .gt 21, 3) := by decide +kernel
theorem dX12_pour_118 : decode cX12_pour 118 = .ok (.iload 4, 2) := by decide +kernel
theorem dX12_pour_120 : decode cX12_pour 120 = .ok (.i2l, 1) := by decide +kernel
theorem dX12_pour_121 : decode cX12_pour 121 = .ok (.iload 5, 2) := by decide +kernel
theorem dX12_pour_123 : decode cX12_pour 123 = .ok (.i2l, 1) := by decide +kernel
theorem dX12_pour_124 : decode cX12_pour 124 = .ok (.ladd, 1) := by decide +kernel
theorem dX12_pour_125 : decode cX12_pour 125 = .ok (.aload_n 0, 1) := by decide +kernel
theorem dX12_pour_126 : decode cX12_pour 126 = .ok (.getfield 17, 3) := by decide +kernel
theorem dX12_pour_129 : decode cX12_pour 129 = .ok (.iload_n 3, 1) := by decide +kernel
theorem dX12_pour_130 : decode cX12_pour 130 = .ok (.iaload, 1) := by decide +kernel
theorem dX12_pour_131 : decode cX12_pour 131 = .ok (.i2l, 1) := by decide +kernel
theorem dX12_pour_132 : decode cX12_pour 132 = .ok (.lcmp, 1) := by decide +kernel
theorem dX12_pour_133 : decode cX12_pour 133 = .ok (.ifCond .le 9, 3) := by decide +kernel
theorem dX12_pour_136 : decode cX12_pour 136 = .ok (.aload_n 0, 1) := by decide +kernel
theorem dX12_pour_137 : decode cX12_pour 137 = .ok (.iconst 4, 1) := by decide +kernel
theorem dX12_pour_138 : decode cX12_pour 138 = .ok (.invokevirtual 109, 3) := by decide +kernel
theorem dX12_pour_141 : decode cX12_pour 141 = .ok (.ireturn, 1) := by decide +kernel
theorem dX12_pour_142 : decode cX12_pour 142 = .ok (.iload_n 2, 1) := by decide +kernel
theorem dX12_pour_143 : decode cX12_pour 143 = .ok (.iload 4, 2) := by decide +kernel
theorem dX12_pour_145 : decode cX12_pour 145 = .ok (.if_icmp .ge 7, 3) := by decide +kernel
theorem dX12_pour_148 : decode cX12_pour 148 = .ok (.iconst 1, 1) := by decide +kernel
theorem dX12_pour_149 : decode cX12_pour 149 = .ok (.goto 4, 3) := by decide +kernel
theorem dX12_pour_152 : decode cX12_pour 152 = .ok (.iconst 0, 1) := by decide +kernel
theorem dX12_pour_153 : decode cX12_pour 153 = .ok (.istore 6, 2) := by decide +kernel
theorem dX12_pour_155 : decode cX12_pour 155 = .ok (.iconst 0, 1) := by decide +kernel
theorem dX12_pour_156 : decode cX12_pour 156 = .ok (.istore 7, 2) := by decide +kernel
theorem dX12_pour_158 : decode cX12_pour 158 = .ok (.iload 7, 2) := by decide +kernel
theorem dX12_pour_160 : decode cX12_pour 160 = .ok (.iload 5, 2) := by decide +kernel
theorem dX12_pour_162 : decode cX12_pour 162 = .ok (.if_icmp .ge 57, 3) := by decide +kernel
theorem dX12_pour_165 : decode cX12_pour 165 = .ok (.iload 6, 2) := by decide +kernel
theorem dX12_pour_167 : decode cX12_pour 167 = .ok (.ifCond .eq 13, 3) := by decide +kernel
theorem dX12_pour_170 : decode cX12_pour 170 = .ok (.iload 5, 2) := by decide +kernel
theorem dX12_pour_172 : decode cX12_pour 172 = .ok (.iconst 1, 1) := by decide +kernel
theorem dX12_pour_173 : decode cX12_pour 173 = .ok (.isub, 1) := by decide +kernel
theorem dX12_pour_174 : decode cX12_pour 174 = .ok (.iload 7, 2) := by decide +kernel
theorem dX12_pour_176 : decode cX12_pour 176 = .ok (.isub, 1) := by decide +kernel
theorem dX12_pour_177 : decode cX12_pour 177 = .ok (.goto 5, 3) := by decide +kernel
theorem dX12_pour_180 : decode cX12_pour 180 = .ok (.iload 7, 2) := by decide +kernel
theorem dX12_pour_182 : decode cX12_pour 182 = .ok (.istore 8, 2) := by decide +kernel
theorem dX12_pour_184 : decode cX12_pour 184 = .ok (.aload_n 0, 1) := by decide +kernel
theorem dX12_pour_185 : decode cX12_pour 185 = .ok (.getfield 20, 3) := by decide +kernel
theorem dX12_pour_188 : decode cX12_pour 188 = .ok (.bipush 60, 2) := by decide +kernel
theorem dX12_pour_190 : decode cX12_pour 190 = .ok (.iload_n 3, 1) := by decide +kernel
theorem dX12_pour_191 : decode cX12_pour 191 = .ok (.imul, 1) := by decide +kernel
theorem dX12_pour_192 : decode cX12_pour 192 = .ok (.iload 4, 2) := by decide +kernel
theorem dX12_pour_194 : decode cX12_pour 194 = .ok (.iadd, 1) := by decide +kernel
theorem dX12_pour_195 : decode cX12_pour 195 = .ok (.iload 8, 2) := by decide +kernel
theorem dX12_pour_197 : decode cX12_pour 197 = .ok (.iadd, 1) := by decide +kernel
theorem dX12_pour_198 : decode cX12_pour 198 = .ok (.aload_n 0, 1) := by decide +kernel
theorem dX12_pour_199 : decode cX12_pour 199 = .ok (.getfield 20, 3) := by decide +kernel
theorem dX12_pour_202 : decode cX12_pour 202 = .ok (.bipush 60, 2) := by decide +kernel
theorem dX12_pour_204 : decode cX12_pour 204 = .ok (.iload_n 1, 1) := by decide +kernel
theorem dX12_pour_205 : decode cX12_pour 205 = .ok (.imul, 1) := by decide +kernel
theorem dX12_pour_206 : decode cX12_pour 206 = .ok (.iload_n 2, 1) := by decide +kernel
theorem dX12_pour_207 : decode cX12_pour 207 = .ok (.iadd, 1) := by decide +kernel
theorem dX12_pour_208 : decode cX12_pour 208 = .ok (.iload 8, 2) := by decide +kernel
theorem dX12_pour_210 : decode cX12_pour 210 = .ok (.iadd, 1) := by decide +kernel
theorem dX12_pour_211 : decode cX12_pour 211 = .ok (.laload, 1) := by decide +kernel
theorem dX12_pour_212 : decode cX12_pour 212 = .ok (.lastore, 1) := by decide +kernel
theorem dX12_pour_213 : decode cX12_pour 213 = .ok (.iinc 7 1, 3) := by decide +kernel
theorem dX12_pour_216 : decode cX12_pour 216 = .ok (.goto (-58), 3) := by decide +kernel
theorem dX12_pour_219 : decode cX12_pour 219 = .ok (.iconst 1, 1) := by decide +kernel
theorem dX12_pour_220 : decode cX12_pour 220 = .ok (.ireturn, 1) := by decide +kernel
theorem dX12_numberOf_0 : decode cX12_numberOf 0 = .ok (.aload_n 0, 1) := by decide +kernel
theorem dX12_numberOf_1 : decode cX12_numberOf 1 = .ok (.getfield 20, 3) := by decide +kernel
theorem dX12_numberOf_4 : decode cX12_numberOf 4 = .ok (.bipush 60, 2) := by decide +kernel
theorem dX12_numberOf_6 : decode cX12_numberOf 6 = .ok (.iload_n 1, 1) := by decide +kernel
theorem dX12_numberOf_7 : decode cX12_numberOf 7 = .ok (.imul, 1) := by decide +kernel
theorem dX12_numberOf_8 : decode cX12_numberOf 8 = .ok (.iload_n 2, 1) := by decide +kernel
theorem dX12_numberOf_9 : decode cX12_numberOf 9 = .ok (.iadd, 1) := by decide +kernel
theorem dX12_numberOf_10 : decode cX12_numberOf 10 = .ok (.laload, 1) := by decide +kernel
theorem dX12_numberOf_11 : decode cX12_numberOf 11 = .ok (.lreturn, 1) := by decide +kernel
theorem dX12_isTray_0 : decode cX12_isTray 0 = .ok (.iload_n 1, 1) := by decide +kernel
theorem dX12_isTray_1 : decode cX12_isTray 1 = .ok (.i2l, 1) := by decide +kernel
theorem dX12_isTray_2 : decode cX12_isTray 2 = .ok (.lconst 0, 1) := by decide +kernel
theorem dX12_isTray_3 : decode cX12_isTray 3 = .ok (.ldc2_w 127, 3) := by decide +kernel
theorem dX12_isTray_6 : decode cX12_isTray 6 = .ok (.invokestatic 129, 3) := by decide +kernel
theorem dX12_isTray_9 : decode cX12_isTray 9 = .ok (.ireturn, 1) := by decide +kernel
theorem dX12_look2_0 : decode cX12_look2 0 = .ok (.iload_n 1, 1) := by decide +kernel
theorem dX12_look2_1 : decode cX12_look2 1 = .ok (.aload_n 0, 1) := by decide +kernel
theorem dX12_look2_2 : decode cX12_look2 2 = .ok (.getfield 133, 3) := by decide +kernel
theorem dX12_look2_5 : decode cX12_look2 5 = .ok (.if_icmp .ge 16, 3) := by decide +kernel
theorem dX12_look2_8 : decode cX12_look2 8 = .ok (.aload_n 0, 1) := by decide +kernel
theorem dX12_look2_9 : decode cX12_look2 9 = .ok (.getfield 24, 3) := by decide +kernel
theorem dX12_look2_12 : decode cX12_look2 12 = .ok (.iload_n 1, 1) := by decide +kernel
theorem dX12_look2_13 : decode cX12_look2 13 = .ok (.baload, 1) := by decide +kernel
theorem dX12_look2_14 : decode cX12_look2 14 = .ok (.sipush 255, 3) := by decide +kernel
theorem dX12_look2_17 : decode cX12_look2 17 = .ok (.iand, 1) := by decide +kernel
theorem dX12_look2_18 : decode cX12_look2 18 = .ok (.goto 4, 3) := by decide +kernel
theorem dX12_look2_21 : decode cX12_look2 21 = .ok (.iconst 0, 1) := by decide +kernel
theorem dX12_look2_22 : decode cX12_look2 22 = .ok (.ireturn, 1) := by decide +kernel
theorem dX12_isLetter_0 : decode cX12_isLetter 0 = .ok (.iload_n 0, 1) := by decide +kernel
theorem dX12_isLetter_1 : decode cX12_isLetter 1 = .ok (.bipush 97, 2) := by decide +kernel
theorem dX12_isLetter_3 : decode cX12_isLetter 3 = .ok (.if_icmp .lt 13, 3) := by decide +kernel
theorem dX12_isLetter_6 : decode cX12_isLetter 6 = .ok (.iload_n 0, 1) := by decide +kernel
theorem dX12_isLetter_7 : decode cX12_isLetter 7 = .ok (.bipush 122, 2) := by decide +kernel
theorem dX12_isLetter_9 : decode cX12_isLetter 9 = .ok (.if_icmp .gt 7, 3) := by decide +kernel
theorem dX12_isLetter_12 : decode cX12_isLetter 12 = .ok (.iconst 1, 1) := by decide +kernel
theorem dX12_isLetter_13 : decode cX12_isLetter 13 = .ok (.goto 4, 3) := by decide +kernel
theorem dX12_isLetter_16 : decode cX12_isLetter 16 = .ok (.iconst 0, 1) := by decide +kernel
theorem dX12_isLetter_17 : decode cX12_isLetter 17 = .ok (.ireturn, 1) := by decide +kernel
theorem dX12_isDigit_0 : decode cX12_isDigit 0 = .ok (.iload_n 0, 1) := by decide +kernel
theorem dX12_isDigit_1 : decode cX12_isDigit 1 = .ok (.bipush 48, 2) := by decide +kernel
theorem dX12_isDigit_3 : decode cX12_isDigit 3 = .ok (.if_icmp .lt 13, 3) := by decide +kernel
theorem dX12_isDigit_6 : decode cX12_isDigit 6 = .ok (.iload_n 0, 1) := by decide +kernel
theorem dX12_isDigit_7 : decode cX12_isDigit 7 = .ok (.bipush 57, 2) := by decide +kernel
theorem dX12_isDigit_9 : decode cX12_isDigit 9 = .ok (.if_icmp .gt 7, 3) := by decide +kernel
theorem dX12_isDigit_12 : decode cX12_isDigit 12 = .ok (.iconst 1, 1) := by decide +kernel
theorem dX12_isDigit_13 : decode cX12_isDigit 13 = .ok (.goto 4, 3) := by decide +kernel
theorem dX12_isDigit_16 : decode cX12_isDigit 16 = .ok (.iconst 0, 1) := by decide +kernel
theorem dX12_isDigit_17 : decode cX12_isDigit 17 = .ok (.ireturn, 1) := by decide +kernel
theorem dX12_isSignByte_0 : decode cX12_isSignByte 0 = .ok (.iload_n 1, 1) := by decide +kernel
theorem dX12_isSignByte_1 : decode cX12_isSignByte 1 = .ok (.bipush 59, 2) := by decide +kernel
theorem dX12_isSignByte_3 : decode cX12_isSignByte 3 = .ok (.if_icmp .eq 21, 3) := by decide +kernel
theorem dX12_isSignByte_6 : decode cX12_isSignByte 6 = .ok (.iload_n 1, 1) := by decide +kernel
theorem dX12_isSignByte_7 : decode cX12_isSignByte 7 = .ok (.bipush 60, 2) := by decide +kernel
theorem dX12_isSignByte_9 : decode cX12_isSignByte 9 = .ok (.if_icmp .eq 15, 3) := by decide +kernel
theorem dX12_isSignByte_12 : decode cX12_isSignByte 12 = .ok (.iload_n 1, 1) := by decide +kernel
theorem dX12_isSignByte_13 : decode cX12_isSignByte 13 = .ok (.bipush 62, 2) := by decide +kernel
theorem dX12_isSignByte_15 : decode cX12_isSignByte 15 = .ok (.if_icmp .eq 9, 3) := by decide +kernel
theorem dX12_isSignByte_18 : decode cX12_isSignByte 18 = .ok (.iload_n 1, 1) := by decide +kernel
theorem dX12_isSignByte_19 : decode cX12_isSignByte 19 = .ok (.bipush 61, 2) := by decide +kernel
theorem dX12_isSignByte_21 : decode cX12_isSignByte 21 = .ok (.if_icmp .ne 7, 3) := by decide +kernel
theorem dX12_isSignByte_24 : decode cX12_isSignByte 24 = .ok (.iconst 1, 1) := by decide +kernel
theorem dX12_isSignByte_25 : decode cX12_isSignByte 25 = .ok (.goto 4, 3) := by decide +kernel
theorem dX12_isSignByte_28 : decode cX12_isSignByte 28 = .ok (.iconst 0, 1) := by decide +kernel
theorem dX12_isSignByte_29 : decode cX12_isSignByte 29 = .ok (.ireturn, 1) := by decide +kernel
theorem dX12_next_0 : decode cX12_next 0 = .ok (.aload_n 0, 1) := by decide +kernel
theorem dX12_next_1 : decode cX12_next 1 = .ok (.aload_n 0, 1) := by decide +kernel
theorem dX12_next_2 : decode cX12_next 2 = .ok (.getfield 136, 3) := by decide +kernel
theorem dX12_next_5 : decode cX12_next 5 = .ok (.putfield 139, 3) := by decide +kernel
theorem dX12_next_8 : decode cX12_next 8 = .ok (.aload_n 0, 1) := by decide +kernel
theorem dX12_next_9 : decode cX12_next 9 = .ok (.getfield 139, 3) := by decide +kernel
theorem dX12_next_12 : decode cX12_next 12 = .ok (.aload_n 0, 1) := by decide +kernel
theorem dX12_next_13 : decode cX12_next 13 = .ok (.getfield 133, 3) := by decide +kernel
theorem dX12_next_16 : decode cX12_next 16 = .ok (.if_icmp .ge 42, 3) := by decide +kernel
theorem dX12_next_19 : decode cX12_next 19 = .ok (.aload_n 0, 1) := by decide +kernel
theorem dX12_next_20 : decode cX12_next 20 = .ok (.aload_n 0, 1) := by decide +kernel
theorem dX12_next_21 : decode cX12_next 21 = .ok (.getfield 139, 3) := by decide +kernel
theorem dX12_next_24 : decode cX12_next 24 = .ok (.invokevirtual 142, 3) := by decide +kernel
theorem dX12_next_27 : decode cX12_next 27 = .ok (.bipush 10, 2) := by decide +kernel
theorem dX12_next_29 : decode cX12_next 29 = .ok (.if_icmp .eq 16, 3) := by decide +kernel
theorem dX12_next_32 : decode cX12_next 32 = .ok (.aload_n 0, 1) := by decide +kernel
theorem dX12_next_33 : decode cX12_next 33 = .ok (.aload_n 0, 1) := by decide +kernel
theorem dX12_next_34 : decode cX12_next 34 = .ok (.getfield 139, 3) := by decide +kernel
theorem dX12_next_37 : decode cX12_next 37 = .ok (.invokevirtual 142, 3) := by decide +kernel
theorem dX12_next_40 : decode cX12_next 40 = .ok (.bipush 32, 2) := by decide +kernel
theorem dX12_next_42 : decode cX12_next 42 = .ok (.if_icmp .ne 16, 3) := by decide +kernel
theorem dX12_next_45 : decode cX12_next 45 = .ok (.aload_n 0, 1) := by decide +kernel
theorem dX12_next_46 : decode cX12_next 46 = .ok (.dup, 1) := by decide +kernel
theorem dX12_next_47 : decode cX12_next 47 = .ok (.getfield 139, 3) := by decide +kernel
theorem dX12_next_50 : decode cX12_next 50 = .ok (.iconst 1, 1) := by decide +kernel
theorem dX12_next_51 : decode cX12_next 51 = .ok (.iadd, 1) := by decide +kernel
theorem dX12_next_52 : decode cX12_next 52 = .ok (.putfield 139, 3) := by decide +kernel
theorem dX12_next_55 : decode cX12_next 55 = .ok (.goto (-47), 3) := by decide +kernel
theorem dX12_next_58 : decode cX12_next 58 = .ok (.aload_n 0, 1) := by decide +kernel
theorem dX12_next_59 : decode cX12_next 59 = .ok (.aload_n 0, 1) := by decide +kernel
theorem dX12_next_60 : decode cX12_next 60 = .ok (.getfield 139, 3) := by decide +kernel
theorem dX12_next_63 : decode cX12_next 63 = .ok (.putfield 136, 3) := by decide +kernel
theorem dX12_next_66 : decode cX12_next 66 = .ok (.aload_n 0, 1) := by decide +kernel
theorem dX12_next_67 : decode cX12_next 67 = .ok (.getfield 139, 3) := by decide +kernel
theorem dX12_next_70 : decode cX12_next 70 = .ok (.aload_n 0, 1) := by decide +kernel
theorem dX12_next_71 : decode cX12_next 71 = .ok (.getfield 133, 3) := by decide +kernel
theorem dX12_next_74 : decode cX12_next 74 = .ok (.if_icmp .lt 9, 3) := by decide +kernel
theorem dX12_next_77 : decode cX12_next 77 = .ok (.aload_n 0, 1) := by decide +kernel
theorem dX12_next_78 : decode cX12_next 78 = .ok (.iconst 0, 1) := by decide +kernel
theorem dX12_next_79 : decode cX12_next 79 = .ok (.putfield 145, 3) := by decide +kernel
theorem dX12_next_82 : decode cX12_next 82 = .ok (.return_, 1) := by decide +kernel
theorem dX12_next_83 : decode cX12_next 83 = .ok (.aload_n 0, 1) := by decide +kernel
theorem dX12_next_84 : decode cX12_next 84 = .ok (.aload_n 0, 1) := by decide +kernel
theorem dX12_next_85 : decode cX12_next 85 = .ok (.getfield 139, 3) := by decide +kernel
theorem dX12_next_88 : decode cX12_next 88 = .ok (.invokevirtual 142, 3) := by decide +kernel
theorem dX12_next_91 : decode cX12_next 91 = .ok (.istore_n 1, 1) := by decide +kernel
theorem dX12_next_92 : decode cX12_next 92 = .ok (.iload_n 1, 1) := by decide +kernel
theorem dX12_next_93 : decode cX12_next 93 = .ok (.invokestatic 148, 3) := by decide +kernel
theorem dX12_next_96 : decode cX12_next 96 = .ok (.ifCond .eq 102, 3) := by decide +kernel
theorem dX12_next_99 : decode cX12_next 99 = .ok (.aload_n 0, 1) := by decide +kernel
theorem dX12_next_100 : decode cX12_next 100 = .ok (.iconst 1, 1) := by decide +kernel
theorem dX12_next_101 : decode cX12_next 101 = .ok (.putfield 145, 3) := by decide +kernel
theorem dX12_next_104 : decode cX12_next 104 = .ok (.aload_n 0, 1) := by decide +kernel
theorem dX12_next_105 : decode cX12_next 105 = .ok (.lconst 0, 1) := by decide +kernel
theorem dX12_next_106 : decode cX12_next 106 = .ok (.putfield 151, 3) := by decide +kernel
theorem dX12_next_109 : decode cX12_next 109 = .ok (.aload_n 0, 1) := by decide +kernel
theorem dX12_next_110 : decode cX12_next 110 = .ok (.aload_n 0, 1) := by decide +kernel
theorem dX12_next_111 : decode cX12_next 111 = .ok (.getfield 136, 3) := by decide +kernel
theorem dX12_next_114 : decode cX12_next 114 = .ok (.invokevirtual 142, 3) := by decide +kernel
theorem dX12_next_117 : decode cX12_next 117 = .ok (.invokestatic 148, 3) := by decide +kernel
theorem dX12_next_120 : decode cX12_next 120 = .ok (.ifCond .eq 62, 3) := by decide +kernel
theorem dX12_next_123 : decode cX12_next 123 = .ok (.aload_n 0, 1) := by decide +kernel
theorem dX12_next_124 : decode cX12_next 124 = .ok (.aload_n 0, 1) := by decide +kernel
theorem dX12_next_125 : decode cX12_next 125 = .ok (.getfield 136, 3) := by decide +kernel
theorem dX12_next_128 : decode cX12_next 128 = .ok (.aload_n 0, 1) := by decide +kernel
theorem dX12_next_129 : decode cX12_next 129 = .ok (.getfield 139, 3) := by decide +kernel
theorem dX12_next_132 : decode cX12_next 132 = .ok (.isub, 1) := by decide +kernel
theorem dX12_next_133 : decode cX12_next 133 = .ok (.bipush 8, 2) := by decide +kernel
theorem dX12_next_135 : decode cX12_next 135 = .ok (.if_icmp .ge 28, 3) := by decide +kernel
theorem dX12_next_138 : decode cX12_next 138 = .ok (.aload_n 0, 1) := by decide +kernel
theorem dX12_next_139 : decode cX12_next 139 = .ok (.getfield 151, 3) := by decide +kernel
theorem dX12_next_142 : decode cX12_next 142 = .ok (.ldc2_w 154, 3) := by decide +kernel
theorem dX12_next_145 : decode cX12_next 145 = .ok (.lmul, 1) := by decide +kernel
theorem dX12_next_146 : decode cX12_next 146 = .ok (.aload_n 0, 1) := by decide +kernel
theorem dX12_next_147 : decode cX12_next 147 = .ok (.aload_n 0, 1) := by decide +kernel
theorem dX12_next_148 : decode cX12_next 148 = .ok (.getfield 136, 3) := by decide +kernel
theorem dX12_next_151 : decode cX12_next 151 = .ok (.invokevirtual 142, 3) := by decide +kernel
theorem dX12_next_154 : decode cX12_next 154 = .ok (.i2l, 1) := by decide +kernel
theorem dX12_next_155 : decode cX12_next 155 = .ok (.ladd, 1) := by decide +kernel
theorem dX12_next_156 : decode cX12_next 156 = .ok (.ldc2_w 156, 3) := by decide +kernel
theorem dX12_next_159 : decode cX12_next 159 = .ok (.lsub, 1) := by decide +kernel
theorem dX12_next_160 : decode cX12_next 160 = .ok (.goto 6, 3) := by decide +kernel
theorem dX12_next_163 : decode cX12_next 163 = .ok (.ldc2_w 125, 3) := by decide +kernel
theorem dX12_next_166 : decode cX12_next 166 = .ok (.putfield 151, 3) := by decide +kernel
theorem dX12_next_169 : decode cX12_next 169 = .ok (.aload_n 0, 1) := by decide +kernel
theorem dX12_next_170 : decode cX12_next 170 = .ok (.dup, 1) := by decide +kernel
theorem dX12_next_171 : decode cX12_next 171 = .ok (.getfield 136, 3) := by decide +kernel
theorem dX12_next_174 : decode cX12_next 174 = .ok (.iconst 1, 1) := by decide +kernel
theorem dX12_next_175 : decode cX12_next 175 = .ok (.iadd, 1) := by decide +kernel
theorem dX12_next_176 : decode cX12_next 176 = .ok (.putfield 136, 3) := by decide +kernel
theorem dX12_next_179 : decode cX12_next 179 = .ok (.goto (-70), 3) := by decide +kernel
theorem dX12_next_182 : decode cX12_next 182 = .ok (.aload_n 0, 1) := by decide +kernel
theorem dX12_next_183 : decode cX12_next 183 = .ok (.aload_n 0, 1) := by decide +kernel
theorem dX12_next_184 : decode cX12_next 184 = .ok (.getfield 136, 3) := by decide +kernel
theorem dX12_next_187 : decode cX12_next 187 = .ok (.aload_n 0, 1) := by decide +kernel
theorem dX12_next_188 : decode cX12_next 188 = .ok (.getfield 139, 3) := by decide +kernel
theorem dX12_next_191 : decode cX12_next 191 = .ok (.isub, 1) := by decide +kernel
theorem dX12_next_192 : decode cX12_next 192 = .ok (.putfield 158, 3) := by decide +kernel
theorem dX12_next_195 : decode cX12_next 195 = .ok (.goto 135, 3) := by decide +kernel
theorem dX12_next_198 : decode cX12_next 198 = .ok (.iload_n 1, 1) := by decide +kernel
theorem dX12_next_199 : decode cX12_next 199 = .ok (.invokestatic 161, 3) := by decide +kernel
theorem dX12_next_202 : decode cX12_next 202 = .ok (.ifCond .eq 96, 3) := by decide +kernel
theorem dX12_next_205 : decode cX12_next 205 = .ok (.aload_n 0, 1) := by decide +kernel
theorem dX12_next_206 : decode cX12_next 206 = .ok (.iconst 0, 1) := by decide +kernel
theorem dX12_next_207 : decode cX12_next 207 = .ok (.putfield 164, 3) := by decide +kernel
theorem dX12_next_210 : decode cX12_next 210 = .ok (.aload_n 0, 1) := by decide +kernel
theorem dX12_next_211 : decode cX12_next 211 = .ok (.aload_n 0, 1) := by decide +kernel
theorem dX12_next_212 : decode cX12_next 212 = .ok (.getfield 136, 3) := by decide +kernel
theorem dX12_next_215 : decode cX12_next 215 = .ok (.invokevirtual 142, 3) := by decide +kernel
theorem dX12_next_218 : decode cX12_next 218 = .ok (.invokestatic 161, 3) := by decide +kernel
theorem dX12_next_221 : decode cX12_next 221 = .ok (.ifCond .eq 52, 3) := by decide +kernel
theorem dX12_next_224 : decode cX12_next 224 = .ok (.aload_n 0, 1) := by decide +kernel
theorem dX12_next_225 : decode cX12_next 225 = .ok (.getfield 136, 3) := by decide +kernel
theorem dX12_next_228 : decode cX12_next 228 = .ok (.aload_n 0, 1) := by decide +kernel
theorem dX12_next_229 : decode cX12_next 229 = .ok (.getfield 139, 3) := by decide +kernel
theorem dX12_next_232 : decode cX12_next 232 = .ok (.isub, 1) := by decide +kernel
theorem dX12_next_233 : decode cX12_next 233 = .ok (.iconst 4, 1) := by decide +kernel
theorem dX12_next_234 : decode cX12_next 234 = .ok (.if_icmp .ge 26, 3) := by decide +kernel
theorem dX12_next_237 : decode cX12_next 237 = .ok (.aload_n 0, 1) := by decide +kernel
theorem dX12_next_238 : decode cX12_next 238 = .ok (.bipush 10, 2) := by decide +kernel
theorem dX12_next_240 : decode cX12_next 240 = .ok (.aload_n 0, 1) := by decide +kernel
theorem dX12_next_241 : decode cX12_next 241 = .ok (.getfield 164, 3) := by decide +kernel
theorem dX12_next_244 : decode cX12_next 244 = .ok (.imul, 1) := by decide +kernel
theorem dX12_next_245 : decode cX12_next 245 = .ok (.aload_n 0, 1) := by decide +kernel
theorem dX12_next_246 : decode cX12_next 246 = .ok (.aload_n 0, 1) := by decide +kernel
theorem dX12_next_247 : decode cX12_next 247 = .ok (.getfield 136, 3) := by decide +kernel
theorem dX12_next_250 : decode cX12_next 250 = .ok (.invokevirtual 142, 3) := by decide +kernel
theorem dX12_next_253 : decode cX12_next 253 = .ok (.iadd, 1) := by decide +kernel
theorem dX12_next_254 : decode cX12_next 254 = .ok (.bipush 48, 2) := by decide +kernel
theorem dX12_next_256 : decode cX12_next 256 = .ok (.isub, 1) := by decide +kernel
theorem dX12_next_257 : decode cX12_next 257 = .ok (.putfield 164, 3) := by decide +kernel
theorem dX12_next_260 : decode cX12_next 260 = .ok (.aload_n 0, 1) := by decide +kernel
theorem dX12_next_261 : decode cX12_next 261 = .ok (.dup, 1) := by decide +kernel
theorem dX12_next_262 : decode cX12_next 262 = .ok (.getfield 136, 3) := by decide +kernel
theorem dX12_next_265 : decode cX12_next 265 = .ok (.iconst 1, 1) := by decide +kernel
theorem dX12_next_266 : decode cX12_next 266 = .ok (.iadd, 1) := by decide +kernel
theorem dX12_next_267 : decode cX12_next 267 = .ok (.putfield 136, 3) := by decide +kernel
theorem dX12_next_270 : decode cX12_next 270 = .ok (.goto (-60), 3) := by decide +kernel
theorem dX12_next_273 : decode cX12_next 273 = .ok (.aload_n 0, 1) := by decide +kernel
theorem dX12_next_274 : decode cX12_next 274 = .ok (.aload_n 0, 1) := by decide +kernel
theorem dX12_next_275 : decode cX12_next 275 = .ok (.getfield 136, 3) := by decide +kernel
theorem dX12_next_278 : decode cX12_next 278 = .ok (.aload_n 0, 1) := by decide +kernel
theorem dX12_next_279 : decode cX12_next 279 = .ok (.getfield 139, 3) := by decide +kernel
theorem dX12_next_282 : decode cX12_next 282 = .ok (.isub, 1) := by decide +kernel
theorem dX12_next_283 : decode cX12_next 283 = .ok (.iconst 4, 1) := by decide +kernel
theorem dX12_next_284 : decode cX12_next 284 = .ok (.if_icmp .le 7, 3) := by decide +kernel
theorem dX12_next_287 : decode cX12_next 287 = .ok (.iconst 4, 1) := by decide +kernel
theorem dX12_next_288 : decode cX12_next 288 = .ok (.goto 4, 3) := by decide +kernel
theorem dX12_next_291 : decode cX12_next 291 = .ok (.iconst 2, 1) := by decide +kernel
theorem dX12_next_292 : decode cX12_next 292 = .ok (.putfield 145, 3) := by decide +kernel
theorem dX12_next_295 : decode cX12_next 295 = .ok (.goto 35, 3) := by decide +kernel
theorem dX12_next_298 : decode cX12_next 298 = .ok (.aload_n 0, 1) := by decide +kernel
theorem dX12_next_299 : decode cX12_next 299 = .ok (.aload_n 0, 1) := by decide +kernel
theorem dX12_next_300 : decode cX12_next 300 = .ok (.getfield 139, 3) := by decide +kernel
theorem dX12_next_303 : decode cX12_next 303 = .ok (.iconst 1, 1) := by decide +kernel
theorem dX12_next_304 : decode cX12_next 304 = .ok (.iadd, 1) := by decide +kernel
theorem dX12_next_305 : decode cX12_next 305 = .ok (.putfield 136, 3) := by decide +kernel
theorem dX12_next_308 : decode cX12_next 308 = .ok (.aload_n 0, 1) := by decide +kernel
theorem dX12_next_309 : decode cX12_next 309 = .ok (.iload_n 1, 1) := by decide +kernel
theorem dX12_next_310 : decode cX12_next 310 = .ok (.putfield 164, 3) := by decide +kernel
theorem dX12_next_313 : decode cX12_next 313 = .ok (.aload_n 0, 1) := by decide +kernel
theorem dX12_next_314 : decode cX12_next 314 = .ok (.aload_n 0, 1) := by decide +kernel
theorem dX12_next_315 : decode cX12_next 315 = .ok (.iload_n 1, 1) := by decide +kernel
theorem dX12_next_316 : decode cX12_next 316 = .ok (.invokevirtual 167, 3) := by decide +kernel
theorem dX12_next_319 : decode cX12_next 319 = .ok (.ifCond .eq 7, 3) := by decide +kernel
theorem dX12_next_322 : decode cX12_next 322 = .ok (.iconst 3, 1) := by decide +kernel
theorem dX12_next_323 : decode cX12_next 323 = .ok (.goto 4, 3) := by decide +kernel
theorem dX12_next_326 : decode cX12_next 326 = .ok (.iconst 4, 1) := by decide +kernel
theorem dX12_next_327 : decode cX12_next 327 = .ok (.putfield 145, 3) := by decide +kernel
theorem dX12_next_330 : decode cX12_next 330 = .ok (.return_, 1) := by decide +kernel
theorem dX12_isSign_0 : decode cX12_isSign 0 = .ok (.aload_n 0, 1) := by decide +kernel
theorem dX12_isSign_1 : decode cX12_isSign 1 = .ok (.getfield 145, 3) := by decide +kernel
theorem dX12_isSign_4 : decode cX12_isSign 4 = .ok (.iconst 3, 1) := by decide +kernel
theorem dX12_isSign_5 : decode cX12_isSign 5 = .ok (.if_icmp .ne 15, 3) := by decide +kernel
theorem dX12_isSign_8 : decode cX12_isSign 8 = .ok (.aload_n 0, 1) := by decide +kernel
theorem dX12_isSign_9 : decode cX12_isSign 9 = .ok (.getfield 164, 3) := by decide +kernel
theorem dX12_isSign_12 : decode cX12_isSign 12 = .ok (.iload_n 1, 1) := by decide +kernel
theorem dX12_isSign_13 : decode cX12_isSign 13 = .ok (.if_icmp .ne 7, 3) := by decide +kernel
theorem dX12_isSign_16 : decode cX12_isSign 16 = .ok (.iconst 1, 1) := by decide +kernel
theorem dX12_isSign_17 : decode cX12_isSign 17 = .ok (.goto 4, 3) := by decide +kernel
theorem dX12_isSign_20 : decode cX12_isSign 20 = .ok (.iconst 0, 1) := by decide +kernel
theorem dX12_isSign_21 : decode cX12_isSign 21 = .ok (.ireturn, 1) := by decide +kernel
theorem dX12_spelled_0 : decode cX12_spelled 0 = .ok (.iload_n 0, 1) := by decide +kernel
theorem dX12_spelled_1 : decode cX12_spelled 1 = .ok (.i2l, 1) := by decide +kernel
theorem dX12_spelled_2 : decode cX12_spelled 2 = .ok (.ldc2_w 156, 3) := by decide +kernel
theorem dX12_spelled_5 : decode cX12_spelled 5 = .ok (.lsub, 1) := by decide +kernel
theorem dX12_spelled_6 : decode cX12_spelled 6 = .ok (.ldc2_w 154, 3) := by decide +kernel
theorem dX12_spelled_9 : decode cX12_spelled 9 = .ok (.lmul, 1) := by decide +kernel
theorem dX12_spelled_10 : decode cX12_spelled 10 = .ok (.iload_n 1, 1) := by decide +kernel
theorem dX12_spelled_11 : decode cX12_spelled 11 = .ok (.i2l, 1) := by decide +kernel
theorem dX12_spelled_12 : decode cX12_spelled 12 = .ok (.ladd, 1) := by decide +kernel
theorem dX12_spelled_13 : decode cX12_spelled 13 = .ok (.ldc2_w 156, 3) := by decide +kernel
theorem dX12_spelled_16 : decode cX12_spelled 16 = .ok (.lsub, 1) := by decide +kernel
theorem dX12_spelled_17 : decode cX12_spelled 17 = .ok (.lstore 6, 2) := by decide +kernel
theorem dX12_spelled_19 : decode cX12_spelled 19 = .ok (.iload_n 2, 1) := by decide +kernel
theorem dX12_spelled_20 : decode cX12_spelled 20 = .ok (.ifCond .le 19, 3) := by decide +kernel
theorem dX12_spelled_23 : decode cX12_spelled 23 = .ok (.lload 6, 2) := by decide +kernel
theorem dX12_spelled_25 : decode cX12_spelled 25 = .ok (.ldc2_w 154, 3) := by decide +kernel
theorem dX12_spelled_28 : decode cX12_spelled 28 = .ok (.lmul, 1) := by decide +kernel
theorem dX12_spelled_29 : decode cX12_spelled 29 = .ok (.iload_n 2, 1) := by decide +kernel
theorem dX12_spelled_30 : decode cX12_spelled 30 = .ok (.i2l, 1) := by decide +kernel
theorem dX12_spelled_31 : decode cX12_spelled 31 = .ok (.ladd, 1) := by decide +kernel
theorem dX12_spelled_32 : decode cX12_spelled 32 = .ok (.ldc2_w 156, 3) := by decide +kernel
theorem dX12_spelled_35 : decode cX12_spelled 35 = .ok (.lsub, 1) := by decide +kernel
theorem dX12_spelled_36 : decode cX12_spelled 36 = .ok (.goto 5, 3) := by decide +kernel
theorem dX12_spelled_39 : decode cX12_spelled 39 = .ok (.lload 6, 2) := by decide +kernel
theorem dX12_spelled_41 : decode cX12_spelled 41 = .ok (.lstore 6, 2) := by decide +kernel
theorem dX12_spelled_43 : decode cX12_spelled 43 = .ok (.iload_n 3, 1) := by decide +kernel
theorem dX12_spelled_44 : decode cX12_spelled 44 = .ok (.ifCond .le 19, 3) := by decide +kernel
theorem dX12_spelled_47 : decode cX12_spelled 47 = .ok (.lload 6, 2) := by decide +kernel
theorem dX12_spelled_49 : decode cX12_spelled 49 = .ok (.ldc2_w 154, 3) := by decide +kernel
theorem dX12_spelled_52 : decode cX12_spelled 52 = .ok (.lmul, 1) := by decide +kernel
theorem dX12_spelled_53 : decode cX12_spelled 53 = .ok (.iload_n 3, 1) := by decide +kernel
theorem dX12_spelled_54 : decode cX12_spelled 54 = .ok (.i2l, 1) := by decide +kernel
theorem dX12_spelled_55 : decode cX12_spelled 55 = .ok (.ladd, 1) := by decide +kernel
theorem dX12_spelled_56 : decode cX12_spelled 56 = .ok (.ldc2_w 156, 3) := by decide +kernel
theorem dX12_spelled_59 : decode cX12_spelled 59 = .ok (.lsub, 1) := by decide +kernel
theorem dX12_spelled_60 : decode cX12_spelled 60 = .ok (.goto 5, 3) := by decide +kernel
theorem dX12_spelled_63 : decode cX12_spelled 63 = .ok (.lload 6, 2) := by decide +kernel
theorem dX12_spelled_65 : decode cX12_spelled 65 = .ok (.lstore 6, 2) := by decide +kernel
theorem dX12_spelled_67 : decode cX12_spelled 67 = .ok (.iload 4, 2) := by decide +kernel
theorem dX12_spelled_69 : decode cX12_spelled 69 = .ok (.ifCond .le 20, 3) := by decide +kernel
theorem dX12_spelled_72 : decode cX12_spelled 72 = .ok (.lload 6, 2) := by decide +kernel
theorem dX12_spelled_74 : decode cX12_spelled 74 = .ok (.ldc2_w 154, 3) := by decide +kernel
theorem dX12_spelled_77 : decode cX12_spelled 77 = .ok (.lmul, 1) := by decide +kernel
theorem dX12_spelled_78 : decode cX12_spelled 78 = .ok (.iload 4, 2) := by decide +kernel
theorem dX12_spelled_80 : decode cX12_spelled 80 = .ok (.i2l, 1) := by decide +kernel
theorem dX12_spelled_81 : decode cX12_spelled 81 = .ok (.ladd, 1) := by decide +kernel
theorem dX12_spelled_82 : decode cX12_spelled 82 = .ok (.ldc2_w 156, 3) := by decide +kernel
theorem dX12_spelled_85 : decode cX12_spelled 85 = .ok (.lsub, 1) := by decide +kernel
theorem dX12_spelled_86 : decode cX12_spelled 86 = .ok (.goto 5, 3) := by decide +kernel
theorem dX12_spelled_89 : decode cX12_spelled 89 = .ok (.lload 6, 2) := by decide +kernel
theorem dX12_spelled_91 : decode cX12_spelled 91 = .ok (.lstore 6, 2) := by decide +kernel
theorem dX12_spelled_93 : decode cX12_spelled 93 = .ok (.iload 5, 2) := by decide +kernel
theorem dX12_spelled_95 : decode cX12_spelled 95 = .ok (.ifCond .le 20, 3) := by decide +kernel
theorem dX12_spelled_98 : decode cX12_spelled 98 = .ok (.lload 6, 2) := by decide +kernel
theorem dX12_spelled_100 : decode cX12_spelled 100 = .ok (.ldc2_w 154, 3) := by decide +kernel
theorem dX12_spelled_103 : decode cX12_spelled 103 = .ok (.lmul, 1) := by decide +kernel
theorem dX12_spelled_104 : decode cX12_spelled 104 = .ok (.iload 5, 2) := by decide +kernel
theorem dX12_spelled_106 : decode cX12_spelled 106 = .ok (.i2l, 1) := by decide +kernel
theorem dX12_spelled_107 : decode cX12_spelled 107 = .ok (.ladd, 1) := by decide +kernel
theorem dX12_spelled_108 : decode cX12_spelled 108 = .ok (.ldc2_w 156, 3) := by decide +kernel
theorem dX12_spelled_111 : decode cX12_spelled 111 = .ok (.lsub, 1) := by decide +kernel
theorem dX12_spelled_112 : decode cX12_spelled 112 = .ok (.goto 5, 3) := by decide +kernel
theorem dX12_spelled_115 : decode cX12_spelled 115 = .ok (.lload 6, 2) := by decide +kernel
theorem dX12_spelled_117 : decode cX12_spelled 117 = .ok (.lreturn, 1) := by decide +kernel
theorem dX12_isWord_0 : decode cX12_isWord 0 = .ok (.aload_n 0, 1) := by decide +kernel
theorem dX12_isWord_1 : decode cX12_isWord 1 = .ok (.getfield 145, 3) := by decide +kernel
theorem dX12_isWord_4 : decode cX12_isWord 4 = .ok (.iconst 1, 1) := by decide +kernel
theorem dX12_isWord_5 : decode cX12_isWord 5 = .ok (.if_icmp .ne 16, 3) := by decide +kernel
theorem dX12_isWord_8 : decode cX12_isWord 8 = .ok (.aload_n 0, 1) := by decide +kernel
theorem dX12_isWord_9 : decode cX12_isWord 9 = .ok (.getfield 151, 3) := by decide +kernel
theorem dX12_isWord_12 : decode cX12_isWord 12 = .ok (.lload_n 1, 1) := by decide +kernel
theorem dX12_isWord_13 : decode cX12_isWord 13 = .ok (.lcmp, 1) := by decide +kernel
theorem dX12_isWord_14 : decode cX12_isWord 14 = .ok (.ifCond .ne 7, 3) := by decide +kernel
theorem dX12_isWord_17 : decode cX12_isWord 17 = .ok (.iconst 1, 1) := by decide +kernel
theorem dX12_isWord_18 : decode cX12_isWord 18 = .ok (.goto 4, 3) := by decide +kernel
theorem dX12_isWord_21 : decode cX12_isWord 21 = .ok (.iconst 0, 1) := by decide +kernel
theorem dX12_isWord_22 : decode cX12_isWord 22 = .ok (.ireturn, 1) := by decide +kernel
theorem dX12_isRole_0 : decode cX12_isRole 0 = .ok (.aload_n 0, 1) := by decide +kernel
theorem dX12_isRole_1 : decode cX12_isRole 1 = .ok (.bipush 114, 2) := by decide +kernel
theorem dX12_isRole_3 : decode cX12_isRole 3 = .ok (.bipush 111, 2) := by decide +kernel
theorem dX12_isRole_5 : decode cX12_isRole 5 = .ok (.bipush 108, 2) := by decide +kernel
theorem dX12_isRole_7 : decode cX12_isRole 7 = .ok (.bipush 101, 2) := by decide +kernel
theorem dX12_isRole_9 : decode cX12_isRole 9 = .ok (.iconst 0, 1) := by decide +kernel
theorem dX12_isRole_10 : decode cX12_isRole 10 = .ok (.iconst 0, 1) := by decide +kernel
theorem dX12_isRole_11 : decode cX12_isRole 11 = .ok (.invokestatic 170, 3) := by decide +kernel
theorem dX12_isRole_14 : decode cX12_isRole 14 = .ok (.invokevirtual 174, 3) := by decide +kernel
theorem dX12_isRole_17 : decode cX12_isRole 17 = .ok (.ireturn, 1) := by decide +kernel
theorem dX12_isActor_0 : decode cX12_isActor 0 = .ok (.aload_n 0, 1) := by decide +kernel
theorem dX12_isActor_1 : decode cX12_isActor 1 = .ok (.bipush 97, 2) := by decide +kernel
theorem dX12_isActor_3 : decode cX12_isActor 3 = .ok (.bipush 99, 2) := by decide +kernel
theorem dX12_isActor_5 : decode cX12_isActor 5 = .ok (.bipush 116, 2) := by decide +kernel
theorem dX12_isActor_7 : decode cX12_isActor 7 = .ok (.bipush 111, 2) := by decide +kernel
theorem dX12_isActor_9 : decode cX12_isActor 9 = .ok (.bipush 114, 2) := by decide +kernel
theorem dX12_isActor_11 : decode cX12_isActor 11 = .ok (.iconst 0, 1) := by decide +kernel
theorem dX12_isActor_12 : decode cX12_isActor 12 = .ok (.invokestatic 170, 3) := by decide +kernel
theorem dX12_isActor_15 : decode cX12_isActor 15 = .ok (.invokevirtual 174, 3) := by decide +kernel
theorem dX12_isActor_18 : decode cX12_isActor 18 = .ok (.ireturn, 1) := by decide +kernel
theorem dX12_isPay_0 : decode cX12_isPay 0 = .ok (.aload_n 0, 1) := by decide +kernel
theorem dX12_isPay_1 : decode cX12_isPay 1 = .ok (.bipush 112, 2) := by decide +kernel
theorem dX12_isPay_3 : decode cX12_isPay 3 = .ok (.bipush 97, 2) := by decide +kernel
theorem dX12_isPay_5 : decode cX12_isPay 5 = .ok (.bipush 121, 2) := by decide +kernel
theorem dX12_isPay_7 : decode cX12_isPay 7 = .ok (.iconst 0, 1) := by decide +kernel
theorem dX12_isPay_8 : decode cX12_isPay 8 = .ok (.iconst 0, 1) := by decide +kernel
theorem dX12_isPay_9 : decode cX12_isPay 9 = .ok (.iconst 0, 1) := by decide +kernel
theorem dX12_isPay_10 : decode cX12_isPay 10 = .ok (.invokestatic 170, 3) := by decide +kernel
theorem dX12_isPay_13 : decode cX12_isPay 13 = .ok (.invokevirtual 174, 3) := by decide +kernel
theorem dX12_isPay_16 : decode cX12_isPay 16 = .ok (.ireturn, 1) := by decide +kernel
theorem dX12_isBreath_0 : decode cX12_isBreath 0 = .ok (.aload_n 0, 1) := by decide +kernel
theorem dX12_isBreath_1 : decode cX12_isBreath 1 = .ok (.bipush 98, 2) := by decide +kernel
theorem dX12_isBreath_3 : decode cX12_isBreath 3 = .ok (.bipush 114, 2) := by decide +kernel
theorem dX12_isBreath_5 : decode cX12_isBreath 5 = .ok (.bipush 101, 2) := by decide +kernel
theorem dX12_isBreath_7 : decode cX12_isBreath 7 = .ok (.bipush 97, 2) := by decide +kernel
theorem dX12_isBreath_9 : decode cX12_isBreath 9 = .ok (.bipush 116, 2) := by decide +kernel
theorem dX12_isBreath_11 : decode cX12_isBreath 11 = .ok (.bipush 104, 2) := by decide +kernel
theorem dX12_isBreath_13 : decode cX12_isBreath 13 = .ok (.invokestatic 170, 3) := by decide +kernel
theorem dX12_isBreath_16 : decode cX12_isBreath 16 = .ok (.invokevirtual 174, 3) := by decide +kernel
theorem dX12_isBreath_19 : decode cX12_isBreath 19 = .ok (.ireturn, 1) := by decide +kernel
theorem dX12_isNot_0 : decode cX12_isNot 0 = .ok (.aload_n 0, 1) := by decide +kernel
theorem dX12_isNot_1 : decode cX12_isNot 1 = .ok (.bipush 110, 2) := by decide +kernel
theorem dX12_isNot_3 : decode cX12_isNot 3 = .ok (.bipush 111, 2) := by decide +kernel
theorem dX12_isNot_5 : decode cX12_isNot 5 = .ok (.bipush 116, 2) := by decide +kernel
theorem dX12_isNot_7 : decode cX12_isNot 7 = .ok (.iconst 0, 1) := by decide +kernel
theorem dX12_isNot_8 : decode cX12_isNot 8 = .ok (.iconst 0, 1) := by decide +kernel
theorem dX12_isNot_9 : decode cX12_isNot 9 = .ok (.iconst 0, 1) := by decide +kernel
theorem dX12_isNot_10 : decode cX12_isNot 10 = .ok (.invokestatic 170, 3) := by decide +kernel
theorem dX12_isNot_13 : decode cX12_isNot 13 = .ok (.invokevirtual 174, 3) := by decide +kernel
theorem dX12_isNot_16 : decode cX12_isNot 16 = .ok (.ireturn, 1) := by decide +kernel
theorem dX12_isScene_0 : decode cX12_isScene 0 = .ok (.aload_n 0, 1) := by decide +kernel
theorem dX12_isScene_1 : decode cX12_isScene 1 = .ok (.bipush 115, 2) := by decide +kernel
theorem dX12_isScene_3 : decode cX12_isScene 3 = .ok (.bipush 99, 2) := by decide +kernel
theorem dX12_isScene_5 : decode cX12_isScene 5 = .ok (.bipush 101, 2) := by decide +kernel
theorem dX12_isScene_7 : decode cX12_isScene 7 = .ok (.bipush 110, 2) := by decide +kernel
theorem dX12_isScene_9 : decode cX12_isScene 9 = .ok (.bipush 101, 2) := by decide +kernel
theorem dX12_isScene_11 : decode cX12_isScene 11 = .ok (.iconst 0, 1) := by decide +kernel
theorem dX12_isScene_12 : decode cX12_isScene 12 = .ok (.invokestatic 170, 3) := by decide +kernel
theorem dX12_isScene_15 : decode cX12_isScene 15 = .ok (.invokevirtual 174, 3) := by decide +kernel
theorem dX12_isScene_18 : decode cX12_isScene 18 = .ok (.ireturn, 1) := by decide +kernel
theorem dX12_isLines_0 : decode cX12_isLines 0 = .ok (.aload_n 0, 1) := by decide +kernel
theorem dX12_isLines_1 : decode cX12_isLines 1 = .ok (.bipush 108, 2) := by decide +kernel
theorem dX12_isLines_3 : decode cX12_isLines 3 = .ok (.bipush 105, 2) := by decide +kernel
theorem dX12_isLines_5 : decode cX12_isLines 5 = .ok (.bipush 110, 2) := by decide +kernel
theorem dX12_isLines_7 : decode cX12_isLines 7 = .ok (.bipush 101, 2) := by decide +kernel
theorem dX12_isLines_9 : decode cX12_isLines 9 = .ok (.bipush 115, 2) := by decide +kernel
theorem dX12_isLines_11 : decode cX12_isLines 11 = .ok (.iconst 0, 1) := by decide +kernel
theorem dX12_isLines_12 : decode cX12_isLines 12 = .ok (.invokestatic 170, 3) := by decide +kernel
theorem dX12_isLines_15 : decode cX12_isLines 15 = .ok (.invokevirtual 174, 3) := by decide +kernel
theorem dX12_isLines_18 : decode cX12_isLines 18 = .ok (.ireturn, 1) := by decide +kernel
theorem dX12_isWith_0 : decode cX12_isWith 0 = .ok (.aload_n 0, 1) := by decide +kernel
theorem dX12_isWith_1 : decode cX12_isWith 1 = .ok (.bipush 119, 2) := by decide +kernel
theorem dX12_isWith_3 : decode cX12_isWith 3 = .ok (.bipush 105, 2) := by decide +kernel
theorem dX12_isWith_5 : decode cX12_isWith 5 = .ok (.bipush 116, 2) := by decide +kernel
theorem dX12_isWith_7 : decode cX12_isWith 7 = .ok (.bipush 104, 2) := by decide +kernel
theorem dX12_isWith_9 : decode cX12_isWith 9 = .ok (.iconst 0, 1) := by decide +kernel
theorem dX12_isWith_10 : decode cX12_isWith 10 = .ok (.iconst 0, 1) := by decide +kernel
theorem dX12_isWith_11 : decode cX12_isWith 11 = .ok (.invokestatic 170, 3) := by decide +kernel
theorem dX12_isWith_14 : decode cX12_isWith 14 = .ok (.invokevirtual 174, 3) := by decide +kernel
theorem dX12_isWith_17 : decode cX12_isWith 17 = .ok (.ireturn, 1) := by decide +kernel
theorem dX12_isEnds_0 : decode cX12_isEnds 0 = .ok (.aload_n 0, 1) := by decide +kernel
theorem dX12_isEnds_1 : decode cX12_isEnds 1 = .ok (.bipush 101, 2) := by decide +kernel
theorem dX12_isEnds_3 : decode cX12_isEnds 3 = .ok (.bipush 110, 2) := by decide +kernel
theorem dX12_isEnds_5 : decode cX12_isEnds 5 = .ok (.bipush 100, 2) := by decide +kernel
theorem dX12_isEnds_7 : decode cX12_isEnds 7 = .ok (.bipush 115, 2) := by decide +kernel
theorem dX12_isEnds_9 : decode cX12_isEnds 9 = .ok (.iconst 0, 1) := by decide +kernel
theorem dX12_isEnds_10 : decode cX12_isEnds 10 = .ok (.iconst 0, 1) := by decide +kernel
theorem dX12_isEnds_11 : decode cX12_isEnds 11 = .ok (.invokestatic 170, 3) := by decide +kernel
theorem dX12_isEnds_14 : decode cX12_isEnds 14 = .ok (.invokevirtual 174, 3) := by decide +kernel
theorem dX12_isEnds_17 : decode cX12_isEnds 17 = .ok (.ireturn, 1) := by decide +kernel
theorem dX12_isThen_0 : decode cX12_isThen 0 = .ok (.aload_n 0, 1) := by decide +kernel
theorem dX12_isThen_1 : decode cX12_isThen 1 = .ok (.bipush 116, 2) := by decide +kernel
theorem dX12_isThen_3 : decode cX12_isThen 3 = .ok (.bipush 104, 2) := by decide +kernel
theorem dX12_isThen_5 : decode cX12_isThen 5 = .ok (.bipush 101, 2) := by decide +kernel
theorem dX12_isThen_7 : decode cX12_isThen 7 = .ok (.bipush 110, 2) := by decide +kernel
theorem dX12_isThen_9 : decode cX12_isThen 9 = .ok (.iconst 0, 1) := by decide +kernel
theorem dX12_isThen_10 : decode cX12_isThen 10 = .ok (.iconst 0, 1) := by decide +kernel
theorem dX12_isThen_11 : decode cX12_isThen 11 = .ok (.invokestatic 170, 3) := by decide +kernel
theorem dX12_isThen_14 : decode cX12_isThen 14 = .ok (.invokevirtual 174, 3) := by decide +kernel
theorem dX12_isThen_17 : decode cX12_isThen 17 = .ok (.ireturn, 1) := by decide +kernel
theorem dX12_isTear_0 : decode cX12_isTear 0 = .ok (.aload_n 0, 1) := by decide +kernel
theorem dX12_isTear_1 : decode cX12_isTear 1 = .ok (.bipush 116, 2) := by decide +kernel
theorem dX12_isTear_3 : decode cX12_isTear 3 = .ok (.bipush 101, 2) := by decide +kernel
theorem dX12_isTear_5 : decode cX12_isTear 5 = .ok (.bipush 97, 2) := by decide +kernel
theorem dX12_isTear_7 : decode cX12_isTear 7 = .ok (.bipush 114, 2) := by decide +kernel
theorem dX12_isTear_9 : decode cX12_isTear 9 = .ok (.iconst 0, 1) := by decide +kernel
theorem dX12_isTear_10 : decode cX12_isTear 10 = .ok (.iconst 0, 1) := by decide +kernel
theorem dX12_isTear_11 : decode cX12_isTear 11 = .ok (.invokestatic 170, 3) := by decide +kernel
theorem dX12_isTear_14 : decode cX12_isTear 14 = .ok (.invokevirtual 174, 3) := by decide +kernel
theorem dX12_isTear_17 : decode cX12_isTear 17 = .ok (.ireturn, 1) := by decide +kernel
theorem dX12_isLaugh_0 : decode cX12_isLaugh 0 = .ok (.aload_n 0, 1) := by decide +kernel
theorem dX12_isLaugh_1 : decode cX12_isLaugh 1 = .ok (.bipush 108, 2) := by decide +kernel
theorem dX12_isLaugh_3 : decode cX12_isLaugh 3 = .ok (.bipush 97, 2) := by decide +kernel
theorem dX12_isLaugh_5 : decode cX12_isLaugh 5 = .ok (.bipush 117, 2) := by decide +kernel
theorem dX12_isLaugh_7 : decode cX12_isLaugh 7 = .ok (.bipush 103, 2) := by decide +kernel
theorem dX12_isLaugh_9 : decode cX12_isLaugh 9 = .ok (.bipush 104, 2) := by decide +kernel
theorem dX12_isLaugh_11 : decode cX12_isLaugh 11 = .ok (.iconst 0, 1) := by decide +kernel
theorem dX12_isLaugh_12 : decode cX12_isLaugh 12 = .ok (.invokestatic 170, 3) := by decide +kernel
theorem dX12_isLaugh_15 : decode cX12_isLaugh 15 = .ok (.invokevirtual 174, 3) := by decide +kernel
theorem dX12_isLaugh_18 : decode cX12_isLaugh 18 = .ok (.ireturn, 1) := by decide +kernel
theorem dX12_isSleep_0 : decode cX12_isSleep 0 = .ok (.aload_n 0, 1) := by decide +kernel
theorem dX12_isSleep_1 : decode cX12_isSleep 1 = .ok (.bipush 115, 2) := by decide +kernel
theorem dX12_isSleep_3 : decode cX12_isSleep 3 = .ok (.bipush 108, 2) := by decide +kernel
theorem dX12_isSleep_5 : decode cX12_isSleep 5 = .ok (.bipush 101, 2) := by decide +kernel
theorem dX12_isSleep_7 : decode cX12_isSleep 7 = .ok (.bipush 101, 2) := by decide +kernel
theorem dX12_isSleep_9 : decode cX12_isSleep 9 = .ok (.bipush 112, 2) := by decide +kernel
theorem dX12_isSleep_11 : decode cX12_isSleep 11 = .ok (.iconst 0, 1) := by decide +kernel
theorem dX12_isSleep_12 : decode cX12_isSleep 12 = .ok (.invokestatic 170, 3) := by decide +kernel
theorem dX12_isSleep_15 : decode cX12_isSleep 15 = .ok (.invokevirtual 174, 3) := by decide +kernel
theorem dX12_isSleep_18 : decode cX12_isSleep 18 = .ok (.ireturn, 1) := by decide +kernel
theorem dX12_isKills_0 : decode cX12_isKills 0 = .ok (.aload_n 0, 1) := by decide +kernel
theorem dX12_isKills_1 : decode cX12_isKills 1 = .ok (.bipush 107, 2) := by decide +kernel
theorem dX12_isKills_3 : decode cX12_isKills 3 = .ok (.bipush 105, 2) := by decide +kernel
theorem dX12_isKills_5 : decode cX12_isKills 5 = .ok (.bipush 108, 2) := by decide +kernel
theorem dX12_isKills_7 : decode cX12_isKills 7 = .ok (.bipush 108, 2) := by decide +kernel
theorem dX12_isKills_9 : decode cX12_isKills 9 = .ok (.bipush 115, 2) := by decide +kernel
theorem dX12_isKills_11 : decode cX12_isKills 11 = .ok (.iconst 0, 1) := by decide +kernel
theorem dX12_isKills_12 : decode cX12_isKills 12 = .ok (.invokestatic 170, 3) := by decide +kernel
theorem dX12_isKills_15 : decode cX12_isKills 15 = .ok (.invokevirtual 174, 3) := by decide +kernel
theorem dX12_isKills_18 : decode cX12_isKills 18 = .ok (.ireturn, 1) := by decide +kernel
theorem dX12_isKind_0 : decode cX12_isKind 0 = .ok (.aload_n 0, 1) := by decide +kernel
theorem dX12_isKind_1 : decode cX12_isKind 1 = .ok (.bipush 107, 2) := by decide +kernel
theorem dX12_isKind_3 : decode cX12_isKind 3 = .ok (.bipush 105, 2) := by decide +kernel
theorem dX12_isKind_5 : decode cX12_isKind 5 = .ok (.bipush 110, 2) := by decide +kernel
theorem dX12_isKind_7 : decode cX12_isKind 7 = .ok (.bipush 100, 2) := by decide +kernel
theorem dX12_isKind_9 : decode cX12_isKind 9 = .ok (.iconst 0, 1) := by decide +kernel
theorem dX12_isKind_10 : decode cX12_isKind 10 = .ok (.iconst 0, 1) := by decide +kernel
theorem dX12_isKind_11 : decode cX12_isKind 11 = .ok (.invokestatic 170, 3) := by decide +kernel
theorem dX12_isKind_14 : decode cX12_isKind 14 = .ok (.invokevirtual 174, 3) := by decide +kernel
theorem dX12_isKind_17 : decode cX12_isKind 17 = .ok (.ireturn, 1) := by decide +kernel
theorem dX12_isLots_0 : decode cX12_isLots 0 = .ok (.aload_n 0, 1) := by decide +kernel
theorem dX12_isLots_1 : decode cX12_isLots 1 = .ok (.bipush 108, 2) := by decide +kernel
theorem dX12_isLots_3 : decode cX12_isLots 3 = .ok (.bipush 111, 2) := by decide +kernel
theorem dX12_isLots_5 : decode cX12_isLots 5 = .ok (.bipush 116, 2) := by decide +kernel
theorem dX12_isLots_7 : decode cX12_isLots 7 = .ok (.bipush 115, 2) := by decide +kernel
theorem dX12_isLots_9 : decode cX12_isLots 9 = .ok (.iconst 0, 1) := by decide +kernel
theorem dX12_isLots_10 : decode cX12_isLots 10 = .ok (.iconst 0, 1) := by decide +kernel
theorem dX12_isLots_11 : decode cX12_isLots 11 = .ok (.invokestatic 170, 3) := by decide +kernel
theorem dX12_isLots_14 : decode cX12_isLots 14 = .ok (.invokevirtual 174, 3) := by decide +kernel
theorem dX12_isLots_17 : decode cX12_isLots 17 = .ok (.ireturn, 1) := by decide +kernel
theorem dX12_isTears_0 : decode cX12_isTears 0 = .ok (.aload_n 0, 1) := by decide +kernel
theorem dX12_isTears_1 : decode cX12_isTears 1 = .ok (.bipush 116, 2) := by decide +kernel
theorem dX12_isTears_3 : decode cX12_isTears 3 = .ok (.bipush 101, 2) := by decide +kernel
theorem dX12_isTears_5 : decode cX12_isTears 5 = .ok (.bipush 97, 2) := by decide +kernel
theorem dX12_isTears_7 : decode cX12_isTears 7 = .ok (.bipush 114, 2) := by decide +kernel
theorem dX12_isTears_9 : decode cX12_isTears 9 = .ok (.bipush 115, 2) := by decide +kernel
theorem dX12_isTears_11 : decode cX12_isTears 11 = .ok (.iconst 0, 1) := by decide +kernel
theorem dX12_isTears_12 : decode cX12_isTears 12 = .ok (.invokestatic 170, 3) := by decide +kernel
theorem dX12_isTears_15 : decode cX12_isTears 15 = .ok (.invokevirtual 174, 3) := by decide +kernel
theorem dX12_isTears_18 : decode cX12_isTears 18 = .ok (.ireturn, 1) := by decide +kernel
theorem dX12_isLaughs_0 : decode cX12_isLaughs 0 = .ok (.aload_n 0, 1) := by decide +kernel
theorem dX12_isLaughs_1 : decode cX12_isLaughs 1 = .ok (.bipush 108, 2) := by decide +kernel
theorem dX12_isLaughs_3 : decode cX12_isLaughs 3 = .ok (.bipush 97, 2) := by decide +kernel
theorem dX12_isLaughs_5 : decode cX12_isLaughs 5 = .ok (.bipush 117, 2) := by decide +kernel
theorem dX12_isLaughs_7 : decode cX12_isLaughs 7 = .ok (.bipush 103, 2) := by decide +kernel
theorem dX12_isLaughs_9 : decode cX12_isLaughs 9 = .ok (.bipush 104, 2) := by decide +kernel
theorem dX12_isLaughs_11 : decode cX12_isLaughs 11 = .ok (.bipush 115, 2) := by decide +kernel
theorem dX12_isLaughs_13 : decode cX12_isLaughs 13 = .ok (.invokestatic 170, 3) := by decide +kernel
theorem dX12_isLaughs_16 : decode cX12_isLaughs 16 = .ok (.invokevirtual 174, 3) := by decide +kernel
theorem dX12_isLaughs_19 : decode cX12_isLaughs 19 = .ok (.ireturn, 1) := by decide +kernel
theorem dX12_isSleeps_0 : decode cX12_isSleeps 0 = .ok (.aload_n 0, 1) := by decide +kernel
theorem dX12_isSleeps_1 : decode cX12_isSleeps 1 = .ok (.bipush 115, 2) := by decide +kernel
theorem dX12_isSleeps_3 : decode cX12_isSleeps 3 = .ok (.bipush 108, 2) := by decide +kernel
theorem dX12_isSleeps_5 : decode cX12_isSleeps 5 = .ok (.bipush 101, 2) := by decide +kernel
theorem dX12_isSleeps_7 : decode cX12_isSleeps 7 = .ok (.bipush 101, 2) := by decide +kernel
theorem dX12_isSleeps_9 : decode cX12_isSleeps 9 = .ok (.bipush 112, 2) := by decide +kernel
theorem dX12_isSleeps_11 : decode cX12_isSleeps 11 = .ok (.bipush 115, 2) := by decide +kernel
theorem dX12_isSleeps_13 : decode cX12_isSleeps 13 = .ok (.invokestatic 170, 3) := by decide +kernel
theorem dX12_isSleeps_16 : decode cX12_isSleeps 16 = .ok (.invokevirtual 174, 3) := by decide +kernel
theorem dX12_isSleeps_19 : decode cX12_isSleeps 19 = .ok (.ireturn, 1) := by decide +kernel
theorem dX12_stepWord_0 : decode cX12_stepWord 0 = .ok (.aload_n 0, 1) := by decide +kernel
theorem dX12_stepWord_1 : decode cX12_stepWord 1 = .ok (.bipush 112, 2) := by decide +kernel
theorem dX12_stepWord_3 : decode cX12_stepWord 3 = .ok (.bipush 108, 2) := by decide +kernel
theorem dX12_stepWord_5 : decode cX12_stepWord 5 = .ok (.bipush 97, 2) := by decide +kernel
theorem dX12_stepWord_7 : decode cX12_stepWord 7 = .ok (.bipush 121, 2) := by decide +kernel
theorem dX12_stepWord_9 : decode cX12_stepWord 9 = .ok (.iconst 0, 1) := by decide +kernel
theorem dX12_stepWord_10 : decode cX12_stepWord 10 = .ok (.iconst 0, 1) := by decide +kernel
theorem dX12_stepWord_11 : decode cX12_stepWord 11 = .ok (.invokestatic 170, 3) := by decide +kernel
theorem dX12_stepWord_14 : decode cX12_stepWord 14 = .ok (.invokevirtual 174, 3) := by decide +kernel
theorem dX12_stepWord_17 : decode cX12_stepWord 17 = .ok (.ifCond .eq 5, 3) := by decide +kernel
theorem dX12_stepWord_20 : decode cX12_stepWord 20 = .ok (.iconst 0, 1) := by decide +kernel
theorem dX12_stepWord_21 : decode cX12_stepWord 21 = .ok (.ireturn, 1) := by decide +kernel
theorem dX12_stepWord_22 : decode cX12_stepWord 22 = .ok (.aload_n 0, 1) := by decide +kernel
theorem dX12_stepWord_23 : decode cX12_stepWord 23 = .ok (.bipush 98, 2) := by decide +kernel
theorem dX12_stepWord_25 : decode cX12_stepWord 25 = .ok (.bipush 97, 2) := by decide +kernel
theorem dX12_stepWord_27 : decode cX12_stepWord 27 = .ok (.bipush 114, 2) := by decide +kernel
theorem dX12_stepWord_29 : decode cX12_stepWord 29 = .ok (.iconst 0, 1) := by decide +kernel
theorem dX12_stepWord_30 : decode cX12_stepWord 30 = .ok (.iconst 0, 1) := by decide +kernel
theorem dX12_stepWord_31 : decode cX12_stepWord 31 = .ok (.iconst 0, 1) := by decide +kernel
theorem dX12_stepWord_32 : decode cX12_stepWord 32 = .ok (.invokestatic 170, 3) := by decide +kernel
theorem dX12_stepWord_35 : decode cX12_stepWord 35 = .ok (.invokevirtual 174, 3) := by decide +kernel
theorem dX12_stepWord_38 : decode cX12_stepWord 38 = .ok (.ifCond .eq 5, 3) := by decide +kernel
theorem dX12_stepWord_41 : decode cX12_stepWord 41 = .ok (.iconst 1, 1) := by decide +kernel
theorem dX12_stepWord_42 : decode cX12_stepWord 42 = .ok (.ireturn, 1) := by decide +kernel
theorem dX12_stepWord_43 : decode cX12_stepWord 43 = .ok (.aload_n 0, 1) := by decide +kernel
theorem dX12_stepWord_44 : decode cX12_stepWord 44 = .ok (.bipush 111, 2) := by decide +kernel
theorem dX12_stepWord_46 : decode cX12_stepWord 46 = .ok (.bipush 112, 2) := by decide +kernel
theorem dX12_stepWord_48 : decode cX12_stepWord 48 = .ok (.bipush 101, 2) := by decide +kernel
theorem dX12_stepWord_50 : decode cX12_stepWord 50 = .ok (.bipush 110, 2) := by decide +kernel
theorem dX12_stepWord_52 : decode cX12_stepWord 52 = .ok (.iconst 0, 1) := by decide +kernel
theorem dX12_stepWord_53 : decode cX12_stepWord 53 = .ok (.iconst 0, 1) := by decide +kernel
theorem dX12_stepWord_54 : decode cX12_stepWord 54 = .ok (.invokestatic 170, 3) := by decide +kernel
theorem dX12_stepWord_57 : decode cX12_stepWord 57 = .ok (.invokevirtual 174, 3) := by decide +kernel
theorem dX12_stepWord_60 : decode cX12_stepWord 60 = .ok (.ifCond .eq 5, 3) := by decide +kernel
theorem dX12_stepWord_63 : decode cX12_stepWord 63 = .ok (.iconst 2, 1) := by decide +kernel
theorem dX12_stepWord_64 : decode cX12_stepWord 64 = .ok (.ireturn, 1) := by decide +kernel
theorem dX12_stepWord_65 : decode cX12_stepWord 65 = .ok (.aload_n 0, 1) := by decide +kernel
theorem dX12_stepWord_66 : decode cX12_stepWord 66 = .ok (.bipush 98, 2) := by decide +kernel
theorem dX12_stepWord_68 : decode cX12_stepWord 68 = .ok (.bipush 117, 2) := by decide +kernel
theorem dX12_stepWord_70 : decode cX12_stepWord 70 = .ok (.bipush 121, 2) := by decide +kernel
theorem dX12_stepWord_72 : decode cX12_stepWord 72 = .ok (.iconst 0, 1) := by decide +kernel
theorem dX12_stepWord_73 : decode cX12_stepWord 73 = .ok (.iconst 0, 1) := by decide +kernel
theorem dX12_stepWord_74 : decode cX12_stepWord 74 = .ok (.iconst 0, 1) := by decide +kernel
theorem dX12_stepWord_75 : decode cX12_stepWord 75 = .ok (.invokestatic 170, 3) := by decide +kernel
theorem dX12_stepWord_78 : decode cX12_stepWord 78 = .ok (.invokevirtual 174, 3) := by decide +kernel
theorem dX12_stepWord_81 : decode cX12_stepWord 81 = .ok (.ifCond .eq 5, 3) := by decide +kernel
theorem dX12_stepWord_84 : decode cX12_stepWord 84 = .ok (.iconst 3, 1) := by decide +kernel
theorem dX12_stepWord_85 : decode cX12_stepWord 85 = .ok (.ireturn, 1) := by decide +kernel
theorem dX12_stepWord_86 : decode cX12_stepWord 86 = .ok (.aload_n 0, 1) := by decide +kernel
theorem dX12_stepWord_87 : decode cX12_stepWord 87 = .ok (.bipush 115, 2) := by decide +kernel
theorem dX12_stepWord_89 : decode cX12_stepWord 89 = .ok (.bipush 112, 2) := by decide +kernel
theorem dX12_stepWord_91 : decode cX12_stepWord 91 = .ok (.bipush 97, 2) := by decide +kernel
theorem dX12_stepWord_93 : decode cX12_stepWord 93 = .ok (.bipush 114, 2) := by decide +kernel
theorem dX12_stepWord_95 : decode cX12_stepWord 95 = .ok (.bipush 101, 2) := by decide +kernel
theorem dX12_stepWord_97 : decode cX12_stepWord 97 = .ok (.iconst 0, 1) := by decide +kernel
theorem dX12_stepWord_98 : decode cX12_stepWord 98 = .ok (.invokestatic 170, 3) := by decide +kernel
theorem dX12_stepWord_101 : decode cX12_stepWord 101 = .ok (.invokevirtual 174, 3) := by decide +kernel
theorem dX12_stepWord_104 : decode cX12_stepWord 104 = .ok (.ifCond .eq 5, 3) := by decide +kernel
theorem dX12_stepWord_107 : decode cX12_stepWord 107 = .ok (.iconst 4, 1) := by decide +kernel
theorem dX12_stepWord_108 : decode cX12_stepWord 108 = .ok (.ireturn, 1) := by decide +kernel
theorem dX12_stepWord_109 : decode cX12_stepWord 109 = .ok (.aload_n 0, 1) := by decide +kernel
theorem dX12_stepWord_110 : decode cX12_stepWord 110 = .ok (.bipush 119, 2) := by decide +kernel
theorem dX12_stepWord_112 : decode cX12_stepWord 112 = .ok (.bipush 104, 2) := by decide +kernel
theorem dX12_stepWord_114 : decode cX12_stepWord 114 = .ok (.bipush 101, 2) := by decide +kernel
theorem dX12_stepWord_116 : decode cX12_stepWord 116 = .ok (.bipush 110, 2) := by decide +kernel
theorem dX12_stepWord_118 : decode cX12_stepWord 118 = .ok (.iconst 0, 1) := by decide +kernel
theorem dX12_stepWord_119 : decode cX12_stepWord 119 = .ok (.iconst 0, 1) := by decide +kernel
theorem dX12_stepWord_120 : decode cX12_stepWord 120 = .ok (.invokestatic 170, 3) := by decide +kernel
theorem dX12_stepWord_123 : decode cX12_stepWord 123 = .ok (.invokevirtual 174, 3) := by decide +kernel
theorem dX12_stepWord_126 : decode cX12_stepWord 126 = .ok (.ifCond .eq 5, 3) := by decide +kernel
theorem dX12_stepWord_129 : decode cX12_stepWord 129 = .ok (.iconst 5, 1) := by decide +kernel
theorem dX12_stepWord_130 : decode cX12_stepWord 130 = .ok (.ireturn, 1) := by decide +kernel
theorem dX12_stepWord_131 : decode cX12_stepWord 131 = .ok (.aload_n 0, 1) := by decide +kernel
theorem dX12_stepWord_132 : decode cX12_stepWord 132 = .ok (.bipush 108, 2) := by decide +kernel
theorem dX12_stepWord_134 : decode cX12_stepWord 134 = .ok (.bipush 111, 2) := by decide +kernel
theorem dX12_stepWord_136 : decode cX12_stepWord 136 = .ok (.bipush 111, 2) := by decide +kernel
theorem dX12_stepWord_138 : decode cX12_stepWord 138 = .ok (.bipush 112, 2) := by decide +kernel
theorem dX12_stepWord_140 : decode cX12_stepWord 140 = .ok (.iconst 0, 1) := by decide +kernel
theorem dX12_stepWord_141 : decode cX12_stepWord 141 = .ok (.iconst 0, 1) := by decide +kernel
theorem dX12_stepWord_142 : decode cX12_stepWord 142 = .ok (.invokestatic 170, 3) := by decide +kernel
theorem dX12_stepWord_145 : decode cX12_stepWord 145 = .ok (.invokevirtual 174, 3) := by decide +kernel
theorem dX12_stepWord_148 : decode cX12_stepWord 148 = .ok (.ifCond .eq 6, 3) := by decide +kernel
theorem dX12_stepWord_151 : decode cX12_stepWord 151 = .ok (.bipush 6, 2) := by decide +kernel
theorem dX12_stepWord_153 : decode cX12_stepWord 153 = .ok (.ireturn, 1) := by decide +kernel
theorem dX12_stepWord_154 : decode cX12_stepWord 154 = .ok (.aload_n 0, 1) := by decide +kernel
theorem dX12_stepWord_155 : decode cX12_stepWord 155 = .ok (.bipush 115, 2) := by decide +kernel
theorem dX12_stepWord_157 : decode cX12_stepWord 157 = .ok (.bipush 116, 2) := by decide +kernel
theorem dX12_stepWord_159 : decode cX12_stepWord 159 = .ok (.bipush 111, 2) := by decide +kernel
theorem dX12_stepWord_161 : decode cX12_stepWord 161 = .ok (.bipush 112, 2) := by decide +kernel
theorem dX12_stepWord_163 : decode cX12_stepWord 163 = .ok (.iconst 0, 1) := by decide +kernel
theorem dX12_stepWord_164 : decode cX12_stepWord 164 = .ok (.iconst 0, 1) := by decide +kernel
theorem dX12_stepWord_165 : decode cX12_stepWord 165 = .ok (.invokestatic 170, 3) := by decide +kernel
theorem dX12_stepWord_168 : decode cX12_stepWord 168 = .ok (.invokevirtual 174, 3) := by decide +kernel
theorem dX12_stepWord_171 : decode cX12_stepWord 171 = .ok (.ifCond .eq 8, 3) := by decide +kernel
theorem dX12_stepWord_174 : decode cX12_stepWord 174 = .ok (.bipush 7, 2) := by decide +kernel
theorem dX12_stepWord_176 : decode cX12_stepWord 176 = .ok (.goto 4, 3) := by decide +kernel
theorem dX12_stepWord_179 : decode cX12_stepWord 179 = .ok (.iconst (-1), 1) := by decide +kernel
theorem dX12_stepWord_180 : decode cX12_stepWord 180 = .ok (.ireturn, 1) := by decide +kernel
theorem dX12_testWord_0 : decode cX12_testWord 0 = .ok (.aload_n 0, 1) := by decide +kernel
theorem dX12_testWord_1 : decode cX12_testWord 1 = .ok (.bipush 115, 2) := by decide +kernel
theorem dX12_testWord_3 : decode cX12_testWord 3 = .ok (.bipush 101, 2) := by decide +kernel
theorem dX12_testWord_5 : decode cX12_testWord 5 = .ok (.bipush 101, 2) := by decide +kernel
theorem dX12_testWord_7 : decode cX12_testWord 7 = .ok (.bipush 110, 2) := by decide +kernel
theorem dX12_testWord_9 : decode cX12_testWord 9 = .ok (.iconst 0, 1) := by decide +kernel
theorem dX12_testWord_10 : decode cX12_testWord 10 = .ok (.iconst 0, 1) := by decide +kernel
theorem dX12_testWord_11 : decode cX12_testWord 11 = .ok (.invokestatic 170, 3) := by decide +kernel
theorem dX12_testWord_14 : decode cX12_testWord 14 = .ok (.invokevirtual 174, 3) := by decide +kernel
theorem dX12_testWord_17 : decode cX12_testWord 17 = .ok (.ifCond .eq 5, 3) := by decide +kernel
theorem dX12_testWord_20 : decode cX12_testWord 20 = .ok (.iconst 0, 1) := by decide +kernel
theorem dX12_testWord_21 : decode cX12_testWord 21 = .ok (.ireturn, 1) := by decide +kernel
theorem dX12_testWord_22 : decode cX12_testWord 22 = .ok (.aload_n 0, 1) := by decide +kernel
theorem dX12_testWord_23 : decode cX12_testWord 23 = .ok (.bipush 100, 2) := by decide +kernel
theorem dX12_testWord_25 : decode cX12_testWord 25 = .ok (.bipush 101, 2) := by decide +kernel
theorem dX12_testWord_27 : decode cX12_testWord 27 = .ok (.bipush 97, 2) := by decide +kernel
theorem dX12_testWord_29 : decode cX12_testWord 29 = .ok (.bipush 100, 2) := by decide +kernel
theorem dX12_testWord_31 : decode cX12_testWord 31 = .ok (.iconst 0, 1) := by decide +kernel
theorem dX12_testWord_32 : decode cX12_testWord 32 = .ok (.iconst 0, 1) := by decide +kernel
theorem dX12_testWord_33 : decode cX12_testWord 33 = .ok (.invokestatic 170, 3) := by decide +kernel
theorem dX12_testWord_36 : decode cX12_testWord 36 = .ok (.invokevirtual 174, 3) := by decide +kernel
theorem dX12_testWord_39 : decode cX12_testWord 39 = .ok (.ifCond .eq 5, 3) := by decide +kernel
theorem dX12_testWord_42 : decode cX12_testWord 42 = .ok (.iconst 1, 1) := by decide +kernel
theorem dX12_testWord_43 : decode cX12_testWord 43 = .ok (.ireturn, 1) := by decide +kernel
theorem dX12_testWord_44 : decode cX12_testWord 44 = .ok (.aload_n 0, 1) := by decide +kernel
theorem dX12_testWord_45 : decode cX12_testWord 45 = .ok (.bipush 101, 2) := by decide +kernel
theorem dX12_testWord_47 : decode cX12_testWord 47 = .ok (.bipush 110, 2) := by decide +kernel
theorem dX12_testWord_49 : decode cX12_testWord 49 = .ok (.bipush 100, 2) := by decide +kernel
theorem dX12_testWord_51 : decode cX12_testWord 51 = .ok (.bipush 101, 2) := by decide +kernel
theorem dX12_testWord_53 : decode cX12_testWord 53 = .ok (.bipush 100, 2) := by decide +kernel
theorem dX12_testWord_55 : decode cX12_testWord 55 = .ok (.iconst 0, 1) := by decide +kernel
theorem dX12_testWord_56 : decode cX12_testWord 56 = .ok (.invokestatic 170, 3) := by decide +kernel
theorem dX12_testWord_59 : decode cX12_testWord 59 = .ok (.invokevirtual 174, 3) := by decide +kernel
theorem dX12_testWord_62 : decode cX12_testWord 62 = .ok (.ifCond .eq 5, 3) := by decide +kernel
theorem dX12_testWord_65 : decode cX12_testWord 65 = .ok (.iconst 2, 1) := by decide +kernel
theorem dX12_testWord_66 : decode cX12_testWord 66 = .ok (.ireturn, 1) := by decide +kernel
theorem dX12_testWord_67 : decode cX12_testWord 67 = .ok (.aload_n 0, 1) := by decide +kernel
theorem dX12_testWord_68 : decode cX12_testWord 68 = .ok (.bipush 110, 2) := by decide +kernel
theorem dX12_testWord_70 : decode cX12_testWord 70 = .ok (.bipush 105, 2) := by decide +kernel
theorem dX12_testWord_72 : decode cX12_testWord 72 = .ok (.bipush 103, 2) := by decide +kernel
theorem dX12_testWord_74 : decode cX12_testWord 74 = .ok (.bipush 104, 2) := by decide +kernel
theorem dX12_testWord_76 : decode cX12_testWord 76 = .ok (.bipush 116, 2) := by decide +kernel
theorem dX12_testWord_78 : decode cX12_testWord 78 = .ok (.bipush 115, 2) := by decide +kernel
theorem dX12_testWord_80 : decode cX12_testWord 80 = .ok (.invokestatic 170, 3) := by decide +kernel
theorem dX12_testWord_83 : decode cX12_testWord 83 = .ok (.invokevirtual 174, 3) := by decide +kernel
theorem dX12_testWord_86 : decode cX12_testWord 86 = .ok (.ifCond .eq 7, 3) := by decide +kernel
theorem dX12_testWord_89 : decode cX12_testWord 89 = .ok (.iconst 3, 1) := by decide +kernel
theorem dX12_testWord_90 : decode cX12_testWord 90 = .ok (.goto 4, 3) := by decide +kernel
theorem dX12_testWord_93 : decode cX12_testWord 93 = .ok (.iconst (-1), 1) := by decide +kernel
theorem dX12_testWord_94 : decode cX12_testWord 94 = .ok (.ireturn, 1) := by decide +kernel
theorem dX12_isEnd_0 : decode cX12_isEnd 0 = .ok (.aload_n 0, 1) := by decide +kernel
theorem dX12_isEnd_1 : decode cX12_isEnd 1 = .ok (.bipush 101, 2) := by decide +kernel
theorem dX12_isEnd_3 : decode cX12_isEnd 3 = .ok (.bipush 110, 2) := by decide +kernel
theorem dX12_isEnd_5 : decode cX12_isEnd 5 = .ok (.bipush 100, 2) := by decide +kernel
theorem dX12_isEnd_7 : decode cX12_isEnd 7 = .ok (.iconst 0, 1) := by decide +kernel
theorem dX12_isEnd_8 : decode cX12_isEnd 8 = .ok (.iconst 0, 1) := by decide +kernel
theorem dX12_isEnd_9 : decode cX12_isEnd 9 = .ok (.iconst 0, 1) := by decide +kernel
theorem dX12_isEnd_10 : decode cX12_isEnd 10 = .ok (.invokestatic 170, 3) := by decide +kernel
theorem dX12_isEnd_13 : decode cX12_isEnd 13 = .ok (.invokevirtual 174, 3) := by decide +kernel
theorem dX12_isEnd_16 : decode cX12_isEnd 16 = .ok (.ireturn, 1) := by decide +kernel
theorem dX12_isKept_0 : decode cX12_isKept 0 = .ok (.aload_n 0, 1) := by decide +kernel
theorem dX12_isKept_1 : decode cX12_isKept 1 = .ok (.invokevirtual 178, 3) := by decide +kernel
theorem dX12_isKept_4 : decode cX12_isKept 4 = .ok (.ifCond .ne 87, 3) := by decide +kernel
theorem dX12_isKept_7 : decode cX12_isKept 7 = .ok (.aload_n 0, 1) := by decide +kernel
theorem dX12_isKept_8 : decode cX12_isKept 8 = .ok (.invokevirtual 182, 3) := by decide +kernel
theorem dX12_isKept_11 : decode cX12_isKept 11 = .ok (.ifCond .ne 80, 3) := by decide +kernel
theorem dX12_isKept_14 : decode cX12_isKept 14 = .ok (.aload_n 0, 1) := by decide +kernel
theorem dX12_isKept_15 : decode cX12_isKept 15 = .ok (.invokevirtual 185, 3) := by decide +kernel
theorem dX12_isKept_18 : decode cX12_isKept 18 = .ok (.ifCond .ne 73, 3) := by decide +kernel
theorem dX12_isKept_21 : decode cX12_isKept 21 = .ok (.aload_n 0, 1) := by decide +kernel
theorem dX12_isKept_22 : decode cX12_isKept 22 = .ok (.invokevirtual 188, 3) := by decide +kernel
theorem dX12_isKept_25 : decode cX12_isKept 25 = .ok (.ifCond .ne 66, 3) := by decide +kernel
theorem dX12_isKept_28 : decode cX12_isKept 28 = .ok (.aload_n 0, 1) := by decide +kernel
theorem dX12_isKept_29 : decode cX12_isKept 29 = .ok (.invokevirtual 191, 3) := by decide +kernel
theorem dX12_isKept_32 : decode cX12_isKept 32 = .ok (.ifCond .ne 59, 3) := by decide +kernel
theorem dX12_isKept_35 : decode cX12_isKept 35 = .ok (.aload_n 0, 1) := by decide +kernel
theorem dX12_isKept_36 : decode cX12_isKept 36 = .ok (.invokevirtual 194, 3) := by decide +kernel
theorem dX12_isKept_39 : decode cX12_isKept 39 = .ok (.ifCond .ne 52, 3) := by decide +kernel
theorem dX12_isKept_42 : decode cX12_isKept 42 = .ok (.aload_n 0, 1) := by decide +kernel
theorem dX12_isKept_43 : decode cX12_isKept 43 = .ok (.invokevirtual 197, 3) := by decide +kernel
theorem dX12_isKept_46 : decode cX12_isKept 46 = .ok (.ifCond .ne 45, 3) := by decide +kernel
theorem dX12_isKept_49 : decode cX12_isKept 49 = .ok (.aload_n 0, 1) := by decide +kernel
theorem dX12_isKept_50 : decode cX12_isKept 50 = .ok (.invokevirtual 200, 3) := by decide +kernel
theorem dX12_isKept_53 : decode cX12_isKept 53 = .ok (.ifCond .ne 38, 3) := by decide +kernel
theorem dX12_isKept_56 : decode cX12_isKept 56 = .ok (.aload_n 0, 1) := by decide +kernel
theorem dX12_isKept_57 : decode cX12_isKept 57 = .ok (.invokevirtual 203, 3) := by decide +kernel
theorem dX12_isKept_60 : decode cX12_isKept 60 = .ok (.ifCond .ne 31, 3) := by decide +kernel
theorem dX12_isKept_63 : decode cX12_isKept 63 = .ok (.aload_n 0, 1) := by decide +kernel
theorem dX12_isKept_64 : decode cX12_isKept 64 = .ok (.invokevirtual 206, 3) := by decide +kernel
theorem dX12_isKept_67 : decode cX12_isKept 67 = .ok (.ifCond .ne 24, 3) := by decide +kernel
theorem dX12_isKept_70 : decode cX12_isKept 70 = .ok (.aload_n 0, 1) := by decide +kernel
theorem dX12_isKept_71 : decode cX12_isKept 71 = .ok (.invokevirtual 209, 3) := by decide +kernel
theorem dX12_isKept_74 : decode cX12_isKept 74 = .ok (.ifCond .ne 17, 3) := by decide +kernel
theorem dX12_isKept_77 : decode cX12_isKept 77 = .ok (.aload_n 0, 1) := by decide +kernel
theorem dX12_isKept_78 : decode cX12_isKept 78 = .ok (.invokevirtual 212, 3) := by decide +kernel
theorem dX12_isKept_81 : decode cX12_isKept 81 = .ok (.ifCond .ne 10, 3) := by decide +kernel
theorem dX12_isKept_84 : decode cX12_isKept 84 = .ok (.aload_n 0, 1) := by decide +kernel
theorem dX12_isKept_85 : decode cX12_isKept 85 = .ok (.invokevirtual 215, 3) := by decide +kernel
theorem dX12_isKept_88 : decode cX12_isKept 88 = .ok (.ifCond .eq 5, 3) := by decide +kernel
theorem dX12_isKept_91 : decode cX12_isKept 91 = .ok (.iconst 1, 1) := by decide +kernel
theorem dX12_isKept_92 : decode cX12_isKept 92 = .ok (.ireturn, 1) := by decide +kernel
theorem dX12_isKept_93 : decode cX12_isKept 93 = .ok (.aload_n 0, 1) := by decide +kernel
theorem dX12_isKept_94 : decode cX12_isKept 94 = .ok (.invokevirtual 218, 3) := by decide +kernel
theorem dX12_isKept_97 : decode cX12_isKept 97 = .ok (.ifCond .ne 59, 3) := by decide +kernel
theorem dX12_isKept_100 : decode cX12_isKept 100 = .ok (.aload_n 0, 1) := by decide +kernel
theorem dX12_isKept_101 : decode cX12_isKept 101 = .ok (.invokevirtual 221, 3) := by decide +kernel
theorem dX12_isKept_104 : decode cX12_isKept 104 = .ok (.ifCond .ne 52, 3) := by decide +kernel
theorem dX12_isKept_107 : decode cX12_isKept 107 = .ok (.aload_n 0, 1) := by decide +kernel
theorem dX12_isKept_108 : decode cX12_isKept 108 = .ok (.invokevirtual 224, 3) := by decide +kernel
theorem dX12_isKept_111 : decode cX12_isKept 111 = .ok (.ifCond .ne 45, 3) := by decide +kernel
theorem dX12_isKept_114 : decode cX12_isKept 114 = .ok (.aload_n 0, 1) := by decide +kernel
theorem dX12_isKept_115 : decode cX12_isKept 115 = .ok (.invokevirtual 227, 3) := by decide +kernel
theorem dX12_isKept_118 : decode cX12_isKept 118 = .ok (.ifCond .ne 38, 3) := by decide +kernel
theorem dX12_isKept_121 : decode cX12_isKept 121 = .ok (.aload_n 0, 1) := by decide +kernel
theorem dX12_isKept_122 : decode cX12_isKept 122 = .ok (.invokevirtual 230, 3) := by decide +kernel
theorem dX12_isKept_125 : decode cX12_isKept 125 = .ok (.ifCond .ne 31, 3) := by decide +kernel
theorem dX12_isKept_128 : decode cX12_isKept 128 = .ok (.aload_n 0, 1) := by decide +kernel
theorem dX12_isKept_129 : decode cX12_isKept 129 = .ok (.invokevirtual 233, 3) := by decide +kernel
theorem dX12_isKept_132 : decode cX12_isKept 132 = .ok (.ifCond .ne 24, 3) := by decide +kernel
theorem dX12_isKept_135 : decode cX12_isKept 135 = .ok (.aload_n 0, 1) := by decide +kernel
theorem dX12_isKept_136 : decode cX12_isKept 136 = .ok (.invokevirtual 236, 3) := by decide +kernel
theorem dX12_isKept_139 : decode cX12_isKept 139 = .ok (.ifCond .ge 17, 3) := by decide +kernel
theorem dX12_isKept_142 : decode cX12_isKept 142 = .ok (.aload_n 0, 1) := by decide +kernel
theorem dX12_isKept_143 : decode cX12_isKept 143 = .ok (.invokevirtual 240, 3) := by decide +kernel
theorem dX12_isKept_146 : decode cX12_isKept 146 = .ok (.ifCond .ge 10, 3) := by decide +kernel
theorem dX12_isKept_149 : decode cX12_isKept 149 = .ok (.aload_n 0, 1) := by decide +kernel
theorem dX12_isKept_150 : decode cX12_isKept 150 = .ok (.invokevirtual 243, 3) := by decide +kernel
theorem dX12_isKept_153 : decode cX12_isKept 153 = .ok (.ifCond .eq 7, 3) := by decide +kernel
theorem dX12_isKept_156 : decode cX12_isKept 156 = .ok (.iconst 1, 1) := by decide +kernel
theorem dX12_isKept_157 : decode cX12_isKept 157 = .ok (.goto 4, 3) := by decide +kernel
theorem dX12_isKept_160 : decode cX12_isKept 160 = .ok (.iconst 0, 1) := by decide +kernel
theorem dX12_isKept_161 : decode cX12_isKept 161 = .ok (.ireturn, 1) := by decide +kernel
theorem dX12_isName_0 : decode cX12_isName 0 = .ok (.aload_n 0, 1) := by decide +kernel
theorem dX12_isName_1 : decode cX12_isName 1 = .ok (.getfield 145, 3) := by decide +kernel
theorem dX12_isName_4 : decode cX12_isName 4 = .ok (.iconst 1, 1) := by decide +kernel
theorem dX12_isName_5 : decode cX12_isName 5 = .ok (.if_icmp .ne 23, 3) := by decide +kernel
theorem dX12_isName_8 : decode cX12_isName 8 = .ok (.aload_n 0, 1) := by decide +kernel
theorem dX12_isName_9 : decode cX12_isName 9 = .ok (.getfield 158, 3) := by decide +kernel
theorem dX12_isName_12 : decode cX12_isName 12 = .ok (.bipush 8, 2) := by decide +kernel
theorem dX12_isName_14 : decode cX12_isName 14 = .ok (.if_icmp .gt 14, 3) := by decide +kernel
theorem dX12_isName_17 : decode cX12_isName 17 = .ok (.aload_n 0, 1) := by decide +kernel
theorem dX12_isName_18 : decode cX12_isName 18 = .ok (.invokevirtual 246, 3) := by decide +kernel
theorem dX12_isName_21 : decode cX12_isName 21 = .ok (.ifCond .ne 7, 3) := by decide +kernel
theorem dX12_isName_24 : decode cX12_isName 24 = .ok (.iconst 1, 1) := by decide +kernel
theorem dX12_isName_25 : decode cX12_isName 25 = .ok (.goto 4, 3) := by decide +kernel
theorem dX12_isName_28 : decode cX12_isName 28 = .ok (.iconst 0, 1) := by decide +kernel
theorem dX12_isName_29 : decode cX12_isName 29 = .ok (.ireturn, 1) := by decide +kernel
theorem dX12_fail_0 : decode cX12_fail 0 = .ok (.aload_n 0, 1) := by decide +kernel
theorem dX12_fail_1 : decode cX12_fail 1 = .ok (.getfield 249, 3) := by decide +kernel
theorem dX12_fail_4 : decode cX12_fail 4 = .ok (.ifCond .le 4, 3) := by decide +kernel
theorem dX12_fail_7 : decode cX12_fail 7 = .ok (.return_, 1) := by decide +kernel
theorem dX12_fail_8 : decode cX12_fail 8 = .ok (.aload_n 0, 1) := by decide +kernel
theorem dX12_fail_9 : decode cX12_fail 9 = .ok (.iload_n 1, 1) := by decide +kernel
theorem dX12_fail_10 : decode cX12_fail 10 = .ok (.putfield 249, 3) := by decide +kernel
theorem dX12_fail_13 : decode cX12_fail 13 = .ok (.aload_n 0, 1) := by decide +kernel
theorem dX12_fail_14 : decode cX12_fail 14 = .ok (.iload_n 2, 1) := by decide +kernel
theorem dX12_fail_15 : decode cX12_fail 15 = .ok (.putfield 252, 3) := by decide +kernel
theorem dX12_fail_18 : decode cX12_fail 18 = .ok (.return_, 1) := by decide +kernel
theorem dX12_wrong_0 : decode cX12_wrong 0 = .ok (.aload_n 0, 1) := by decide +kernel
theorem dX12_wrong_1 : decode cX12_wrong 1 = .ok (.aload_n 0, 1) := by decide +kernel
theorem dX12_wrong_2 : decode cX12_wrong 2 = .ok (.getfield 145, 3) := by decide +kernel
theorem dX12_wrong_5 : decode cX12_wrong 5 = .ok (.iconst 4, 1) := by decide +kernel
theorem dX12_wrong_6 : decode cX12_wrong 6 = .ok (.if_icmp .ne 7, 3) := by decide +kernel
theorem dX12_wrong_9 : decode cX12_wrong 9 = .ok (.iconst 1, 1) := by decide +kernel
theorem dX12_wrong_10 : decode cX12_wrong 10 = .ok (.goto 4, 3) := by decide +kernel
theorem dX12_wrong_13 : decode cX12_wrong 13 = .ok (.iconst 2, 1) := by decide +kernel
theorem dX12_wrong_14 : decode cX12_wrong 14 = .ok (.aload_n 0, 1) := by decide +kernel
theorem dX12_wrong_15 : decode cX12_wrong 15 = .ok (.getfield 139, 3) := by decide +kernel
theorem dX12_wrong_18 : decode cX12_wrong 18 = .ok (.invokevirtual 255, 3) := by decide +kernel
theorem dX12_wrong_21 : decode cX12_wrong 21 = .ok (.return_, 1) := by decide +kernel
theorem dX12_must_0 : decode cX12_must 0 = .ok (.aload_n 0, 1) := by decide +kernel
theorem dX12_must_1 : decode cX12_must 1 = .ok (.getfield 249, 3) := by decide +kernel
theorem dX12_must_4 : decode cX12_must 4 = .ok (.ifCond .le 4, 3) := by decide +kernel
theorem dX12_must_7 : decode cX12_must 7 = .ok (.return_, 1) := by decide +kernel
theorem dX12_must_8 : decode cX12_must 8 = .ok (.iload_n 1, 1) := by decide +kernel
theorem dX12_must_9 : decode cX12_must 9 = .ok (.ifCond .eq 10, 3) := by decide +kernel
theorem dX12_must_12 : decode cX12_must 12 = .ok (.aload_n 0, 1) := by decide +kernel
theorem dX12_must_13 : decode cX12_must 13 = .ok (.invokevirtual 259, 3) := by decide +kernel
theorem dX12_must_16 : decode cX12_must 16 = .ok (.goto 7, 3) := by decide +kernel
theorem dX12_must_19 : decode cX12_must 19 = .ok (.aload_n 0, 1) := by decide +kernel
theorem dX12_must_20 : decode cX12_must 20 = .ok (.invokevirtual 262, 3) := by decide +kernel
theorem dX12_must_23 : decode cX12_must 23 = .ok (.return_, 1) := by decide +kernel
theorem dX12_count_0 : decode cX12_count 0 = .ok (.aload_n 0, 1) := by decide +kernel
theorem dX12_count_1 : decode cX12_count 1 = .ok (.getfield 249, 3) := by decide +kernel
theorem dX12_count_4 : decode cX12_count 4 = .ok (.ifCond .ne 15, 3) := by decide +kernel
theorem dX12_count_7 : decode cX12_count 7 = .ok (.aload_n 0, 1) := by decide +kernel
theorem dX12_count_8 : decode cX12_count 8 = .ok (.getfield 145, 3) := by decide +kernel
theorem dX12_count_11 : decode cX12_count 11 = .ok (.iconst 2, 1) := by decide +kernel
theorem dX12_count_12 : decode cX12_count 12 = .ok (.if_icmp .eq 7, 3) := by decide +kernel
theorem dX12_count_15 : decode cX12_count 15 = .ok (.aload_n 0, 1) := by decide +kernel
theorem dX12_count_16 : decode cX12_count 16 = .ok (.invokevirtual 262, 3) := by decide +kernel
theorem dX12_count_19 : decode cX12_count 19 = .ok (.aload_n 0, 1) := by decide +kernel
theorem dX12_count_20 : decode cX12_count 20 = .ok (.getfield 249, 3) := by decide +kernel
theorem dX12_count_23 : decode cX12_count 23 = .ok (.ifCond .ne 27, 3) := by decide +kernel
theorem dX12_count_26 : decode cX12_count 26 = .ok (.aload_n 0, 1) := by decide +kernel
theorem dX12_count_27 : decode cX12_count 27 = .ok (.getfield 164, 3) := by decide +kernel
theorem dX12_count_30 : decode cX12_count 30 = .ok (.i2l, 1) := by decide +kernel
theorem dX12_count_31 : decode cX12_count 31 = .ok (.iload_n 1, 1) := by decide +kernel
theorem dX12_count_32 : decode cX12_count 32 = .ok (.i2l, 1) := by decide +kernel
theorem dX12_count_33 : decode cX12_count 33 = .ok (.iload_n 2, 1) := by decide +kernel
theorem dX12_count_34 : decode cX12_count 34 = .ok (.i2l, 1) := by decide +kernel
theorem dX12_count_35 : decode cX12_count 35 = .ok (.invokestatic 129, 3) := by decide +kernel
theorem dX12_count_38 : decode cX12_count 38 = .ok (.ifCond .ne 12, 3) := by decide +kernel
theorem dX12_count_41 : decode cX12_count 41 = .ok (.aload_n 0, 1) := by decide +kernel
theorem dX12_count_42 : decode cX12_count 42 = .ok (.iconst 4, 1) := by decide +kernel
theorem dX12_count_43 : decode cX12_count 43 = .ok (.aload_n 0, 1) := by decide +kernel
theorem dX12_count_44 : decode cX12_count 44 = .ok (.getfield 139, 3) := by decide +kernel
theorem dX12_count_47 : decode cX12_count 47 = .ok (.invokevirtual 255, 3) := by decide +kernel
theorem dX12_count_50 : decode cX12_count 50 = .ok (.aload_n 0, 1) := by decide +kernel
theorem dX12_count_51 : decode cX12_count 51 = .ok (.getfield 249, 3) := by decide +kernel
theorem dX12_count_54 : decode cX12_count 54 = .ok (.ifCond .le 5, 3) := by decide +kernel
theorem dX12_count_57 : decode cX12_count 57 = .ok (.iconst 0, 1) := by decide +kernel
theorem dX12_count_58 : decode cX12_count 58 = .ok (.ireturn, 1) := by decide +kernel
theorem dX12_count_59 : decode cX12_count 59 = .ok (.aload_n 0, 1) := by decide +kernel
theorem dX12_count_60 : decode cX12_count 60 = .ok (.getfield 164, 3) := by decide +kernel
theorem dX12_count_63 : decode cX12_count 63 = .ok (.istore_n 3, 1) := by decide +kernel
theorem dX12_count_64 : decode cX12_count 64 = .ok (.aload_n 0, 1) := by decide +kernel
theorem dX12_count_65 : decode cX12_count 65 = .ok (.invokevirtual 259, 3) := by decide +kernel
theorem dX12_count_68 : decode cX12_count 68 = .ok (.iload_n 3, 1) := by decide +kernel
theorem dX12_count_69 : decode cX12_count 69 = .ok (.ireturn, 1) := by decide +kernel
theorem dX12_feed_0 : decode cX12_feed 0 = .ok (.aload_n 0, 1) := by decide +kernel
theorem dX12_feed_1 : decode cX12_feed 1 = .ok (.iconst 0, 1) := by decide +kernel
theorem dX12_feed_2 : decode cX12_feed 2 = .ok (.putfield 90, 3) := by decide +kernel
theorem dX12_feed_5 : decode cX12_feed 5 = .ok (.aload_n 0, 1) := by decide +kernel
theorem dX12_feed_6 : decode cX12_feed 6 = .ok (.getfield 265, 3) := by decide +kernel
theorem dX12_feed_9 : decode cX12_feed 9 = .ok (.bipush 20, 2) := by decide +kernel
theorem dX12_feed_11 : decode cX12_feed 11 = .ok (.iadd, 1) := by decide +kernel
theorem dX12_feed_12 : decode cX12_feed 12 = .ok (.sipush 900, 3) := by decide +kernel
theorem dX12_feed_15 : decode cX12_feed 15 = .ok (.if_icmp .le 5, 3) := by decide +kernel
theorem dX12_feed_18 : decode cX12_feed 18 = .ok (.iconst (-1), 1) := by decide +kernel
theorem dX12_feed_19 : decode cX12_feed 19 = .ok (.ireturn, 1) := by decide +kernel
theorem dX12_feed_20 : decode cX12_feed 20 = .ok (.aload_n 0, 1) := by decide +kernel
theorem dX12_feed_21 : decode cX12_feed 21 = .ok (.iload_n 1, 1) := by decide +kernel
theorem dX12_feed_22 : decode cX12_feed 22 = .ok (.invokevirtual 268, 3) := by decide +kernel
theorem dX12_feed_25 : decode cX12_feed 25 = .ok (.aload_n 0, 1) := by decide +kernel
theorem dX12_feed_26 : decode cX12_feed 26 = .ok (.iload_n 2, 1) := by decide +kernel
theorem dX12_feed_27 : decode cX12_feed 27 = .ok (.invokevirtual 268, 3) := by decide +kernel
theorem dX12_feed_30 : decode cX12_feed 30 = .ok (.aload_n 0, 1) := by decide +kernel
theorem dX12_feed_31 : decode cX12_feed 31 = .ok (.iload_n 3, 1) := by decide +kernel
theorem dX12_feed_32 : decode cX12_feed 32 = .ok (.invokevirtual 268, 3) := by decide +kernel
theorem dX12_feed_35 : decode cX12_feed 35 = .ok (.aload_n 0, 1) := by decide +kernel
theorem dX12_feed_36 : decode cX12_feed 36 = .ok (.iload 4, 2) := by decide +kernel
theorem dX12_feed_38 : decode cX12_feed 38 = .ok (.invokevirtual 268, 3) := by decide +kernel
theorem dX12_feed_41 : decode cX12_feed 41 = .ok (.aload_n 0, 1) := by decide +kernel
theorem dX12_feed_42 : decode cX12_feed 42 = .ok (.iload 5, 2) := by decide +kernel
theorem dX12_feed_44 : decode cX12_feed 44 = .ok (.invokevirtual 268, 3) := by decide +kernel
theorem dX12_feed_47 : decode cX12_feed 47 = .ok (.aload_n 0, 1) := by decide +kernel
theorem dX12_feed_48 : decode cX12_feed 48 = .ok (.getfield 265, 3) := by decide +kernel
theorem dX12_feed_51 : decode cX12_feed 51 = .ok (.ireturn, 1) := by decide +kernel
theorem dX12_lay_0 : decode cX12_lay 0 = .ok (.iconst 3, 1) := by decide +kernel
theorem dX12_lay_1 : decode cX12_lay 1 = .ok (.istore_n 2, 1) := by decide +kernel
theorem dX12_lay_2 : decode cX12_lay 2 = .ok (.iload_n 2, 1) := by decide +kernel
theorem dX12_lay_3 : decode cX12_lay 3 = .ok (.ifCond .lt 35, 3) := by decide +kernel
theorem dX12_lay_6 : decode cX12_lay 6 = .ok (.aload_n 0, 1) := by decide +kernel
theorem dX12_lay_7 : decode cX12_lay 7 = .ok (.getfield 24, 3) := by decide +kernel
theorem dX12_lay_10 : decode cX12_lay 10 = .ok (.aload_n 0, 1) := by decide +kernel
theorem dX12_lay_11 : decode cX12_lay 11 = .ok (.getfield 265, 3) := by decide +kernel
theorem dX12_lay_14 : decode cX12_lay 14 = .ok (.iload_n 1, 1) := by decide +kernel
theorem dX12_lay_15 : decode cX12_lay 15 = .ok (.bipush 8, 2) := by decide +kernel
theorem dX12_lay_17 : decode cX12_lay 17 = .ok (.iload_n 2, 1) := by decide +kernel
theorem dX12_lay_18 : decode cX12_lay 18 = .ok (.imul, 1) := by decide +kernel
theorem dX12_lay_19 : decode cX12_lay 19 = .ok (.ishr, 1) := by decide +kernel
theorem dX12_lay_20 : decode cX12_lay 20 = .ok (.i2b, 1) := by decide +kernel
theorem dX12_lay_21 : decode cX12_lay 21 = .ok (.bastore, 1) := by decide +kernel
theorem dX12_lay_22 : decode cX12_lay 22 = .ok (.aload_n 0, 1) := by decide +kernel
theorem dX12_lay_23 : decode cX12_lay 23 = .ok (.dup, 1) := by decide +kernel
theorem dX12_lay_24 : decode cX12_lay 24 = .ok (.getfield 265, 3) := by decide +kernel
theorem dX12_lay_27 : decode cX12_lay 27 = .ok (.iconst 1, 1) := by decide +kernel
theorem dX12_lay_28 : decode cX12_lay 28 = .ok (.iadd, 1) := by decide +kernel
theorem dX12_lay_29 : decode cX12_lay 29 = .ok (.putfield 265, 3) := by decide +kernel
theorem dX12_lay_32 : decode cX12_lay 32 = .ok (.iinc 2 (-1), 3) := by decide +kernel
theorem dX12_lay_35 : decode cX12_lay 35 = .ok (.goto (-33), 3) := by decide +kernel
theorem dX12_lay_38 : decode cX12_lay 38 = .ok (.return_, 1) := by decide +kernel
theorem dX12_opens_0 : decode cX12_opens 0 = .ok (.iload_n 1, 1) := by decide +kernel
theorem dX12_opens_1 : decode cX12_opens 1 = .ok (.ifCond .lt 16, 3) := by decide +kernel
theorem dX12_opens_4 : decode cX12_opens 4 = .ok (.iload_n 1, 1) := by decide +kernel
theorem dX12_opens_5 : decode cX12_opens 5 = .ok (.aload_n 0, 1) := by decide +kernel
theorem dX12_opens_6 : decode cX12_opens 6 = .ok (.getfield 265, 3) := by decide +kernel
theorem dX12_opens_9 : decode cX12_opens 9 = .ok (.if_icmp .gt 8, 3) := by decide +kernel
theorem dX12_opens_12 : decode cX12_opens 12 = .ok (.iload_n 1, 1) := by decide +kernel
theorem dX12_opens_13 : decode cX12_opens 13 = .ok (.iload_n 2, 1) := by decide +kernel
theorem dX12_opens_14 : decode cX12_opens 14 = .ok (.if_icmp .le 9, 3) := by decide +kernel
theorem dX12_opens_17 : decode cX12_opens 17 = .ok (.aload_n 0, 1) := by decide +kernel
theorem dX12_opens_18 : decode cX12_opens 18 = .ok (.iconst 5, 1) := by decide +kernel
theorem dX12_opens_19 : decode cX12_opens 19 = .ok (.invokevirtual 109, 3) := by decide +kernel
theorem dX12_opens_22 : decode cX12_opens 22 = .ok (.ireturn, 1) := by decide +kernel
theorem dX12_opens_23 : decode cX12_opens 23 = .ok (.aload_n 0, 1) := by decide +kernel
theorem dX12_opens_24 : decode cX12_opens 24 = .ok (.iload_n 1, 1) := by decide +kernel
theorem dX12_opens_25 : decode cX12_opens 25 = .ok (.putfield 133, 3) := by decide +kernel
theorem dX12_opens_28 : decode cX12_opens 28 = .ok (.aload_n 0, 1) := by decide +kernel
theorem dX12_opens_29 : decode cX12_opens 29 = .ok (.iconst 0, 1) := by decide +kernel
theorem dX12_opens_30 : decode cX12_opens 30 = .ok (.putfield 265, 3) := by decide +kernel
theorem dX12_opens_33 : decode cX12_opens 33 = .ok (.aload_n 0, 1) := by decide +kernel
theorem dX12_opens_34 : decode cX12_opens 34 = .ok (.iconst 0, 1) := by decide +kernel
theorem dX12_opens_35 : decode cX12_opens 35 = .ok (.putfield 136, 3) := by decide +kernel
theorem dX12_opens_38 : decode cX12_opens 38 = .ok (.aload_n 0, 1) := by decide +kernel
theorem dX12_opens_39 : decode cX12_opens 39 = .ok (.iconst 0, 1) := by decide +kernel
theorem dX12_opens_40 : decode cX12_opens 40 = .ok (.putfield 249, 3) := by decide +kernel
theorem dX12_opens_43 : decode cX12_opens 43 = .ok (.aload_n 0, 1) := by decide +kernel
theorem dX12_opens_44 : decode cX12_opens 44 = .ok (.invokevirtual 259, 3) := by decide +kernel
theorem dX12_opens_47 : decode cX12_opens 47 = .ok (.iconst 1, 1) := by decide +kernel
theorem dX12_opens_48 : decode cX12_opens 48 = .ok (.ireturn, 1) := by decide +kernel
theorem dX12_isWell_0 : decode cX12_isWell 0 = .ok (.aload_n 0, 1) := by decide +kernel
theorem dX12_isWell_1 : decode cX12_isWell 1 = .ok (.aload_n 0, 1) := by decide +kernel
theorem dX12_isWell_2 : decode cX12_isWell 2 = .ok (.getfield 249, 3) := by decide +kernel
theorem dX12_isWell_5 : decode cX12_isWell 5 = .ok (.putfield 28, 3) := by decide +kernel
theorem dX12_isWell_8 : decode cX12_isWell 8 = .ok (.aload_n 0, 1) := by decide +kernel
theorem dX12_isWell_9 : decode cX12_isWell 9 = .ok (.aload_n 0, 1) := by decide +kernel
theorem dX12_isWell_10 : decode cX12_isWell 10 = .ok (.getfield 249, 3) := by decide +kernel
theorem dX12_isWell_13 : decode cX12_isWell 13 = .ok (.ifCond .ne 7, 3) := by decide +kernel
theorem dX12_isWell_16 : decode cX12_isWell 16 = .ok (.iconst (-1), 1) := by decide +kernel
theorem dX12_isWell_17 : decode cX12_isWell 17 = .ok (.goto 7, 3) := by decide +kernel
theorem dX12_isWell_20 : decode cX12_isWell 20 = .ok (.aload_n 0, 1) := by decide +kernel
theorem dX12_isWell_21 : decode cX12_isWell 21 = .ok (.getfield 252, 3) := by decide +kernel
theorem dX12_isWell_24 : decode cX12_isWell 24 = .ok (.putfield 32, 3) := by decide +kernel
theorem dX12_isWell_27 : decode cX12_isWell 27 = .ok (.aload_n 0, 1) := by decide +kernel
theorem dX12_isWell_28 : decode cX12_isWell 28 = .ok (.getfield 249, 3) := by decide +kernel
theorem dX12_isWell_31 : decode cX12_isWell 31 = .ok (.ifCond .eq 12, 3) := by decide +kernel
theorem dX12_isWell_34 : decode cX12_isWell 34 = .ok (.aload_n 0, 1) := by decide +kernel
theorem dX12_isWell_35 : decode cX12_isWell 35 = .ok (.bipush 10, 2) := by decide +kernel
theorem dX12_isWell_37 : decode cX12_isWell 37 = .ok (.invokevirtual 109, 3) := by decide +kernel
theorem dX12_isWell_40 : decode cX12_isWell 40 = .ok (.ifCond .eq 7, 3) := by decide +kernel
theorem dX12_isWell_43 : decode cX12_isWell 43 = .ok (.iconst 1, 1) := by decide +kernel
theorem dX12_isWell_44 : decode cX12_isWell 44 = .ok (.goto 4, 3) := by decide +kernel
theorem dX12_isWell_47 : decode cX12_isWell 47 = .ok (.iconst 0, 1) := by decide +kernel
theorem dX12_isWell_48 : decode cX12_isWell 48 = .ok (.ireturn, 1) := by decide +kernel
theorem dX12_fault_0 : decode cX12_fault 0 = .ok (.aload_n 0, 1) := by decide +kernel
theorem dX12_fault_1 : decode cX12_fault 1 = .ok (.iconst 0, 1) := by decide +kernel
theorem dX12_fault_2 : decode cX12_fault 2 = .ok (.putfield 90, 3) := by decide +kernel
theorem dX12_fault_5 : decode cX12_fault 5 = .ok (.iload_n 1, 1) := by decide +kernel
theorem dX12_fault_6 : decode cX12_fault 6 = .ok (.ifCond .ne 10, 3) := by decide +kernel
theorem dX12_fault_9 : decode cX12_fault 9 = .ok (.aload_n 0, 1) := by decide +kernel
theorem dX12_fault_10 : decode cX12_fault 10 = .ok (.getfield 28, 3) := by decide +kernel
theorem dX12_fault_13 : decode cX12_fault 13 = .ok (.goto 16, 3) := by decide +kernel
theorem dX12_fault_16 : decode cX12_fault 16 = .ok (.iload_n 1, 1) := by decide +kernel
theorem dX12_fault_17 : decode cX12_fault 17 = .ok (.iconst 1, 1) := by decide +kernel
theorem dX12_fault_18 : decode cX12_fault 18 = .ok (.if_icmp .ne 10, 3) := by decide +kernel
theorem dX12_fault_21 : decode cX12_fault 21 = .ok (.aload_n 0, 1) := by decide +kernel
theorem dX12_fault_22 : decode cX12_fault 22 = .ok (.getfield 32, 3) := by decide +kernel
theorem dX12_fault_25 : decode cX12_fault 25 = .ok (.goto 4, 3) := by decide +kernel
theorem dX12_fault_28 : decode cX12_fault 28 = .ok (.iconst (-1), 1) := by decide +kernel
theorem dX12_fault_29 : decode cX12_fault 29 = .ok (.ireturn, 1) := by decide +kernel
theorem dX12_named_0 : decode cX12_named 0 = .ok (.iconst 0, 1) := by decide +kernel
theorem dX12_named_1 : decode cX12_named 1 = .ok (.istore 4, 2) := by decide +kernel
theorem dX12_named_3 : decode cX12_named 3 = .ok (.iload 4, 2) := by decide +kernel
theorem dX12_named_5 : decode cX12_named 5 = .ok (.iload_n 3, 1) := by decide +kernel
theorem dX12_named_6 : decode cX12_named 6 = .ok (.if_icmp .ge 34, 3) := by decide +kernel
theorem dX12_named_9 : decode cX12_named 9 = .ok (.aload_n 0, 1) := by decide +kernel
theorem dX12_named_10 : decode cX12_named 10 = .ok (.getfield 41, 3) := by decide +kernel
theorem dX12_named_13 : decode cX12_named 13 = .ok (.bipush 28, 2) := by decide +kernel
theorem dX12_named_15 : decode cX12_named 15 = .ok (.iload_n 1, 1) := by decide +kernel
theorem dX12_named_16 : decode cX12_named 16 = .ok (.imul, 1) := by decide +kernel
theorem dX12_named_17 : decode cX12_named 17 = .ok (.iload_n 2, 1) := by decide +kernel
theorem dX12_named_18 : decode cX12_named 18 = .ok (.iadd, 1) := by decide +kernel
theorem dX12_named_19 : decode cX12_named 19 = .ok (.iload 4, 2) := by decide +kernel
theorem dX12_named_21 : decode cX12_named 21 = .ok (.iadd, 1) := by decide +kernel
theorem dX12_named_22 : decode cX12_named 22 = .ok (.laload, 1) := by decide +kernel
theorem dX12_named_23 : decode cX12_named 23 = .ok (.aload_n 0, 1) := by decide +kernel
theorem dX12_named_24 : decode cX12_named 24 = .ok (.getfield 151, 3) := by decide +kernel
theorem dX12_named_27 : decode cX12_named 27 = .ok (.lcmp, 1) := by decide +kernel
theorem dX12_named_28 : decode cX12_named 28 = .ok (.ifCond .ne 6, 3) := by decide +kernel
theorem dX12_named_31 : decode cX12_named 31 = .ok (.iload 4, 2) := by decide +kernel
theorem dX12_named_33 : decode cX12_named 33 = .ok (.ireturn, 1) := by decide +kernel
theorem dX12_named_34 : decode cX12_named 34 = .ok (.iinc 4 1, 3) := by decide +kernel
theorem dX12_named_37 : decode cX12_named 37 = .ok (.goto (-34), 3) := by decide +kernel
theorem dX12_named_40 : decode cX12_named 40 = .ok (.iconst (-1), 1) := by decide +kernel
theorem dX12_named_41 : decode cX12_named 41 = .ok (.ireturn, 1) := by decide +kernel
theorem dX12_isTaken_0 : decode cX12_isTaken 0 = .ok (.aload_n 0, 1) := by decide +kernel
theorem dX12_isTaken_1 : decode cX12_isTaken 1 = .ok (.iconst 4, 1) := by decide +kernel
theorem dX12_isTaken_2 : decode cX12_isTaken 2 = .ok (.iconst 0, 1) := by decide +kernel
theorem dX12_isTaken_3 : decode cX12_isTaken 3 = .ok (.aload_n 0, 1) := by decide +kernel
theorem dX12_isTaken_4 : decode cX12_isTaken 4 = .ok (.getfield 35, 3) := by decide +kernel
theorem dX12_isTaken_7 : decode cX12_isTaken 7 = .ok (.sipush 1720, 3) := by decide +kernel
theorem dX12_isTaken_10 : decode cX12_isTaken 10 = .ok (.iaload, 1) := by decide +kernel
theorem dX12_isTaken_11 : decode cX12_isTaken 11 = .ok (.invokevirtual 272, 3) := by decide +kernel
theorem dX12_isTaken_14 : decode cX12_isTaken 14 = .ok (.ifCond .ge 21, 3) := by decide +kernel
theorem dX12_isTaken_17 : decode cX12_isTaken 17 = .ok (.aload_n 0, 1) := by decide +kernel
theorem dX12_isTaken_18 : decode cX12_isTaken 18 = .ok (.iconst 4, 1) := by decide +kernel
theorem dX12_isTaken_19 : decode cX12_isTaken 19 = .ok (.bipush 6, 2) := by decide +kernel
theorem dX12_isTaken_21 : decode cX12_isTaken 21 = .ok (.aload_n 0, 1) := by decide +kernel
theorem dX12_isTaken_22 : decode cX12_isTaken 22 = .ok (.getfield 35, 3) := by decide +kernel
theorem dX12_isTaken_25 : decode cX12_isTaken 25 = .ok (.sipush 1721, 3) := by decide +kernel
theorem dX12_isTaken_28 : decode cX12_isTaken 28 = .ok (.iaload, 1) := by decide +kernel
theorem dX12_isTaken_29 : decode cX12_isTaken 29 = .ok (.invokevirtual 272, 3) := by decide +kernel
theorem dX12_isTaken_32 : decode cX12_isTaken 32 = .ok (.ifCond .lt 7, 3) := by decide +kernel
theorem dX12_isTaken_35 : decode cX12_isTaken 35 = .ok (.iconst 1, 1) := by decide +kernel
theorem dX12_isTaken_36 : decode cX12_isTaken 36 = .ok (.goto 4, 3) := by decide +kernel
theorem dX12_isTaken_39 : decode cX12_isTaken 39 = .ok (.iconst 0, 1) := by decide +kernel
theorem dX12_isTaken_40 : decode cX12_isTaken 40 = .ok (.istore_n 1, 1) := by decide +kernel
theorem dX12_isTaken_41 : decode cX12_isTaken 41 = .ok (.iload_n 1, 1) := by decide +kernel
theorem dX12_isTaken_42 : decode cX12_isTaken 42 = .ok (.ifCond .ne 39, 3) := by decide +kernel
theorem dX12_isTaken_45 : decode cX12_isTaken 45 = .ok (.aload_n 0, 1) := by decide +kernel
theorem dX12_isTaken_46 : decode cX12_isTaken 46 = .ok (.iconst 4, 1) := by decide +kernel
theorem dX12_isTaken_47 : decode cX12_isTaken 47 = .ok (.bipush 12, 2) := by decide +kernel
theorem dX12_isTaken_49 : decode cX12_isTaken 49 = .ok (.aload_n 0, 1) := by decide +kernel
theorem dX12_isTaken_50 : decode cX12_isTaken 50 = .ok (.getfield 35, 3) := by decide +kernel
theorem dX12_isTaken_53 : decode cX12_isTaken 53 = .ok (.sipush 1722, 3) := by decide +kernel
theorem dX12_isTaken_56 : decode cX12_isTaken 56 = .ok (.iaload, 1) := by decide +kernel
theorem dX12_isTaken_57 : decode cX12_isTaken 57 = .ok (.invokevirtual 272, 3) := by decide +kernel
theorem dX12_isTaken_60 : decode cX12_isTaken 60 = .ok (.ifCond .ge 21, 3) := by decide +kernel
theorem dX12_isTaken_63 : decode cX12_isTaken 63 = .ok (.aload_n 0, 1) := by decide +kernel
theorem dX12_isTaken_64 : decode cX12_isTaken 64 = .ok (.iconst 4, 1) := by decide +kernel
theorem dX12_isTaken_65 : decode cX12_isTaken 65 = .ok (.bipush 24, 2) := by decide +kernel
theorem dX12_isTaken_67 : decode cX12_isTaken 67 = .ok (.aload_n 0, 1) := by decide +kernel
theorem dX12_isTaken_68 : decode cX12_isTaken 68 = .ok (.getfield 35, 3) := by decide +kernel
theorem dX12_isTaken_71 : decode cX12_isTaken 71 = .ok (.sipush 1723, 3) := by decide +kernel
theorem dX12_isTaken_74 : decode cX12_isTaken 74 = .ok (.iaload, 1) := by decide +kernel
theorem dX12_isTaken_75 : decode cX12_isTaken 75 = .ok (.invokevirtual 272, 3) := by decide +kernel
theorem dX12_isTaken_78 : decode cX12_isTaken 78 = .ok (.ifCond .lt 7, 3) := by decide +kernel
theorem dX12_isTaken_81 : decode cX12_isTaken 81 = .ok (.iconst 1, 1) := by decide +kernel
theorem dX12_isTaken_82 : decode cX12_isTaken 82 = .ok (.goto 4, 3) := by decide +kernel
theorem dX12_isTaken_85 : decode cX12_isTaken 85 = .ok (.iconst 0, 1) := by decide +kernel
theorem dX12_isTaken_86 : decode cX12_isTaken 86 = .ok (.ireturn, 1) := by decide +kernel
theorem dX12_readNew_0 : decode cX12_readNew 0 = .ok (.aload_n 0, 1) := by decide +kernel
theorem dX12_readNew_1 : decode cX12_readNew 1 = .ok (.invokevirtual 259, 3) := by decide +kernel
theorem dX12_readNew_4 : decode cX12_readNew 4 = .ok (.aload_n 0, 1) := by decide +kernel
theorem dX12_readNew_5 : decode cX12_readNew 5 = .ok (.invokevirtual 276, 3) := by decide +kernel
theorem dX12_readNew_8 : decode cX12_readNew 8 = .ok (.ifCond .ne 7, 3) := by decide +kernel
theorem dX12_readNew_11 : decode cX12_readNew 11 = .ok (.aload_n 0, 1) := by decide +kernel
theorem dX12_readNew_12 : decode cX12_readNew 12 = .ok (.invokevirtual 262, 3) := by decide +kernel
theorem dX12_readNew_15 : decode cX12_readNew 15 = .ok (.aload_n 0, 1) := by decide +kernel
theorem dX12_readNew_16 : decode cX12_readNew 16 = .ok (.getfield 249, 3) := by decide +kernel
theorem dX12_readNew_19 : decode cX12_readNew 19 = .ok (.ifCond .ne 19, 3) := by decide +kernel
theorem dX12_readNew_22 : decode cX12_readNew 22 = .ok (.aload_n 0, 1) := by decide +kernel
theorem dX12_readNew_23 : decode cX12_readNew 23 = .ok (.invokevirtual 279, 3) := by decide +kernel
theorem dX12_readNew_26 : decode cX12_readNew 26 = .ok (.ifCond .eq 12, 3) := by decide +kernel
theorem dX12_readNew_29 : decode cX12_readNew 29 = .ok (.aload_n 0, 1) := by decide +kernel
theorem dX12_readNew_30 : decode cX12_readNew 30 = .ok (.iconst 3, 1) := by decide +kernel
theorem dX12_readNew_31 : decode cX12_readNew 31 = .ok (.aload_n 0, 1) := by decide +kernel
theorem dX12_readNew_32 : decode cX12_readNew 32 = .ok (.getfield 139, 3) := by decide +kernel
theorem dX12_readNew_35 : decode cX12_readNew 35 = .ok (.invokevirtual 255, 3) := by decide +kernel
theorem dX12_readNew_38 : decode cX12_readNew 38 = .ok (.aload_n 0, 1) := by decide +kernel
theorem dX12_readNew_39 : decode cX12_readNew 39 = .ok (.getfield 249, 3) := by decide +kernel
theorem dX12_readNew_42 : decode cX12_readNew 42 = .ok (.ifCond .le 4, 3) := by decide +kernel
theorem dX12_readNew_45 : decode cX12_readNew 45 = .ok (.return_, 1) := by decide +kernel
theorem dX12_readNew_46 : decode cX12_readNew 46 = .ok (.aload_n 0, 1) := by decide +kernel
theorem dX12_readNew_47 : decode cX12_readNew 47 = .ok (.getfield 41, 3) := by decide +kernel
theorem dX12_readNew_50 : decode cX12_readNew 50 = .ok (.bipush 112, 2) := by decide +kernel
theorem dX12_readNew_52 : decode cX12_readNew 52 = .ok (.iload_n 1, 1) := by decide +kernel
theorem dX12_readNew_53 : decode cX12_readNew 53 = .ok (.iadd, 1) := by decide +kernel
theorem dX12_readNew_54 : decode cX12_readNew 54 = .ok (.iload_n 2, 1) := by decide +kernel
theorem dX12_readNew_55 : decode cX12_readNew 55 = .ok (.iadd, 1) := by decide +kernel
theorem dX12_readNew_56 : decode cX12_readNew 56 = .ok (.aload_n 0, 1) := by decide +kernel
theorem dX12_readNew_57 : decode cX12_readNew 57 = .ok (.getfield 151, 3) := by decide +kernel
theorem dX12_readNew_60 : decode cX12_readNew 60 = .ok (.lastore, 1) := by decide +kernel
theorem dX12_readNew_61 : decode cX12_readNew 61 = .ok (.aload_n 0, 1) := by decide +kernel
theorem dX12_readNew_62 : decode cX12_readNew 62 = .ok (.invokevirtual 259, 3) := by decide +kernel
theorem dX12_readNew_65 : decode cX12_readNew 65 = .ok (.return_, 1) := by decide +kernel
theorem dX12_readTold_0 : decode cX12_readTold 0 = .ok (.aload_n 0, 1) := by decide +kernel
theorem dX12_readTold_1 : decode cX12_readTold 1 = .ok (.getfield 249, 3) := by decide +kernel
theorem dX12_readTold_4 : decode cX12_readTold 4 = .ok (.ifCond .ne 14, 3) := by decide +kernel
theorem dX12_readTold_7 : decode cX12_readTold 7 = .ok (.aload_n 0, 1) := by decide +kernel
theorem dX12_readTold_8 : decode cX12_readTold 8 = .ok (.invokevirtual 276, 3) := by decide +kernel
theorem dX12_readTold_11 : decode cX12_readTold 11 = .ok (.ifCond .ne 7, 3) := by decide +kernel
theorem dX12_readTold_14 : decode cX12_readTold 14 = .ok (.aload_n 0, 1) := by decide +kernel
theorem dX12_readTold_15 : decode cX12_readTold 15 = .ok (.invokevirtual 262, 3) := by decide +kernel
theorem dX12_readTold_18 : decode cX12_readTold 18 = .ok (.aload_n 0, 1) := by decide +kernel
theorem dX12_readTold_19 : decode cX12_readTold 19 = .ok (.getfield 249, 3) := by decide +kernel
theorem dX12_readTold_22 : decode cX12_readTold 22 = .ok (.ifCond .ne 13, 3) := by decide +kernel
theorem dX12_readTold_25 : decode cX12_readTold 25 = .ok (.aload_n 0, 1) := by decide +kernel
theorem dX12_readTold_26 : decode cX12_readTold 26 = .ok (.iload_n 1, 1) := by decide +kernel
theorem dX12_readTold_27 : decode cX12_readTold 27 = .ok (.iload_n 2, 1) := by decide +kernel
theorem dX12_readTold_28 : decode cX12_readTold 28 = .ok (.iload_n 3, 1) := by decide +kernel
theorem dX12_readTold_29 : decode cX12_readTold 29 = .ok (.invokevirtual 272, 3) := by decide +kernel
theorem dX12_readTold_32 : decode cX12_readTold 32 = .ok (.goto 4, 3) := by decide +kernel
theorem dX12_readTold_35 : decode cX12_readTold 35 = .ok (.iconst 0, 1) := by decide +kernel
theorem dX12_readTold_36 : decode cX12_readTold 36 = .ok (.istore 4, 2) := by decide +kernel
theorem dX12_readTold_38 : decode cX12_readTold 38 = .ok (.aload_n 0, 1) := by decide +kernel
theorem dX12_readTold_39 : decode cX12_readTold 39 = .ok (.getfield 249, 3) := by decide +kernel
theorem dX12_readTold_42 : decode cX12_readTold 42 = .ok (.ifCond .ne 17, 3) := by decide +kernel
theorem dX12_readTold_45 : decode cX12_readTold 45 = .ok (.iload 4, 2) := by decide +kernel
theorem dX12_readTold_47 : decode cX12_readTold 47 = .ok (.ifCond .ge 12, 3) := by decide +kernel
theorem dX12_readTold_50 : decode cX12_readTold 50 = .ok (.aload_n 0, 1) := by decide +kernel
theorem dX12_readTold_51 : decode cX12_readTold 51 = .ok (.iconst 3, 1) := by decide +kernel
theorem dX12_readTold_52 : decode cX12_readTold 52 = .ok (.aload_n 0, 1) := by decide +kernel
theorem dX12_readTold_53 : decode cX12_readTold 53 = .ok (.getfield 139, 3) := by decide +kernel
theorem dX12_readTold_56 : decode cX12_readTold 56 = .ok (.invokevirtual 255, 3) := by decide +kernel
theorem dX12_readTold_59 : decode cX12_readTold 59 = .ok (.aload_n 0, 1) := by decide +kernel
theorem dX12_readTold_60 : decode cX12_readTold 60 = .ok (.iconst 1, 1) := by decide +kernel
theorem dX12_readTold_61 : decode cX12_readTold 61 = .ok (.invokevirtual 282, 3) := by decide +kernel
theorem dX12_readTold_64 : decode cX12_readTold 64 = .ok (.iload 4, 2) := by decide +kernel
theorem dX12_readTold_66 : decode cX12_readTold 66 = .ok (.ireturn, 1) := by decide +kernel
theorem dX12_readRoles_0 : decode cX12_readRoles 0 = .ok (.aload_n 0, 1) := by decide +kernel
theorem dX12_readRoles_1 : decode cX12_readRoles 1 = .ok (.invokevirtual 259, 3) := by decide +kernel
theorem dX12_readRoles_4 : decode cX12_readRoles 4 = .ok (.iconst 0, 1) := by decide +kernel
theorem dX12_readRoles_5 : decode cX12_readRoles 5 = .ok (.istore_n 1, 1) := by decide +kernel
theorem dX12_readRoles_6 : decode cX12_readRoles 6 = .ok (.iconst 1, 1) := by decide +kernel
theorem dX12_readRoles_7 : decode cX12_readRoles 7 = .ok (.istore_n 2, 1) := by decide +kernel
theorem dX12_readRoles_8 : decode cX12_readRoles 8 = .ok (.iload_n 2, 1) := by decide +kernel
theorem dX12_readRoles_9 : decode cX12_readRoles 9 = .ok (.ifCond .eq 105, 3) := by decide +kernel
theorem dX12_readRoles_12 : decode cX12_readRoles 12 = .ok (.aload_n 0, 1) := by decide +kernel
theorem dX12_readRoles_13 : decode cX12_readRoles 13 = .ok (.getfield 249, 3) := by decide +kernel
theorem dX12_readRoles_16 : decode cX12_readRoles 16 = .ok (.ifCond .ne 98, 3) := by decide +kernel
theorem dX12_readRoles_19 : decode cX12_readRoles 19 = .ok (.aload_n 0, 1) := by decide +kernel
theorem dX12_readRoles_20 : decode cX12_readRoles 20 = .ok (.getfield 139, 3) := by decide +kernel
theorem dX12_readRoles_23 : decode cX12_readRoles 23 = .ok (.istore_n 3, 1) := by decide +kernel
theorem dX12_readRoles_24 : decode cX12_readRoles 24 = .ok (.aload_n 0, 1) := by decide +kernel
theorem dX12_readRoles_25 : decode cX12_readRoles 25 = .ok (.iconst 4, 1) := by decide +kernel
theorem dX12_readRoles_26 : decode cX12_readRoles 26 = .ok (.iconst 0, 1) := by decide +kernel
theorem dX12_readRoles_27 : decode cX12_readRoles 27 = .ok (.aload_n 0, 1) := by decide +kernel
theorem dX12_readRoles_28 : decode cX12_readRoles 28 = .ok (.getfield 35, 3) := by decide +kernel
theorem dX12_readRoles_31 : decode cX12_readRoles 31 = .ok (.sipush 1720, 3) := by decide +kernel
theorem dX12_readRoles_34 : decode cX12_readRoles 34 = .ok (.iaload, 1) := by decide +kernel
theorem dX12_readRoles_35 : decode cX12_readRoles 35 = .ok (.invokevirtual 286, 3) := by decide +kernel
theorem dX12_readRoles_38 : decode cX12_readRoles 38 = .ok (.istore 4, 2) := by decide +kernel
theorem dX12_readRoles_40 : decode cX12_readRoles 40 = .ok (.aload_n 0, 1) := by decide +kernel
theorem dX12_readRoles_41 : decode cX12_readRoles 41 = .ok (.getfield 249, 3) := by decide +kernel
theorem dX12_readRoles_44 : decode cX12_readRoles 44 = .ok (.ifCond .ne 19, 3) := by decide +kernel
theorem dX12_readRoles_47 : decode cX12_readRoles 47 = .ok (.iload_n 1, 1) := by decide +kernel
theorem dX12_readRoles_48 : decode cX12_readRoles 48 = .ok (.iload 4, 2) := by decide +kernel
theorem dX12_readRoles_50 : decode cX12_readRoles 50 = .ok (.ishr, 1) := by decide +kernel
theorem dX12_readRoles_51 : decode cX12_readRoles 51 = .ok (.iconst 1, 1) := by decide +kernel
theorem dX12_readRoles_52 : decode cX12_readRoles 52 = .ok (.iand, 1) := by decide +kernel
theorem dX12_readRoles_53 : decode cX12_readRoles 53 = .ok (.iconst 1, 1) := by decide +kernel
theorem dX12_readRoles_54 : decode cX12_readRoles 54 = .ok (.if_icmp .ne 9, 3) := by decide +kernel
theorem dX12_readRoles_57 : decode cX12_readRoles 57 = .ok (.aload_n 0, 1) := by decide +kernel
theorem dX12_readRoles_58 : decode cX12_readRoles 58 = .ok (.iconst 5, 1) := by decide +kernel
theorem dX12_readRoles_59 : decode cX12_readRoles 59 = .ok (.iload_n 3, 1) := by decide +kernel
theorem dX12_readRoles_60 : decode cX12_readRoles 60 = .ok (.invokevirtual 255, 3) := by decide +kernel
theorem dX12_readRoles_63 : decode cX12_readRoles 63 = .ok (.iload_n 1, 1) := by decide +kernel
theorem dX12_readRoles_64 : decode cX12_readRoles 64 = .ok (.aload_n 0, 1) := by decide +kernel
theorem dX12_readRoles_65 : decode cX12_readRoles 65 = .ok (.getfield 249, 3) := by decide +kernel
theorem dX12_readRoles_68 : decode cX12_readRoles 68 = .ok (.ifCond .ne 10, 3) := by decide +kernel
theorem dX12_readRoles_71 : decode cX12_readRoles 71 = .ok (.iconst 1, 1) := by decide +kernel
theorem dX12_readRoles_72 : decode cX12_readRoles 72 = .ok (.iload 4, 2) := by decide +kernel
theorem dX12_readRoles_74 : decode cX12_readRoles 74 = .ok (.ishl, 1) := by decide +kernel
theorem dX12_readRoles_75 : decode cX12_readRoles 75 = .ok (.goto 4, 3) := by decide +kernel
theorem dX12_readRoles_78 : decode cX12_readRoles 78 = .ok (.iconst 0, 1) := by decide +kernel
theorem dX12_readRoles_79 : decode cX12_readRoles 79 = .ok (.ior, 1) := by decide +kernel
theorem dX12_readRoles_80 : decode cX12_readRoles 80 = .ok (.istore_n 1, 1) := by decide +kernel
theorem dX12_readRoles_81 : decode cX12_readRoles 81 = .ok (.aload_n 0, 1) := by decide +kernel
theorem dX12_readRoles_82 : decode cX12_readRoles 82 = .ok (.invokevirtual 276, 3) := by decide +kernel
theorem dX12_readRoles_85 : decode cX12_readRoles 85 = .ok (.ifCond .ne 20, 3) := by decide +kernel
theorem dX12_readRoles_88 : decode cX12_readRoles 88 = .ok (.aload_n 0, 1) := by decide +kernel
theorem dX12_readRoles_89 : decode cX12_readRoles 89 = .ok (.getfield 145, 3) := by decide +kernel
theorem dX12_readRoles_92 : decode cX12_readRoles 92 = .ok (.iconst 1, 1) := by decide +kernel
theorem dX12_readRoles_93 : decode cX12_readRoles 93 = .ok (.if_icmp .ne 16, 3) := by decide +kernel
theorem dX12_readRoles_96 : decode cX12_readRoles 96 = .ok (.aload_n 0, 1) := by decide +kernel
theorem dX12_readRoles_97 : decode cX12_readRoles 97 = .ok (.getfield 158, 3) := by decide +kernel
theorem dX12_readRoles_100 : decode cX12_readRoles 100 = .ok (.bipush 8, 2) := by decide +kernel
theorem dX12_readRoles_102 : decode cX12_readRoles 102 = .ok (.if_icmp .le 7, 3) := by decide +kernel
theorem dX12_readRoles_105 : decode cX12_readRoles 105 = .ok (.iconst 1, 1) := by decide +kernel
theorem dX12_readRoles_106 : decode cX12_readRoles 106 = .ok (.goto 4, 3) := by decide +kernel
theorem dX12_readRoles_109 : decode cX12_readRoles 109 = .ok (.iconst 0, 1) := by decide +kernel
theorem dX12_readRoles_110 : decode cX12_readRoles 110 = .ok (.istore_n 2, 1) := by decide +kernel
theorem dX12_readRoles_111 : decode cX12_readRoles 111 = .ok (.goto (-103), 3) := by decide +kernel
theorem dX12_readRoles_114 : decode cX12_readRoles 114 = .ok (.iload_n 1, 1) := by decide +kernel
theorem dX12_readRoles_115 : decode cX12_readRoles 115 = .ok (.ireturn, 1) := by decide +kernel
theorem dX12_readRole_0 : decode cX12_readRole 0 = .ok (.aload_n 0, 1) := by decide +kernel
theorem dX12_readRole_1 : decode cX12_readRole 1 = .ok (.getfield 35, 3) := by decide +kernel
theorem dX12_readRole_4 : decode cX12_readRole 4 = .ok (.sipush 1720, 3) := by decide +kernel
theorem dX12_readRole_7 : decode cX12_readRole 7 = .ok (.iaload, 1) := by decide +kernel
theorem dX12_readRole_8 : decode cX12_readRole 8 = .ok (.bipush 6, 2) := by decide +kernel
theorem dX12_readRole_10 : decode cX12_readRole 10 = .ok (.if_icmp .ne 13, 3) := by decide +kernel
theorem dX12_readRole_13 : decode cX12_readRole 13 = .ok (.aload_n 0, 1) := by decide +kernel
theorem dX12_readRole_14 : decode cX12_readRole 14 = .ok (.bipush 6, 2) := by decide +kernel
theorem dX12_readRole_16 : decode cX12_readRole 16 = .ok (.aload_n 0, 1) := by decide +kernel
theorem dX12_readRole_17 : decode cX12_readRole 17 = .ok (.getfield 139, 3) := by decide +kernel
theorem dX12_readRole_20 : decode cX12_readRole 20 = .ok (.invokevirtual 255, 3) := by decide +kernel
theorem dX12_readRole_23 : decode cX12_readRole 23 = .ok (.aload_n 0, 1) := by decide +kernel
theorem dX12_readRole_24 : decode cX12_readRole 24 = .ok (.getfield 249, 3) := by decide +kernel
theorem dX12_readRole_27 : decode cX12_readRole 27 = .ok (.ifCond .le 4, 3) := by decide +kernel
theorem dX12_readRole_30 : decode cX12_readRole 30 = .ok (.return_, 1) := by decide +kernel
theorem dX12_readRole_31 : decode cX12_readRole 31 = .ok (.aload_n 0, 1) := by decide +kernel
theorem dX12_readRole_32 : decode cX12_readRole 32 = .ok (.iconst 0, 1) := by decide +kernel
theorem dX12_readRole_33 : decode cX12_readRole 33 = .ok (.aload_n 0, 1) := by decide +kernel
theorem dX12_readRole_34 : decode cX12_readRole 34 = .ok (.getfield 35, 3) := by decide +kernel
theorem dX12_readRole_37 : decode cX12_readRole 37 = .ok (.sipush 1720, 3) := by decide +kernel
theorem dX12_readRole_40 : decode cX12_readRole 40 = .ok (.iaload, 1) := by decide +kernel
theorem dX12_readRole_41 : decode cX12_readRole 41 = .ok (.invokevirtual 289, 3) := by decide +kernel
theorem dX12_readRole_44 : decode cX12_readRole 44 = .ok (.aload_n 0, 1) := by decide +kernel
theorem dX12_readRole_45 : decode cX12_readRole 45 = .ok (.getfield 249, 3) := by decide +kernel
theorem dX12_readRole_48 : decode cX12_readRole 48 = .ok (.ifCond .ne 15, 3) := by decide +kernel
theorem dX12_readRole_51 : decode cX12_readRole 51 = .ok (.aload_n 0, 1) := by decide +kernel
theorem dX12_readRole_52 : decode cX12_readRole 52 = .ok (.getfield 35, 3) := by decide +kernel
theorem dX12_readRole_55 : decode cX12_readRole 55 = .ok (.sipush 1720, 3) := by decide +kernel
theorem dX12_readRole_58 : decode cX12_readRole 58 = .ok (.dup2, 1) := by decide +kernel
theorem dX12_readRole_59 : decode cX12_readRole 59 = .ok (.iaload, 1) := by decide +kernel
theorem dX12_readRole_60 : decode cX12_readRole 60 = .ok (.iconst 1, 1) := by decide +kernel
theorem dX12_readRole_61 : decode cX12_readRole 61 = .ok (.iadd, 1) := by decide +kernel
theorem dX12_readRole_62 : decode cX12_readRole 62 = .ok (.iastore, 1) := by decide +kernel
theorem dX12_readRole_63 : decode cX12_readRole 63 = .ok (.return_, 1) := by decide +kernel
theorem dX12_readActor_0 : decode cX12_readActor 0 = .ok (.aload_n 0, 1) := by decide +kernel
theorem dX12_readActor_1 : decode cX12_readActor 1 = .ok (.getfield 35, 3) := by decide +kernel
theorem dX12_readActor_4 : decode cX12_readActor 4 = .ok (.sipush 1721, 3) := by decide +kernel
theorem dX12_readActor_7 : decode cX12_readActor 7 = .ok (.iaload, 1) := by decide +kernel
theorem dX12_readActor_8 : decode cX12_readActor 8 = .ok (.istore_n 1, 1) := by decide +kernel
theorem dX12_readActor_9 : decode cX12_readActor 9 = .ok (.iload_n 1, 1) := by decide +kernel
theorem dX12_readActor_10 : decode cX12_readActor 10 = .ok (.bipush 6, 2) := by decide +kernel
theorem dX12_readActor_12 : decode cX12_readActor 12 = .ok (.if_icmp .ne 13, 3) := by decide +kernel
theorem dX12_readActor_15 : decode cX12_readActor 15 = .ok (.aload_n 0, 1) := by decide +kernel
theorem dX12_readActor_16 : decode cX12_readActor 16 = .ok (.bipush 6, 2) := by decide +kernel
theorem dX12_readActor_18 : decode cX12_readActor 18 = .ok (.aload_n 0, 1) := by decide +kernel
theorem dX12_readActor_19 : decode cX12_readActor 19 = .ok (.getfield 139, 3) := by decide +kernel
theorem dX12_readActor_22 : decode cX12_readActor 22 = .ok (.invokevirtual 255, 3) := by decide +kernel
theorem dX12_readActor_25 : decode cX12_readActor 25 = .ok (.aload_n 0, 1) := by decide +kernel
theorem dX12_readActor_26 : decode cX12_readActor 26 = .ok (.getfield 249, 3) := by decide +kernel
theorem dX12_readActor_29 : decode cX12_readActor 29 = .ok (.ifCond .le 4, 3) := by decide +kernel
theorem dX12_readActor_32 : decode cX12_readActor 32 = .ok (.return_, 1) := by decide +kernel
theorem dX12_readActor_33 : decode cX12_readActor 33 = .ok (.aload_n 0, 1) := by decide +kernel
theorem dX12_readActor_34 : decode cX12_readActor 34 = .ok (.bipush 6, 2) := by decide +kernel
theorem dX12_readActor_36 : decode cX12_readActor 36 = .ok (.iload_n 1, 1) := by decide +kernel
theorem dX12_readActor_37 : decode cX12_readActor 37 = .ok (.invokevirtual 289, 3) := by decide +kernel
theorem dX12_readActor_40 : decode cX12_readActor 40 = .ok (.aload_n 0, 1) := by decide +kernel
theorem dX12_readActor_41 : decode cX12_readActor 41 = .ok (.aload_n 0, 1) := by decide +kernel
theorem dX12_readActor_42 : decode cX12_readActor 42 = .ok (.invokevirtual 185, 3) := by decide +kernel
theorem dX12_readActor_45 : decode cX12_readActor 45 = .ok (.invokevirtual 282, 3) := by decide +kernel
theorem dX12_readActor_48 : decode cX12_readActor 48 = .ok (.aload_n 0, 1) := by decide +kernel
theorem dX12_readActor_49 : decode cX12_readActor 49 = .ok (.getfield 35, 3) := by decide +kernel
theorem dX12_readActor_52 : decode cX12_readActor 52 = .ok (.sipush 1727, 3) := by decide +kernel
theorem dX12_readActor_55 : decode cX12_readActor 55 = .ok (.iload_n 1, 1) := by decide +kernel
theorem dX12_readActor_56 : decode cX12_readActor 56 = .ok (.iadd, 1) := by decide +kernel
theorem dX12_readActor_57 : decode cX12_readActor 57 = .ok (.aload_n 0, 1) := by decide +kernel
theorem dX12_readActor_58 : decode cX12_readActor 58 = .ok (.iconst 0, 1) := by decide +kernel
theorem dX12_readActor_59 : decode cX12_readActor 59 = .ok (.bipush 99, 2) := by decide +kernel
theorem dX12_readActor_61 : decode cX12_readActor 61 = .ok (.invokevirtual 292, 3) := by decide +kernel
theorem dX12_readActor_64 : decode cX12_readActor 64 = .ok (.iastore, 1) := by decide +kernel
theorem dX12_readActor_65 : decode cX12_readActor 65 = .ok (.aload_n 0, 1) := by decide +kernel
theorem dX12_readActor_66 : decode cX12_readActor 66 = .ok (.aload_n 0, 1) := by decide +kernel
theorem dX12_readActor_67 : decode cX12_readActor 67 = .ok (.invokevirtual 188, 3) := by decide +kernel
theorem dX12_readActor_70 : decode cX12_readActor 70 = .ok (.invokevirtual 282, 3) := by decide +kernel
theorem dX12_readActor_73 : decode cX12_readActor 73 = .ok (.aload_n 0, 1) := by decide +kernel
theorem dX12_readActor_74 : decode cX12_readActor 74 = .ok (.getfield 35, 3) := by decide +kernel
theorem dX12_readActor_77 : decode cX12_readActor 77 = .ok (.sipush 1733, 3) := by decide +kernel
theorem dX12_readActor_80 : decode cX12_readActor 80 = .ok (.iload_n 1, 1) := by decide +kernel
theorem dX12_readActor_81 : decode cX12_readActor 81 = .ok (.iadd, 1) := by decide +kernel
theorem dX12_readActor_82 : decode cX12_readActor 82 = .ok (.aload_n 0, 1) := by decide +kernel
theorem dX12_readActor_83 : decode cX12_readActor 83 = .ok (.iconst 0, 1) := by decide +kernel
theorem dX12_readActor_84 : decode cX12_readActor 84 = .ok (.sipush 999, 3) := by decide +kernel
theorem dX12_readActor_87 : decode cX12_readActor 87 = .ok (.invokevirtual 292, 3) := by decide +kernel
theorem dX12_readActor_90 : decode cX12_readActor 90 = .ok (.iastore, 1) := by decide +kernel
theorem dX12_readActor_91 : decode cX12_readActor 91 = .ok (.aload_n 0, 1) := by decide +kernel
theorem dX12_readActor_92 : decode cX12_readActor 92 = .ok (.getfield 35, 3) := by decide +kernel
theorem dX12_readActor_95 : decode cX12_readActor 95 = .ok (.sipush 1739, 3) := by decide +kernel
theorem dX12_readActor_98 : decode cX12_readActor 98 = .ok (.iload_n 1, 1) := by decide +kernel
theorem dX12_readActor_99 : decode cX12_readActor 99 = .ok (.iadd, 1) := by decide +kernel
theorem dX12_readActor_100 : decode cX12_readActor 100 = .ok (.aload_n 0, 1) := by decide +kernel
theorem dX12_readActor_101 : decode cX12_readActor 101 = .ok (.getfield 249, 3) := by decide +kernel
theorem dX12_readActor_104 : decode cX12_readActor 104 = .ok (.ifCond .ne 17, 3) := by decide +kernel
theorem dX12_readActor_107 : decode cX12_readActor 107 = .ok (.aload_n 0, 1) := by decide +kernel
theorem dX12_readActor_108 : decode cX12_readActor 108 = .ok (.invokevirtual 191, 3) := by decide +kernel
theorem dX12_readActor_111 : decode cX12_readActor 111 = .ok (.ifCond .eq 10, 3) := by decide +kernel
theorem dX12_readActor_114 : decode cX12_readActor 114 = .ok (.aload_n 0, 1) := by decide +kernel
theorem dX12_readActor_115 : decode cX12_readActor 115 = .ok (.invokevirtual 295, 3) := by decide +kernel
theorem dX12_readActor_118 : decode cX12_readActor 118 = .ok (.goto 4, 3) := by decide +kernel
theorem dX12_readActor_121 : decode cX12_readActor 121 = .ok (.iconst 0, 1) := by decide +kernel
theorem dX12_readActor_122 : decode cX12_readActor 122 = .ok (.iastore, 1) := by decide +kernel
theorem dX12_readActor_123 : decode cX12_readActor 123 = .ok (.aload_n 0, 1) := by decide +kernel
theorem dX12_readActor_124 : decode cX12_readActor 124 = .ok (.getfield 249, 3) := by decide +kernel
theorem dX12_readActor_127 : decode cX12_readActor 127 = .ok (.ifCond .ne 15, 3) := by decide +kernel
theorem dX12_readActor_130 : decode cX12_readActor 130 = .ok (.aload_n 0, 1) := by decide +kernel
theorem dX12_readActor_131 : decode cX12_readActor 131 = .ok (.getfield 35, 3) := by decide +kernel
theorem dX12_readActor_134 : decode cX12_readActor 134 = .ok (.sipush 1721, 3) := by decide +kernel
theorem dX12_readActor_137 : decode cX12_readActor 137 = .ok (.dup2, 1) := by decide +kernel
theorem dX12_readActor_138 : decode cX12_readActor 138 = .ok (.iaload, 1) := by decide +kernel
theorem dX12_readActor_139 : decode cX12_readActor 139 = .ok (.iconst 1, 1) := by decide +kernel
theorem dX12_readActor_140 : decode cX12_readActor 140 = .ok (.iadd, 1) := by decide +kernel
theorem dX12_readActor_141 : decode cX12_readActor 141 = .ok (.iastore, 1) := by decide +kernel
theorem dX12_readActor_142 : decode cX12_readActor 142 = .ok (.return_, 1) := by decide +kernel
theorem dX12_readWay_0 : decode cX12_readWay 0 = .ok (.aload_n 0, 1) := by decide +kernel
theorem dX12_readWay_1 : decode cX12_readWay 1 = .ok (.getfield 249, 3) := by decide +kernel
theorem dX12_readWay_4 : decode cX12_readWay 4 = .ok (.ifCond .gt 7, 3) := by decide +kernel
theorem dX12_readWay_7 : decode cX12_readWay 7 = .ok (.iload_n 1, 1) := by decide +kernel
theorem dX12_readWay_8 : decode cX12_readWay 8 = .ok (.ifCond .ne 5, 3) := by decide +kernel
theorem dX12_readWay_11 : decode cX12_readWay 11 = .ok (.iconst (-1), 1) := by decide +kernel
theorem dX12_readWay_12 : decode cX12_readWay 12 = .ok (.ireturn, 1) := by decide +kernel
theorem dX12_readWay_13 : decode cX12_readWay 13 = .ok (.aload_n 0, 1) := by decide +kernel
theorem dX12_readWay_14 : decode cX12_readWay 14 = .ok (.invokevirtual 259, 3) := by decide +kernel
theorem dX12_readWay_17 : decode cX12_readWay 17 = .ok (.aload_n 0, 1) := by decide +kernel
theorem dX12_readWay_18 : decode cX12_readWay 18 = .ok (.iconst 4, 1) := by decide +kernel
theorem dX12_readWay_19 : decode cX12_readWay 19 = .ok (.bipush 12, 2) := by decide +kernel
theorem dX12_readWay_21 : decode cX12_readWay 21 = .ok (.aload_n 0, 1) := by decide +kernel
theorem dX12_readWay_22 : decode cX12_readWay 22 = .ok (.getfield 35, 3) := by decide +kernel
theorem dX12_readWay_25 : decode cX12_readWay 25 = .ok (.sipush 1722, 3) := by decide +kernel
theorem dX12_readWay_28 : decode cX12_readWay 28 = .ok (.iaload, 1) := by decide +kernel
theorem dX12_readWay_29 : decode cX12_readWay 29 = .ok (.invokevirtual 286, 3) := by decide +kernel
theorem dX12_readWay_32 : decode cX12_readWay 32 = .ok (.ireturn, 1) := by decide +kernel
theorem dX12_readScene_0 : decode cX12_readScene 0 = .ok (.aload_n 0, 1) := by decide +kernel
theorem dX12_readScene_1 : decode cX12_readScene 1 = .ok (.getfield 35, 3) := by decide +kernel
theorem dX12_readScene_4 : decode cX12_readScene 4 = .ok (.sipush 1722, 3) := by decide +kernel
theorem dX12_readScene_7 : decode cX12_readScene 7 = .ok (.iaload, 1) := by decide +kernel
theorem dX12_readScene_8 : decode cX12_readScene 8 = .ok (.istore_n 1, 1) := by decide +kernel
theorem dX12_readScene_9 : decode cX12_readScene 9 = .ok (.iload_n 1, 1) := by decide +kernel
theorem dX12_readScene_10 : decode cX12_readScene 10 = .ok (.bipush 12, 2) := by decide +kernel
theorem dX12_readScene_12 : decode cX12_readScene 12 = .ok (.if_icmp .ne 13, 3) := by decide +kernel
theorem dX12_readScene_15 : decode cX12_readScene 15 = .ok (.aload_n 0, 1) := by decide +kernel
theorem dX12_readScene_16 : decode cX12_readScene 16 = .ok (.bipush 6, 2) := by decide +kernel
theorem dX12_readScene_18 : decode cX12_readScene 18 = .ok (.aload_n 0, 1) := by decide +kernel
theorem dX12_readScene_19 : decode cX12_readScene 19 = .ok (.getfield 139, 3) := by decide +kernel
theorem dX12_readScene_22 : decode cX12_readScene 22 = .ok (.invokevirtual 255, 3) := by decide +kernel
theorem dX12_readScene_25 : decode cX12_readScene 25 = .ok (.aload_n 0, 1) := by decide +kernel
theorem dX12_readScene_26 : decode cX12_readScene 26 = .ok (.getfield 249, 3) := by decide +kernel
theorem dX12_readScene_29 : decode cX12_readScene 29 = .ok (.ifCond .le 4, 3) := by decide +kernel
theorem dX12_readScene_32 : decode cX12_readScene 32 = .ok (.return_, 1) := by decide +kernel
theorem dX12_readScene_33 : decode cX12_readScene 33 = .ok (.aload_n 0, 1) := by decide +kernel
theorem dX12_readScene_34 : decode cX12_readScene 34 = .ok (.bipush 12, 2) := by decide +kernel
theorem dX12_readScene_36 : decode cX12_readScene 36 = .ok (.iload_n 1, 1) := by decide +kernel
theorem dX12_readScene_37 : decode cX12_readScene 37 = .ok (.invokevirtual 289, 3) := by decide +kernel
theorem dX12_readScene_40 : decode cX12_readScene 40 = .ok (.aload_n 0, 1) := by decide +kernel
theorem dX12_readScene_41 : decode cX12_readScene 41 = .ok (.aload_n 0, 1) := by decide +kernel
theorem dX12_readScene_42 : decode cX12_readScene 42 = .ok (.invokevirtual 197, 3) := by decide +kernel
theorem dX12_readScene_45 : decode cX12_readScene 45 = .ok (.invokevirtual 282, 3) := by decide +kernel
theorem dX12_readScene_48 : decode cX12_readScene 48 = .ok (.aload_n 0, 1) := by decide +kernel
theorem dX12_readScene_49 : decode cX12_readScene 49 = .ok (.getfield 35, 3) := by decide +kernel
theorem dX12_readScene_52 : decode cX12_readScene 52 = .ok (.sipush 1745, 3) := by decide +kernel
theorem dX12_readScene_55 : decode cX12_readScene 55 = .ok (.iload_n 1, 1) := by decide +kernel
theorem dX12_readScene_56 : decode cX12_readScene 56 = .ok (.iadd, 1) := by decide +kernel
theorem dX12_readScene_57 : decode cX12_readScene 57 = .ok (.aload_n 0, 1) := by decide +kernel
theorem dX12_readScene_58 : decode cX12_readScene 58 = .ok (.iconst 1, 1) := by decide +kernel
theorem dX12_readScene_59 : decode cX12_readScene 59 = .ok (.bipush 20, 2) := by decide +kernel
theorem dX12_readScene_61 : decode cX12_readScene 61 = .ok (.invokevirtual 292, 3) := by decide +kernel
theorem dX12_readScene_64 : decode cX12_readScene 64 = .ok (.iastore, 1) := by decide +kernel
theorem dX12_readScene_65 : decode cX12_readScene 65 = .ok (.aload_n 0, 1) := by decide +kernel
theorem dX12_readScene_66 : decode cX12_readScene 66 = .ok (.getfield 35, 3) := by decide +kernel
theorem dX12_readScene_69 : decode cX12_readScene 69 = .ok (.sipush 1757, 3) := by decide +kernel
theorem dX12_readScene_72 : decode cX12_readScene 72 = .ok (.iload_n 1, 1) := by decide +kernel
theorem dX12_readScene_73 : decode cX12_readScene 73 = .ok (.iadd, 1) := by decide +kernel
theorem dX12_readScene_74 : decode cX12_readScene 74 = .ok (.aload_n 0, 1) := by decide +kernel
theorem dX12_readScene_75 : decode cX12_readScene 75 = .ok (.getfield 249, 3) := by decide +kernel
theorem dX12_readScene_78 : decode cX12_readScene 78 = .ok (.ifCond .ne 17, 3) := by decide +kernel
theorem dX12_readScene_81 : decode cX12_readScene 81 = .ok (.aload_n 0, 1) := by decide +kernel
theorem dX12_readScene_82 : decode cX12_readScene 82 = .ok (.invokevirtual 200, 3) := by decide +kernel
theorem dX12_readScene_85 : decode cX12_readScene 85 = .ok (.ifCond .eq 10, 3) := by decide +kernel
theorem dX12_readScene_88 : decode cX12_readScene 88 = .ok (.aload_n 0, 1) := by decide +kernel
theorem dX12_readScene_89 : decode cX12_readScene 89 = .ok (.invokevirtual 295, 3) := by decide +kernel
theorem dX12_readScene_92 : decode cX12_readScene 92 = .ok (.goto 4, 3) := by decide +kernel
theorem dX12_readScene_95 : decode cX12_readScene 95 = .ok (.iconst 0, 1) := by decide +kernel
theorem dX12_readScene_96 : decode cX12_readScene 96 = .ok (.iastore, 1) := by decide +kernel
theorem dX12_readScene_97 : decode cX12_readScene 97 = .ok (.aload_n 0, 1) := by decide +kernel
theorem dX12_readScene_98 : decode cX12_readScene 98 = .ok (.getfield 35, 3) := by decide +kernel
theorem dX12_readScene_101 : decode cX12_readScene 101 = .ok (.sipush 1769, 3) := by decide +kernel
theorem dX12_readScene_104 : decode cX12_readScene 104 = .ok (.iload_n 1, 1) := by decide +kernel
theorem dX12_readScene_105 : decode cX12_readScene 105 = .ok (.iadd, 1) := by decide +kernel
theorem dX12_readScene_106 : decode cX12_readScene 106 = .ok (.iconst (-1), 1) := by decide +kernel
theorem dX12_readScene_107 : decode cX12_readScene 107 = .ok (.iastore, 1) := by decide +kernel
theorem dX12_readScene_108 : decode cX12_readScene 108 = .ok (.aload_n 0, 1) := by decide +kernel
theorem dX12_readScene_109 : decode cX12_readScene 109 = .ok (.getfield 249, 3) := by decide +kernel
theorem dX12_readScene_112 : decode cX12_readScene 112 = .ok (.ifCond .ne 31, 3) := by decide +kernel
theorem dX12_readScene_115 : decode cX12_readScene 115 = .ok (.aload_n 0, 1) := by decide +kernel
theorem dX12_readScene_116 : decode cX12_readScene 116 = .ok (.invokevirtual 203, 3) := by decide +kernel
theorem dX12_readScene_119 : decode cX12_readScene 119 = .ok (.ifCond .eq 24, 3) := by decide +kernel
theorem dX12_readScene_122 : decode cX12_readScene 122 = .ok (.aload_n 0, 1) := by decide +kernel
theorem dX12_readScene_123 : decode cX12_readScene 123 = .ok (.invokevirtual 259, 3) := by decide +kernel
theorem dX12_readScene_126 : decode cX12_readScene 126 = .ok (.aload_n 0, 1) := by decide +kernel
theorem dX12_readScene_127 : decode cX12_readScene 127 = .ok (.getfield 35, 3) := by decide +kernel
theorem dX12_readScene_130 : decode cX12_readScene 130 = .ok (.sipush 1769, 3) := by decide +kernel
theorem dX12_readScene_133 : decode cX12_readScene 133 = .ok (.iload_n 1, 1) := by decide +kernel
theorem dX12_readScene_134 : decode cX12_readScene 134 = .ok (.iadd, 1) := by decide +kernel
theorem dX12_readScene_135 : decode cX12_readScene 135 = .ok (.aload_n 0, 1) := by decide +kernel
theorem dX12_readScene_136 : decode cX12_readScene 136 = .ok (.iconst 0, 1) := by decide +kernel
theorem dX12_readScene_137 : decode cX12_readScene 137 = .ok (.bipush 8, 2) := by decide +kernel
theorem dX12_readScene_139 : decode cX12_readScene 139 = .ok (.invokevirtual 292, 3) := by decide +kernel
theorem dX12_readScene_142 : decode cX12_readScene 142 = .ok (.iastore, 1) := by decide +kernel
theorem dX12_readScene_143 : decode cX12_readScene 143 = .ok (.aload_n 0, 1) := by decide +kernel
theorem dX12_readScene_144 : decode cX12_readScene 144 = .ok (.getfield 35, 3) := by decide +kernel
theorem dX12_readScene_147 : decode cX12_readScene 147 = .ok (.sipush 1781, 3) := by decide +kernel
theorem dX12_readScene_150 : decode cX12_readScene 150 = .ok (.iload_n 1, 1) := by decide +kernel
theorem dX12_readScene_151 : decode cX12_readScene 151 = .ok (.iadd, 1) := by decide +kernel
theorem dX12_readScene_152 : decode cX12_readScene 152 = .ok (.aload_n 0, 1) := by decide +kernel
theorem dX12_readScene_153 : decode cX12_readScene 153 = .ok (.aload_n 0, 1) := by decide +kernel
theorem dX12_readScene_154 : decode cX12_readScene 154 = .ok (.invokevirtual 206, 3) := by decide +kernel
theorem dX12_readScene_157 : decode cX12_readScene 157 = .ok (.invokevirtual 298, 3) := by decide +kernel
theorem dX12_readScene_160 : decode cX12_readScene 160 = .ok (.iastore, 1) := by decide +kernel
theorem dX12_readScene_161 : decode cX12_readScene 161 = .ok (.aload_n 0, 1) := by decide +kernel
theorem dX12_readScene_162 : decode cX12_readScene 162 = .ok (.getfield 35, 3) := by decide +kernel
theorem dX12_readScene_165 : decode cX12_readScene 165 = .ok (.sipush 1793, 3) := by decide +kernel
theorem dX12_readScene_168 : decode cX12_readScene 168 = .ok (.iload_n 1, 1) := by decide +kernel
theorem dX12_readScene_169 : decode cX12_readScene 169 = .ok (.iadd, 1) := by decide +kernel
theorem dX12_readScene_170 : decode cX12_readScene 170 = .ok (.aload_n 0, 1) := by decide +kernel
theorem dX12_readScene_171 : decode cX12_readScene 171 = .ok (.aload_n 0, 1) := by decide +kernel
theorem dX12_readScene_172 : decode cX12_readScene 172 = .ok (.invokevirtual 209, 3) := by decide +kernel
theorem dX12_readScene_175 : decode cX12_readScene 175 = .ok (.invokevirtual 298, 3) := by decide +kernel
theorem dX12_readScene_178 : decode cX12_readScene 178 = .ok (.iastore, 1) := by decide +kernel
theorem dX12_readScene_179 : decode cX12_readScene 179 = .ok (.aload_n 0, 1) := by decide +kernel
theorem dX12_readScene_180 : decode cX12_readScene 180 = .ok (.getfield 35, 3) := by decide +kernel
theorem dX12_readScene_183 : decode cX12_readScene 183 = .ok (.sipush 1805, 3) := by decide +kernel
theorem dX12_readScene_186 : decode cX12_readScene 186 = .ok (.iload_n 1, 1) := by decide +kernel
theorem dX12_readScene_187 : decode cX12_readScene 187 = .ok (.iadd, 1) := by decide +kernel
theorem dX12_readScene_188 : decode cX12_readScene 188 = .ok (.aload_n 0, 1) := by decide +kernel
theorem dX12_readScene_189 : decode cX12_readScene 189 = .ok (.aload_n 0, 1) := by decide +kernel
theorem dX12_readScene_190 : decode cX12_readScene 190 = .ok (.invokevirtual 212, 3) := by decide +kernel
theorem dX12_readScene_193 : decode cX12_readScene 193 = .ok (.invokevirtual 298, 3) := by decide +kernel
theorem dX12_readScene_196 : decode cX12_readScene 196 = .ok (.iastore, 1) := by decide +kernel
theorem dX12_readScene_197 : decode cX12_readScene 197 = .ok (.aload_n 0, 1) := by decide +kernel
theorem dX12_readScene_198 : decode cX12_readScene 198 = .ok (.getfield 35, 3) := by decide +kernel
theorem dX12_readScene_201 : decode cX12_readScene 201 = .ok (.sipush 1817, 3) := by decide +kernel
theorem dX12_readScene_204 : decode cX12_readScene 204 = .ok (.iload_n 1, 1) := by decide +kernel
theorem dX12_readScene_205 : decode cX12_readScene 205 = .ok (.iadd, 1) := by decide +kernel
theorem dX12_readScene_206 : decode cX12_readScene 206 = .ok (.aload_n 0, 1) := by decide +kernel
theorem dX12_readScene_207 : decode cX12_readScene 207 = .ok (.aload_n 0, 1) := by decide +kernel
theorem dX12_readScene_208 : decode cX12_readScene 208 = .ok (.invokevirtual 215, 3) := by decide +kernel
theorem dX12_readScene_211 : decode cX12_readScene 211 = .ok (.invokevirtual 298, 3) := by decide +kernel
theorem dX12_readScene_214 : decode cX12_readScene 214 = .ok (.iastore, 1) := by decide +kernel
theorem dX12_readScene_215 : decode cX12_readScene 215 = .ok (.aload_n 0, 1) := by decide +kernel
theorem dX12_readScene_216 : decode cX12_readScene 216 = .ok (.getfield 35, 3) := by decide +kernel
theorem dX12_readScene_219 : decode cX12_readScene 219 = .ok (.sipush 1829, 3) := by decide +kernel
theorem dX12_readScene_222 : decode cX12_readScene 222 = .ok (.iload_n 1, 1) := by decide +kernel
theorem dX12_readScene_223 : decode cX12_readScene 223 = .ok (.iadd, 1) := by decide +kernel
theorem dX12_readScene_224 : decode cX12_readScene 224 = .ok (.iconst (-1), 1) := by decide +kernel
theorem dX12_readScene_225 : decode cX12_readScene 225 = .ok (.iastore, 1) := by decide +kernel
theorem dX12_readScene_226 : decode cX12_readScene 226 = .ok (.aload_n 0, 1) := by decide +kernel
theorem dX12_readScene_227 : decode cX12_readScene 227 = .ok (.getfield 249, 3) := by decide +kernel
theorem dX12_readScene_230 : decode cX12_readScene 230 = .ok (.ifCond .ne 38, 3) := by decide +kernel
theorem dX12_readScene_233 : decode cX12_readScene 233 = .ok (.aload_n 0, 1) := by decide +kernel
theorem dX12_readScene_234 : decode cX12_readScene 234 = .ok (.invokevirtual 218, 3) := by decide +kernel
theorem dX12_readScene_237 : decode cX12_readScene 237 = .ok (.ifCond .eq 31, 3) := by decide +kernel
theorem dX12_readScene_240 : decode cX12_readScene 240 = .ok (.aload_n 0, 1) := by decide +kernel
theorem dX12_readScene_241 : decode cX12_readScene 241 = .ok (.invokevirtual 259, 3) := by decide +kernel
theorem dX12_readScene_244 : decode cX12_readScene 244 = .ok (.aload_n 0, 1) := by decide +kernel
theorem dX12_readScene_245 : decode cX12_readScene 245 = .ok (.getfield 35, 3) := by decide +kernel
theorem dX12_readScene_248 : decode cX12_readScene 248 = .ok (.sipush 1829, 3) := by decide +kernel
theorem dX12_readScene_251 : decode cX12_readScene 251 = .ok (.iload_n 1, 1) := by decide +kernel
theorem dX12_readScene_252 : decode cX12_readScene 252 = .ok (.iadd, 1) := by decide +kernel
theorem dX12_readScene_253 : decode cX12_readScene 253 = .ok (.aload_n 0, 1) := by decide +kernel
theorem dX12_readScene_254 : decode cX12_readScene 254 = .ok (.iconst 4, 1) := by decide +kernel
theorem dX12_readScene_255 : decode cX12_readScene 255 = .ok (.iconst 0, 1) := by decide +kernel
theorem dX12_readScene_256 : decode cX12_readScene 256 = .ok (.aload_n 0, 1) := by decide +kernel
theorem dX12_readScene_257 : decode cX12_readScene 257 = .ok (.getfield 35, 3) := by decide +kernel
theorem dX12_readScene_260 : decode cX12_readScene 260 = .ok (.sipush 1720, 3) := by decide +kernel
theorem dX12_readScene_263 : decode cX12_readScene 263 = .ok (.iaload, 1) := by decide +kernel
theorem dX12_readScene_264 : decode cX12_readScene 264 = .ok (.invokevirtual 286, 3) := by decide +kernel
theorem dX12_readScene_267 : decode cX12_readScene 267 = .ok (.iastore, 1) := by decide +kernel
theorem dX12_readScene_268 : decode cX12_readScene 268 = .ok (.aload_n 0, 1) := by decide +kernel
theorem dX12_readScene_269 : decode cX12_readScene 269 = .ok (.getfield 249, 3) := by decide +kernel
theorem dX12_readScene_272 : decode cX12_readScene 272 = .ok (.ifCond .ne 15, 3) := by decide +kernel
theorem dX12_readScene_275 : decode cX12_readScene 275 = .ok (.aload_n 0, 1) := by decide +kernel
theorem dX12_readScene_276 : decode cX12_readScene 276 = .ok (.getfield 35, 3) := by decide +kernel
theorem dX12_readScene_279 : decode cX12_readScene 279 = .ok (.sipush 1722, 3) := by decide +kernel
theorem dX12_readScene_282 : decode cX12_readScene 282 = .ok (.dup2, 1) := by decide +kernel
theorem dX12_readScene_283 : decode cX12_readScene 283 = .ok (.iaload, 1) := by decide +kernel
theorem dX12_readScene_284 : decode cX12_readScene 284 = .ok (.iconst 1, 1) := by decide +kernel
theorem dX12_readScene_285 : decode cX12_readScene 285 = .ok (.iadd, 1) := by decide +kernel
theorem dX12_readScene_286 : decode cX12_readScene 286 = .ok (.iastore, 1) := by decide +kernel
theorem dX12_readScene_287 : decode cX12_readScene 287 = .ok (.return_, 1) := by decide +kernel
theorem dX12_readKind_0 : decode cX12_readKind 0 = .ok (.aload_n 0, 1) := by decide +kernel
theorem dX12_readKind_1 : decode cX12_readKind 1 = .ok (.getfield 35, 3) := by decide +kernel
theorem dX12_readKind_4 : decode cX12_readKind 4 = .ok (.sipush 1723, 3) := by decide +kernel
theorem dX12_readKind_7 : decode cX12_readKind 7 = .ok (.iaload, 1) := by decide +kernel
theorem dX12_readKind_8 : decode cX12_readKind 8 = .ok (.istore_n 1, 1) := by decide +kernel
theorem dX12_readKind_9 : decode cX12_readKind 9 = .ok (.iload_n 1, 1) := by decide +kernel
theorem dX12_readKind_10 : decode cX12_readKind 10 = .ok (.iconst 4, 1) := by decide +kernel
theorem dX12_readKind_11 : decode cX12_readKind 11 = .ok (.if_icmp .ne 13, 3) := by decide +kernel
theorem dX12_readKind_14 : decode cX12_readKind 14 = .ok (.aload_n 0, 1) := by decide +kernel
theorem dX12_readKind_15 : decode cX12_readKind 15 = .ok (.bipush 6, 2) := by decide +kernel
theorem dX12_readKind_17 : decode cX12_readKind 17 = .ok (.aload_n 0, 1) := by decide +kernel
theorem dX12_readKind_18 : decode cX12_readKind 18 = .ok (.getfield 139, 3) := by decide +kernel
theorem dX12_readKind_21 : decode cX12_readKind 21 = .ok (.invokevirtual 255, 3) := by decide +kernel
theorem dX12_readKind_24 : decode cX12_readKind 24 = .ok (.aload_n 0, 1) := by decide +kernel
theorem dX12_readKind_25 : decode cX12_readKind 25 = .ok (.getfield 249, 3) := by decide +kernel
theorem dX12_readKind_28 : decode cX12_readKind 28 = .ok (.ifCond .le 4, 3) := by decide +kernel
theorem dX12_readKind_31 : decode cX12_readKind 31 = .ok (.return_, 1) := by decide +kernel
theorem dX12_readKind_32 : decode cX12_readKind 32 = .ok (.aload_n 0, 1) := by decide +kernel
theorem dX12_readKind_33 : decode cX12_readKind 33 = .ok (.bipush 24, 2) := by decide +kernel
theorem dX12_readKind_35 : decode cX12_readKind 35 = .ok (.iload_n 1, 1) := by decide +kernel
theorem dX12_readKind_36 : decode cX12_readKind 36 = .ok (.invokevirtual 289, 3) := by decide +kernel
theorem dX12_readKind_39 : decode cX12_readKind 39 = .ok (.aload_n 0, 1) := by decide +kernel
theorem dX12_readKind_40 : decode cX12_readKind 40 = .ok (.aload_n 0, 1) := by decide +kernel
theorem dX12_readKind_41 : decode cX12_readKind 41 = .ok (.invokevirtual 224, 3) := by decide +kernel
theorem dX12_readKind_44 : decode cX12_readKind 44 = .ok (.invokevirtual 282, 3) := by decide +kernel
theorem dX12_readKind_47 : decode cX12_readKind 47 = .ok (.aload_n 0, 1) := by decide +kernel
theorem dX12_readKind_48 : decode cX12_readKind 48 = .ok (.getfield 35, 3) := by decide +kernel
theorem dX12_readKind_51 : decode cX12_readKind 51 = .ok (.sipush 1841, 3) := by decide +kernel
theorem dX12_readKind_54 : decode cX12_readKind 54 = .ok (.iload_n 1, 1) := by decide +kernel
theorem dX12_readKind_55 : decode cX12_readKind 55 = .ok (.iadd, 1) := by decide +kernel
theorem dX12_readKind_56 : decode cX12_readKind 56 = .ok (.aload_n 0, 1) := by decide +kernel
theorem dX12_readKind_57 : decode cX12_readKind 57 = .ok (.iconst 1, 1) := by decide +kernel
theorem dX12_readKind_58 : decode cX12_readKind 58 = .ok (.bipush 30, 2) := by decide +kernel
theorem dX12_readKind_60 : decode cX12_readKind 60 = .ok (.invokevirtual 292, 3) := by decide +kernel
theorem dX12_readKind_63 : decode cX12_readKind 63 = .ok (.iastore, 1) := by decide +kernel
theorem dX12_readKind_64 : decode cX12_readKind 64 = .ok (.aload_n 0, 1) := by decide +kernel
theorem dX12_readKind_65 : decode cX12_readKind 65 = .ok (.aload_n 0, 1) := by decide +kernel
theorem dX12_readKind_66 : decode cX12_readKind 66 = .ok (.invokevirtual 227, 3) := by decide +kernel
theorem dX12_readKind_69 : decode cX12_readKind 69 = .ok (.invokevirtual 282, 3) := by decide +kernel
theorem dX12_readKind_72 : decode cX12_readKind 72 = .ok (.aload_n 0, 1) := by decide +kernel
theorem dX12_readKind_73 : decode cX12_readKind 73 = .ok (.iconst 0, 1) := by decide +kernel
theorem dX12_readKind_74 : decode cX12_readKind 74 = .ok (.bipush 16, 2) := by decide +kernel
theorem dX12_readKind_76 : decode cX12_readKind 76 = .ok (.invokevirtual 292, 3) := by decide +kernel
theorem dX12_readKind_79 : decode cX12_readKind 79 = .ok (.istore_n 2, 1) := by decide +kernel
theorem dX12_readKind_80 : decode cX12_readKind 80 = .ok (.aload_n 0, 1) := by decide +kernel
theorem dX12_readKind_81 : decode cX12_readKind 81 = .ok (.aload_n 0, 1) := by decide +kernel
theorem dX12_readKind_82 : decode cX12_readKind 82 = .ok (.invokevirtual 230, 3) := by decide +kernel
theorem dX12_readKind_85 : decode cX12_readKind 85 = .ok (.invokevirtual 282, 3) := by decide +kernel
theorem dX12_readKind_88 : decode cX12_readKind 88 = .ok (.aload_n 0, 1) := by decide +kernel
theorem dX12_readKind_89 : decode cX12_readKind 89 = .ok (.iconst 0, 1) := by decide +kernel
theorem dX12_readKind_90 : decode cX12_readKind 90 = .ok (.bipush 16, 2) := by decide +kernel
theorem dX12_readKind_92 : decode cX12_readKind 92 = .ok (.iload_n 2, 1) := by decide +kernel
theorem dX12_readKind_93 : decode cX12_readKind 93 = .ok (.isub, 1) := by decide +kernel
theorem dX12_readKind_94 : decode cX12_readKind 94 = .ok (.invokevirtual 292, 3) := by decide +kernel
theorem dX12_readKind_97 : decode cX12_readKind 97 = .ok (.istore_n 3, 1) := by decide +kernel
theorem dX12_readKind_98 : decode cX12_readKind 98 = .ok (.aload_n 0, 1) := by decide +kernel
theorem dX12_readKind_99 : decode cX12_readKind 99 = .ok (.aload_n 0, 1) := by decide +kernel
theorem dX12_readKind_100 : decode cX12_readKind 100 = .ok (.invokevirtual 233, 3) := by decide +kernel
theorem dX12_readKind_103 : decode cX12_readKind 103 = .ok (.invokevirtual 282, 3) := by decide +kernel
theorem dX12_readKind_106 : decode cX12_readKind 106 = .ok (.aload_n 0, 1) := by decide +kernel
theorem dX12_readKind_107 : decode cX12_readKind 107 = .ok (.getfield 35, 3) := by decide +kernel
theorem dX12_readKind_110 : decode cX12_readKind 110 = .ok (.sipush 1853, 3) := by decide +kernel
theorem dX12_readKind_113 : decode cX12_readKind 113 = .ok (.iload_n 1, 1) := by decide +kernel
theorem dX12_readKind_114 : decode cX12_readKind 114 = .ok (.iadd, 1) := by decide +kernel
theorem dX12_readKind_115 : decode cX12_readKind 115 = .ok (.aload_n 0, 1) := by decide +kernel
theorem dX12_readKind_116 : decode cX12_readKind 116 = .ok (.iconst 0, 1) := by decide +kernel
theorem dX12_readKind_117 : decode cX12_readKind 117 = .ok (.bipush 16, 2) := by decide +kernel
theorem dX12_readKind_119 : decode cX12_readKind 119 = .ok (.iload_n 2, 1) := by decide +kernel
theorem dX12_readKind_120 : decode cX12_readKind 120 = .ok (.isub, 1) := by decide +kernel
theorem dX12_readKind_121 : decode cX12_readKind 121 = .ok (.iload_n 3, 1) := by decide +kernel
theorem dX12_readKind_122 : decode cX12_readKind 122 = .ok (.isub, 1) := by decide +kernel
theorem dX12_readKind_123 : decode cX12_readKind 123 = .ok (.invokevirtual 292, 3) := by decide +kernel
theorem dX12_readKind_126 : decode cX12_readKind 126 = .ok (.iastore, 1) := by decide +kernel
theorem dX12_readKind_127 : decode cX12_readKind 127 = .ok (.aload_n 0, 1) := by decide +kernel
theorem dX12_readKind_128 : decode cX12_readKind 128 = .ok (.getfield 35, 3) := by decide +kernel
theorem dX12_readKind_131 : decode cX12_readKind 131 = .ok (.sipush 1845, 3) := by decide +kernel
theorem dX12_readKind_134 : decode cX12_readKind 134 = .ok (.iload_n 1, 1) := by decide +kernel
theorem dX12_readKind_135 : decode cX12_readKind 135 = .ok (.iadd, 1) := by decide +kernel
theorem dX12_readKind_136 : decode cX12_readKind 136 = .ok (.iload_n 2, 1) := by decide +kernel
theorem dX12_readKind_137 : decode cX12_readKind 137 = .ok (.iastore, 1) := by decide +kernel
theorem dX12_readKind_138 : decode cX12_readKind 138 = .ok (.aload_n 0, 1) := by decide +kernel
theorem dX12_readKind_139 : decode cX12_readKind 139 = .ok (.getfield 35, 3) := by decide +kernel
theorem dX12_readKind_142 : decode cX12_readKind 142 = .ok (.sipush 1849, 3) := by decide +kernel
theorem dX12_readKind_145 : decode cX12_readKind 145 = .ok (.iload_n 1, 1) := by decide +kernel
theorem dX12_readKind_146 : decode cX12_readKind 146 = .ok (.iadd, 1) := by decide +kernel
theorem dX12_readKind_147 : decode cX12_readKind 147 = .ok (.iload_n 3, 1) := by decide +kernel
theorem dX12_readKind_148 : decode cX12_readKind 148 = .ok (.iastore, 1) := by decide +kernel
theorem dX12_readKind_149 : decode cX12_readKind 149 = .ok (.aload_n 0, 1) := by decide +kernel
theorem dX12_readKind_150 : decode cX12_readKind 150 = .ok (.getfield 249, 3) := by decide +kernel
theorem dX12_readKind_153 : decode cX12_readKind 153 = .ok (.ifCond .ne 15, 3) := by decide +kernel
theorem dX12_readKind_156 : decode cX12_readKind 156 = .ok (.aload_n 0, 1) := by decide +kernel
theorem dX12_readKind_157 : decode cX12_readKind 157 = .ok (.getfield 35, 3) := by decide +kernel
theorem dX12_readKind_160 : decode cX12_readKind 160 = .ok (.sipush 1723, 3) := by decide +kernel
theorem dX12_readKind_163 : decode cX12_readKind 163 = .ok (.dup2, 1) := by decide +kernel
theorem dX12_readKind_164 : decode cX12_readKind 164 = .ok (.iaload, 1) := by decide +kernel
theorem dX12_readKind_165 : decode cX12_readKind 165 = .ok (.iconst 1, 1) := by decide +kernel
theorem dX12_readKind_166 : decode cX12_readKind 166 = .ok (.iadd, 1) := by decide +kernel
theorem dX12_readKind_167 : decode cX12_readKind 167 = .ok (.iastore, 1) := by decide +kernel
theorem dX12_readKind_168 : decode cX12_readKind 168 = .ok (.return_, 1) := by decide +kernel
theorem dX12_stage_0 : decode cX12_stage 0 = .ok (.aload_n 0, 1) := by decide +kernel
theorem dX12_stage_1 : decode cX12_stage 1 = .ok (.iconst 0, 1) := by decide +kernel
theorem dX12_stage_2 : decode cX12_stage 2 = .ok (.putfield 90, 3) := by decide +kernel
theorem dX12_stage_5 : decode cX12_stage 5 = .ok (.aload_n 0, 1) := by decide +kernel
theorem dX12_stage_6 : decode cX12_stage 6 = .ok (.iconst 0, 1) := by decide +kernel
theorem dX12_stage_7 : decode cX12_stage 7 = .ok (.putfield 93, 3) := by decide +kernel
theorem dX12_stage_10 : decode cX12_stage 10 = .ok (.aload_n 0, 1) := by decide +kernel
theorem dX12_stage_11 : decode cX12_stage 11 = .ok (.iload_n 1, 1) := by decide +kernel
theorem dX12_stage_12 : decode cX12_stage 12 = .ok (.sipush 900, 3) := by decide +kernel
theorem dX12_stage_15 : decode cX12_stage 15 = .ok (.invokevirtual 302, 3) := by decide +kernel
theorem dX12_stage_18 : decode cX12_stage 18 = .ok (.ifCond .ne 5, 3) := by decide +kernel
theorem dX12_stage_21 : decode cX12_stage 21 = .ok (.iconst (-1), 1) := by decide +kernel
theorem dX12_stage_22 : decode cX12_stage 22 = .ok (.ireturn, 1) := by decide +kernel
theorem dX12_stage_23 : decode cX12_stage 23 = .ok (.iconst 0, 1) := by decide +kernel
theorem dX12_stage_24 : decode cX12_stage 24 = .ok (.istore_n 2, 1) := by decide +kernel
theorem dX12_stage_25 : decode cX12_stage 25 = .ok (.iload_n 2, 1) := by decide +kernel
theorem dX12_stage_26 : decode cX12_stage 26 = .ok (.sipush 430, 3) := by decide +kernel
theorem dX12_stage_29 : decode cX12_stage 29 = .ok (.if_icmp .ge 20, 3) := by decide +kernel
theorem dX12_stage_32 : decode cX12_stage 32 = .ok (.aload_n 0, 1) := by decide +kernel
theorem dX12_stage_33 : decode cX12_stage 33 = .ok (.getfield 35, 3) := by decide +kernel
theorem dX12_stage_36 : decode cX12_stage 36 = .ok (.sipush 1720, 3) := by decide +kernel
theorem dX12_stage_39 : decode cX12_stage 39 = .ok (.iload_n 2, 1) := by decide +kernel
theorem dX12_stage_40 : decode cX12_stage 40 = .ok (.iadd, 1) := by decide +kernel
theorem dX12_stage_41 : decode cX12_stage 41 = .ok (.iconst 0, 1) := by decide +kernel
theorem dX12_stage_42 : decode cX12_stage 42 = .ok (.iastore, 1) := by decide +kernel
theorem dX12_stage_43 : decode cX12_stage 43 = .ok (.iinc 2 1, 3) := by decide +kernel
theorem dX12_stage_46 : decode cX12_stage 46 = .ok (.goto (-21), 3) := by decide +kernel
theorem dX12_stage_49 : decode cX12_stage 49 = .ok (.aload_n 0, 1) := by decide +kernel
theorem dX12_stage_50 : decode cX12_stage 50 = .ok (.getfield 249, 3) := by decide +kernel
theorem dX12_stage_53 : decode cX12_stage 53 = .ok (.ifCond .ne 83, 3) := by decide +kernel
theorem dX12_stage_56 : decode cX12_stage 56 = .ok (.aload_n 0, 1) := by decide +kernel
theorem dX12_stage_57 : decode cX12_stage 57 = .ok (.getfield 145, 3) := by decide +kernel
theorem dX12_stage_60 : decode cX12_stage 60 = .ok (.ifCond .eq 76, 3) := by decide +kernel
theorem dX12_stage_63 : decode cX12_stage 63 = .ok (.aload_n 0, 1) := by decide +kernel
theorem dX12_stage_64 : decode cX12_stage 64 = .ok (.invokevirtual 178, 3) := by decide +kernel
theorem dX12_stage_67 : decode cX12_stage 67 = .ok (.ifCond .eq 10, 3) := by decide +kernel
theorem dX12_stage_70 : decode cX12_stage 70 = .ok (.aload_n 0, 1) := by decide +kernel
theorem dX12_stage_71 : decode cX12_stage 71 = .ok (.invokevirtual 306, 3) := by decide +kernel
theorem dX12_stage_74 : decode cX12_stage 74 = .ok (.goto 49, 3) := by decide +kernel
theorem dX12_stage_77 : decode cX12_stage 77 = .ok (.aload_n 0, 1) := by decide +kernel
theorem dX12_stage_78 : decode cX12_stage 78 = .ok (.invokevirtual 182, 3) := by decide +kernel
theorem dX12_stage_81 : decode cX12_stage 81 = .ok (.ifCond .eq 10, 3) := by decide +kernel
theorem dX12_stage_84 : decode cX12_stage 84 = .ok (.aload_n 0, 1) := by decide +kernel
theorem dX12_stage_85 : decode cX12_stage 85 = .ok (.invokevirtual 309, 3) := by decide +kernel
theorem dX12_stage_88 : decode cX12_stage 88 = .ok (.goto 35, 3) := by decide +kernel
theorem dX12_stage_91 : decode cX12_stage 91 = .ok (.aload_n 0, 1) := by decide +kernel
theorem dX12_stage_92 : decode cX12_stage 92 = .ok (.invokevirtual 194, 3) := by decide +kernel
theorem dX12_stage_95 : decode cX12_stage 95 = .ok (.ifCond .eq 10, 3) := by decide +kernel
theorem dX12_stage_98 : decode cX12_stage 98 = .ok (.aload_n 0, 1) := by decide +kernel
theorem dX12_stage_99 : decode cX12_stage 99 = .ok (.invokevirtual 312, 3) := by decide +kernel
theorem dX12_stage_102 : decode cX12_stage 102 = .ok (.goto 21, 3) := by decide +kernel
theorem dX12_stage_105 : decode cX12_stage 105 = .ok (.aload_n 0, 1) := by decide +kernel
theorem dX12_stage_106 : decode cX12_stage 106 = .ok (.invokevirtual 221, 3) := by decide +kernel
theorem dX12_stage_109 : decode cX12_stage 109 = .ok (.ifCond .eq 10, 3) := by decide +kernel
theorem dX12_stage_112 : decode cX12_stage 112 = .ok (.aload_n 0, 1) := by decide +kernel
theorem dX12_stage_113 : decode cX12_stage 113 = .ok (.invokevirtual 315, 3) := by decide +kernel
theorem dX12_stage_116 : decode cX12_stage 116 = .ok (.goto 7, 3) := by decide +kernel
theorem dX12_stage_119 : decode cX12_stage 119 = .ok (.aload_n 0, 1) := by decide +kernel
theorem dX12_stage_120 : decode cX12_stage 120 = .ok (.invokevirtual 262, 3) := by decide +kernel
theorem dX12_stage_123 : decode cX12_stage 123 = .ok (.aload_n 0, 1) := by decide +kernel
theorem dX12_stage_124 : decode cX12_stage 124 = .ok (.aload_n 0, 1) := by decide +kernel
theorem dX12_stage_125 : decode cX12_stage 125 = .ok (.bipush 59, 2) := by decide +kernel
theorem dX12_stage_127 : decode cX12_stage 127 = .ok (.invokevirtual 318, 3) := by decide +kernel
theorem dX12_stage_130 : decode cX12_stage 130 = .ok (.invokevirtual 282, 3) := by decide +kernel
theorem dX12_stage_133 : decode cX12_stage 133 = .ok (.goto (-84), 3) := by decide +kernel
theorem dX12_stage_136 : decode cX12_stage 136 = .ok (.aload_n 0, 1) := by decide +kernel
theorem dX12_stage_137 : decode cX12_stage 137 = .ok (.invokevirtual 321, 3) := by decide +kernel
theorem dX12_stage_140 : decode cX12_stage 140 = .ok (.ifCond .ne 5, 3) := by decide +kernel
theorem dX12_stage_143 : decode cX12_stage 143 = .ok (.iconst (-1), 1) := by decide +kernel
theorem dX12_stage_144 : decode cX12_stage 144 = .ok (.ireturn, 1) := by decide +kernel
theorem dX12_stage_145 : decode cX12_stage 145 = .ok (.iconst 0, 1) := by decide +kernel
theorem dX12_stage_146 : decode cX12_stage 146 = .ok (.istore_n 2, 1) := by decide +kernel
theorem dX12_stage_147 : decode cX12_stage 147 = .ok (.iload_n 2, 1) := by decide +kernel
theorem dX12_stage_148 : decode cX12_stage 148 = .ok (.sipush 430, 3) := by decide +kernel
theorem dX12_stage_151 : decode cX12_stage 151 = .ok (.if_icmp .ge 25, 3) := by decide +kernel
theorem dX12_stage_154 : decode cX12_stage 154 = .ok (.aload_n 0, 1) := by decide +kernel
theorem dX12_stage_155 : decode cX12_stage 155 = .ok (.getfield 35, 3) := by decide +kernel
theorem dX12_stage_158 : decode cX12_stage 158 = .ok (.iload_n 2, 1) := by decide +kernel
theorem dX12_stage_159 : decode cX12_stage 159 = .ok (.aload_n 0, 1) := by decide +kernel
theorem dX12_stage_160 : decode cX12_stage 160 = .ok (.getfield 35, 3) := by decide +kernel
theorem dX12_stage_163 : decode cX12_stage 163 = .ok (.sipush 1720, 3) := by decide +kernel
theorem dX12_stage_166 : decode cX12_stage 166 = .ok (.iload_n 2, 1) := by decide +kernel
theorem dX12_stage_167 : decode cX12_stage 167 = .ok (.iadd, 1) := by decide +kernel
theorem dX12_stage_168 : decode cX12_stage 168 = .ok (.iaload, 1) := by decide +kernel
theorem dX12_stage_169 : decode cX12_stage 169 = .ok (.iastore, 1) := by decide +kernel
theorem dX12_stage_170 : decode cX12_stage 170 = .ok (.iinc 2 1, 3) := by decide +kernel
theorem dX12_stage_173 : decode cX12_stage 173 = .ok (.goto (-26), 3) := by decide +kernel
theorem dX12_stage_176 : decode cX12_stage 176 = .ok (.iconst 0, 1) := by decide +kernel
theorem dX12_stage_177 : decode cX12_stage 177 = .ok (.istore_n 2, 1) := by decide +kernel
theorem dX12_stage_178 : decode cX12_stage 178 = .ok (.iload_n 2, 1) := by decide +kernel
theorem dX12_stage_179 : decode cX12_stage 179 = .ok (.bipush 28, 2) := by decide +kernel
theorem dX12_stage_181 : decode cX12_stage 181 = .ok (.if_icmp .ge 24, 3) := by decide +kernel
theorem dX12_stage_184 : decode cX12_stage 184 = .ok (.aload_n 0, 1) := by decide +kernel
theorem dX12_stage_185 : decode cX12_stage 185 = .ok (.getfield 41, 3) := by decide +kernel
theorem dX12_stage_188 : decode cX12_stage 188 = .ok (.iload_n 2, 1) := by decide +kernel
theorem dX12_stage_189 : decode cX12_stage 189 = .ok (.aload_n 0, 1) := by decide +kernel
theorem dX12_stage_190 : decode cX12_stage 190 = .ok (.getfield 41, 3) := by decide +kernel
theorem dX12_stage_193 : decode cX12_stage 193 = .ok (.bipush 112, 2) := by decide +kernel
theorem dX12_stage_195 : decode cX12_stage 195 = .ok (.iload_n 2, 1) := by decide +kernel
theorem dX12_stage_196 : decode cX12_stage 196 = .ok (.iadd, 1) := by decide +kernel
theorem dX12_stage_197 : decode cX12_stage 197 = .ok (.laload, 1) := by decide +kernel
theorem dX12_stage_198 : decode cX12_stage 198 = .ok (.lastore, 1) := by decide +kernel
theorem dX12_stage_199 : decode cX12_stage 199 = .ok (.iinc 2 1, 3) := by decide +kernel
theorem dX12_stage_202 : decode cX12_stage 202 = .ok (.goto (-24), 3) := by decide +kernel
theorem dX12_stage_205 : decode cX12_stage 205 = .ok (.aload_n 0, 1) := by decide +kernel
theorem dX12_stage_206 : decode cX12_stage 206 = .ok (.getfield 35, 3) := by decide +kernel
theorem dX12_stage_209 : decode cX12_stage 209 = .ok (.iconst 2, 1) := by decide +kernel
theorem dX12_stage_210 : decode cX12_stage 210 = .ok (.iaload, 1) := by decide +kernel
theorem dX12_stage_211 : decode cX12_stage 211 = .ok (.ireturn, 1) := by decide +kernel
theorem dX12_readScene2_0 : decode cX12_readScene2 0 = .ok (.aload_n 0, 1) := by decide +kernel
theorem dX12_readScene2_1 : decode cX12_readScene2 1 = .ok (.iconst 0, 1) := by decide +kernel
theorem dX12_readScene2_2 : decode cX12_readScene2 2 = .ok (.bipush 12, 2) := by decide +kernel
theorem dX12_readScene2_4 : decode cX12_readScene2 4 = .ok (.aload_n 0, 1) := by decide +kernel
theorem dX12_readScene2_5 : decode cX12_readScene2 5 = .ok (.getfield 35, 3) := by decide +kernel
theorem dX12_readScene2_8 : decode cX12_readScene2 8 = .ok (.iconst 2, 1) := by decide +kernel
theorem dX12_readScene2_9 : decode cX12_readScene2 9 = .ok (.iaload, 1) := by decide +kernel
theorem dX12_readScene2_10 : decode cX12_readScene2 10 = .ok (.invokevirtual 286, 3) := by decide +kernel
theorem dX12_readScene2_13 : decode cX12_readScene2 13 = .ok (.ireturn, 1) := by decide +kernel
theorem dX12_readRole2_0 : decode cX12_readRole2 0 = .ok (.aload_n 0, 1) := by decide +kernel
theorem dX12_readRole2_1 : decode cX12_readRole2 1 = .ok (.iconst 0, 1) := by decide +kernel
theorem dX12_readRole2_2 : decode cX12_readRole2 2 = .ok (.iconst 0, 1) := by decide +kernel
theorem dX12_readRole2_3 : decode cX12_readRole2 3 = .ok (.aload_n 0, 1) := by decide +kernel
theorem dX12_readRole2_4 : decode cX12_readRole2 4 = .ok (.getfield 35, 3) := by decide +kernel
theorem dX12_readRole2_7 : decode cX12_readRole2 7 = .ok (.iconst 0, 1) := by decide +kernel
theorem dX12_readRole2_8 : decode cX12_readRole2 8 = .ok (.iaload, 1) := by decide +kernel
theorem dX12_readRole2_9 : decode cX12_readRole2 9 = .ok (.invokevirtual 286, 3) := by decide +kernel
theorem dX12_readRole2_12 : decode cX12_readRole2 12 = .ok (.ireturn, 1) := by decide +kernel
theorem dX12_readTest_0 : decode cX12_readTest 0 = .ok (.aload_n 0, 1) := by decide +kernel
theorem dX12_readTest_1 : decode cX12_readTest 1 = .ok (.invokevirtual 240, 3) := by decide +kernel
theorem dX12_readTest_4 : decode cX12_readTest 4 = .ok (.istore_n 2, 1) := by decide +kernel
theorem dX12_readTest_5 : decode cX12_readTest 5 = .ok (.aload_n 0, 1) := by decide +kernel
theorem dX12_readTest_6 : decode cX12_readTest 6 = .ok (.iload_n 2, 1) := by decide +kernel
theorem dX12_readTest_7 : decode cX12_readTest 7 = .ok (.ifCond .lt 7, 3) := by decide +kernel
theorem dX12_readTest_10 : decode cX12_readTest 10 = .ok (.iconst 1, 1) := by decide +kernel
theorem dX12_readTest_11 : decode cX12_readTest 11 = .ok (.goto 4, 3) := by decide +kernel
theorem dX12_readTest_14 : decode cX12_readTest 14 = .ok (.iconst 0, 1) := by decide +kernel
theorem dX12_readTest_15 : decode cX12_readTest 15 = .ok (.invokevirtual 282, 3) := by decide +kernel
theorem dX12_readTest_18 : decode cX12_readTest 18 = .ok (.aload_n 0, 1) := by decide +kernel
theorem dX12_readTest_19 : decode cX12_readTest 19 = .ok (.getfield 35, 3) := by decide +kernel
theorem dX12_readTest_22 : decode cX12_readTest 22 = .ok (.iload_n 1, 1) := by decide +kernel
theorem dX12_readTest_23 : decode cX12_readTest 23 = .ok (.iconst 2, 1) := by decide +kernel
theorem dX12_readTest_24 : decode cX12_readTest 24 = .ok (.iadd, 1) := by decide +kernel
theorem dX12_readTest_25 : decode cX12_readTest 25 = .ok (.iload_n 2, 1) := by decide +kernel
theorem dX12_readTest_26 : decode cX12_readTest 26 = .ok (.iastore, 1) := by decide +kernel
theorem dX12_readTest_27 : decode cX12_readTest 27 = .ok (.iload_n 2, 1) := by decide +kernel
theorem dX12_readTest_28 : decode cX12_readTest 28 = .ok (.ifCond .ne 18, 3) := by decide +kernel
theorem dX12_readTest_31 : decode cX12_readTest 31 = .ok (.aload_n 0, 1) := by decide +kernel
theorem dX12_readTest_32 : decode cX12_readTest 32 = .ok (.getfield 35, 3) := by decide +kernel
theorem dX12_readTest_35 : decode cX12_readTest 35 = .ok (.iload_n 1, 1) := by decide +kernel
theorem dX12_readTest_36 : decode cX12_readTest 36 = .ok (.iconst 1, 1) := by decide +kernel
theorem dX12_readTest_37 : decode cX12_readTest 37 = .ok (.iadd, 1) := by decide +kernel
theorem dX12_readTest_38 : decode cX12_readTest 38 = .ok (.aload_n 0, 1) := by decide +kernel
theorem dX12_readTest_39 : decode cX12_readTest 39 = .ok (.invokevirtual 324, 3) := by decide +kernel
theorem dX12_readTest_42 : decode cX12_readTest 42 = .ok (.iastore, 1) := by decide +kernel
theorem dX12_readTest_43 : decode cX12_readTest 43 = .ok (.goto 126, 3) := by decide +kernel
theorem dX12_readTest_46 : decode cX12_readTest 46 = .ok (.iload_n 2, 1) := by decide +kernel
theorem dX12_readTest_47 : decode cX12_readTest 47 = .ok (.iconst 1, 1) := by decide +kernel
theorem dX12_readTest_48 : decode cX12_readTest 48 = .ok (.if_icmp .ne 18, 3) := by decide +kernel
theorem dX12_readTest_51 : decode cX12_readTest 51 = .ok (.aload_n 0, 1) := by decide +kernel
theorem dX12_readTest_52 : decode cX12_readTest 52 = .ok (.getfield 35, 3) := by decide +kernel
theorem dX12_readTest_55 : decode cX12_readTest 55 = .ok (.iload_n 1, 1) := by decide +kernel
theorem dX12_readTest_56 : decode cX12_readTest 56 = .ok (.iconst 1, 1) := by decide +kernel
theorem dX12_readTest_57 : decode cX12_readTest 57 = .ok (.iadd, 1) := by decide +kernel
theorem dX12_readTest_58 : decode cX12_readTest 58 = .ok (.aload_n 0, 1) := by decide +kernel
theorem dX12_readTest_59 : decode cX12_readTest 59 = .ok (.invokevirtual 327, 3) := by decide +kernel
theorem dX12_readTest_62 : decode cX12_readTest 62 = .ok (.iastore, 1) := by decide +kernel
theorem dX12_readTest_63 : decode cX12_readTest 63 = .ok (.goto 106, 3) := by decide +kernel
theorem dX12_readTest_66 : decode cX12_readTest 66 = .ok (.iload_n 2, 1) := by decide +kernel
theorem dX12_readTest_67 : decode cX12_readTest 67 = .ok (.iconst 2, 1) := by decide +kernel
theorem dX12_readTest_68 : decode cX12_readTest 68 = .ok (.if_icmp .ne 21, 3) := by decide +kernel
theorem dX12_readTest_71 : decode cX12_readTest 71 = .ok (.aload_n 0, 1) := by decide +kernel
theorem dX12_readTest_72 : decode cX12_readTest 72 = .ok (.getfield 35, 3) := by decide +kernel
theorem dX12_readTest_75 : decode cX12_readTest 75 = .ok (.iload_n 1, 1) := by decide +kernel
theorem dX12_readTest_76 : decode cX12_readTest 76 = .ok (.iconst 1, 1) := by decide +kernel
theorem dX12_readTest_77 : decode cX12_readTest 77 = .ok (.iadd, 1) := by decide +kernel
theorem dX12_readTest_78 : decode cX12_readTest 78 = .ok (.aload_n 0, 1) := by decide +kernel
theorem dX12_readTest_79 : decode cX12_readTest 79 = .ok (.iconst 0, 1) := by decide +kernel
theorem dX12_readTest_80 : decode cX12_readTest 80 = .ok (.bipush 9, 2) := by decide +kernel
theorem dX12_readTest_82 : decode cX12_readTest 82 = .ok (.invokevirtual 292, 3) := by decide +kernel
theorem dX12_readTest_85 : decode cX12_readTest 85 = .ok (.iastore, 1) := by decide +kernel
theorem dX12_readTest_86 : decode cX12_readTest 86 = .ok (.goto 83, 3) := by decide +kernel
theorem dX12_readTest_89 : decode cX12_readTest 89 = .ok (.iload_n 2, 1) := by decide +kernel
theorem dX12_readTest_90 : decode cX12_readTest 90 = .ok (.iconst 3, 1) := by decide +kernel
theorem dX12_readTest_91 : decode cX12_readTest 91 = .ok (.if_icmp .ne 78, 3) := by decide +kernel
theorem dX12_readTest_94 : decode cX12_readTest 94 = .ok (.aload_n 0, 1) := by decide +kernel
theorem dX12_readTest_95 : decode cX12_readTest 95 = .ok (.getfield 35, 3) := by decide +kernel
theorem dX12_readTest_98 : decode cX12_readTest 98 = .ok (.iload_n 1, 1) := by decide +kernel
theorem dX12_readTest_99 : decode cX12_readTest 99 = .ok (.iconst 3, 1) := by decide +kernel
theorem dX12_readTest_100 : decode cX12_readTest 100 = .ok (.iadd, 1) := by decide +kernel
theorem dX12_readTest_101 : decode cX12_readTest 101 = .ok (.aload_n 0, 1) := by decide +kernel
theorem dX12_readTest_102 : decode cX12_readTest 102 = .ok (.getfield 145, 3) := by decide +kernel
theorem dX12_readTest_105 : decode cX12_readTest 105 = .ok (.iconst 3, 1) := by decide +kernel
theorem dX12_readTest_106 : decode cX12_readTest 106 = .ok (.if_icmp .ne 10, 3) := by decide +kernel
theorem dX12_readTest_109 : decode cX12_readTest 109 = .ok (.aload_n 0, 1) := by decide +kernel
theorem dX12_readTest_110 : decode cX12_readTest 110 = .ok (.getfield 164, 3) := by decide +kernel
theorem dX12_readTest_113 : decode cX12_readTest 113 = .ok (.goto 4, 3) := by decide +kernel
theorem dX12_readTest_116 : decode cX12_readTest 116 = .ok (.iconst 0, 1) := by decide +kernel
theorem dX12_readTest_117 : decode cX12_readTest 117 = .ok (.iastore, 1) := by decide +kernel
theorem dX12_readTest_118 : decode cX12_readTest 118 = .ok (.aload_n 0, 1) := by decide +kernel
theorem dX12_readTest_119 : decode cX12_readTest 119 = .ok (.aload_n 0, 1) := by decide +kernel
theorem dX12_readTest_120 : decode cX12_readTest 120 = .ok (.bipush 60, 2) := by decide +kernel
theorem dX12_readTest_122 : decode cX12_readTest 122 = .ok (.invokevirtual 318, 3) := by decide +kernel
theorem dX12_readTest_125 : decode cX12_readTest 125 = .ok (.ifCond .ne 21, 3) := by decide +kernel
theorem dX12_readTest_128 : decode cX12_readTest 128 = .ok (.aload_n 0, 1) := by decide +kernel
theorem dX12_readTest_129 : decode cX12_readTest 129 = .ok (.bipush 62, 2) := by decide +kernel
theorem dX12_readTest_131 : decode cX12_readTest 131 = .ok (.invokevirtual 318, 3) := by decide +kernel
theorem dX12_readTest_134 : decode cX12_readTest 134 = .ok (.ifCond .ne 12, 3) := by decide +kernel
theorem dX12_readTest_137 : decode cX12_readTest 137 = .ok (.aload_n 0, 1) := by decide +kernel
theorem dX12_readTest_138 : decode cX12_readTest 138 = .ok (.bipush 61, 2) := by decide +kernel
theorem dX12_readTest_140 : decode cX12_readTest 140 = .ok (.invokevirtual 318, 3) := by decide +kernel
theorem dX12_readTest_143 : decode cX12_readTest 143 = .ok (.ifCond .eq 7, 3) := by decide +kernel
theorem dX12_readTest_146 : decode cX12_readTest 146 = .ok (.iconst 1, 1) := by decide +kernel
theorem dX12_readTest_147 : decode cX12_readTest 147 = .ok (.goto 4, 3) := by decide +kernel
theorem dX12_readTest_150 : decode cX12_readTest 150 = .ok (.iconst 0, 1) := by decide +kernel
theorem dX12_readTest_151 : decode cX12_readTest 151 = .ok (.invokevirtual 282, 3) := by decide +kernel
theorem dX12_readTest_154 : decode cX12_readTest 154 = .ok (.aload_n 0, 1) := by decide +kernel
theorem dX12_readTest_155 : decode cX12_readTest 155 = .ok (.getfield 35, 3) := by decide +kernel
theorem dX12_readTest_158 : decode cX12_readTest 158 = .ok (.iload_n 1, 1) := by decide +kernel
theorem dX12_readTest_159 : decode cX12_readTest 159 = .ok (.iconst 4, 1) := by decide +kernel
theorem dX12_readTest_160 : decode cX12_readTest 160 = .ok (.iadd, 1) := by decide +kernel
theorem dX12_readTest_161 : decode cX12_readTest 161 = .ok (.aload_n 0, 1) := by decide +kernel
theorem dX12_readTest_162 : decode cX12_readTest 162 = .ok (.iconst 0, 1) := by decide +kernel
theorem dX12_readTest_163 : decode cX12_readTest 163 = .ok (.bipush 99, 2) := by decide +kernel
theorem dX12_readTest_165 : decode cX12_readTest 165 = .ok (.invokevirtual 292, 3) := by decide +kernel
theorem dX12_readTest_168 : decode cX12_readTest 168 = .ok (.iastore, 1) := by decide +kernel
theorem dX12_readTest_169 : decode cX12_readTest 169 = .ok (.return_, 1) := by decide +kernel
theorem dX12_readRest_0 : decode cX12_readRest 0 = .ok (.aload_n 0, 1) := by decide +kernel
theorem dX12_readRest_1 : decode cX12_readRest 1 = .ok (.getfield 35, 3) := by decide +kernel
theorem dX12_readRest_4 : decode cX12_readRest 4 = .ok (.iload_n 1, 1) := by decide +kernel
theorem dX12_readRest_5 : decode cX12_readRest 5 = .ok (.iaload, 1) := by decide +kernel
theorem dX12_readRest_6 : decode cX12_readRest 6 = .ok (.istore_n 2, 1) := by decide +kernel
theorem dX12_readRest_7 : decode cX12_readRest 7 = .ok (.aload_n 0, 1) := by decide +kernel
theorem dX12_readRest_8 : decode cX12_readRest 8 = .ok (.getfield 35, 3) := by decide +kernel
theorem dX12_readRest_11 : decode cX12_readRest 11 = .ok (.iload_n 1, 1) := by decide +kernel
theorem dX12_readRest_12 : decode cX12_readRest 12 = .ok (.iconst 1, 1) := by decide +kernel
theorem dX12_readRest_13 : decode cX12_readRest 13 = .ok (.iadd, 1) := by decide +kernel
theorem dX12_readRest_14 : decode cX12_readRest 14 = .ok (.iconst (-1), 1) := by decide +kernel
theorem dX12_readRest_15 : decode cX12_readRest 15 = .ok (.iastore, 1) := by decide +kernel
theorem dX12_readRest_16 : decode cX12_readRest 16 = .ok (.iload_n 2, 1) := by decide +kernel
theorem dX12_readRest_17 : decode cX12_readRest 17 = .ok (.ifCond .ne 35, 3) := by decide +kernel
theorem dX12_readRest_20 : decode cX12_readRest 20 = .ok (.aload_n 0, 1) := by decide +kernel
theorem dX12_readRest_21 : decode cX12_readRest 21 = .ok (.getfield 145, 3) := by decide +kernel
theorem dX12_readRest_24 : decode cX12_readRest 24 = .ok (.iconst 1, 1) := by decide +kernel
theorem dX12_readRest_25 : decode cX12_readRest 25 = .ok (.if_icmp .ne 27, 3) := by decide +kernel
theorem dX12_readRest_28 : decode cX12_readRest 28 = .ok (.aload_n 0, 1) := by decide +kernel
theorem dX12_readRest_29 : decode cX12_readRest 29 = .ok (.getfield 35, 3) := by decide +kernel
theorem dX12_readRest_32 : decode cX12_readRest 32 = .ok (.iload_n 1, 1) := by decide +kernel
theorem dX12_readRest_33 : decode cX12_readRest 33 = .ok (.iconst 1, 1) := by decide +kernel
theorem dX12_readRest_34 : decode cX12_readRest 34 = .ok (.iadd, 1) := by decide +kernel
theorem dX12_readRest_35 : decode cX12_readRest 35 = .ok (.aload_n 0, 1) := by decide +kernel
theorem dX12_readRest_36 : decode cX12_readRest 36 = .ok (.iconst 0, 1) := by decide +kernel
theorem dX12_readRest_37 : decode cX12_readRest 37 = .ok (.bipush 24, 2) := by decide +kernel
theorem dX12_readRest_39 : decode cX12_readRest 39 = .ok (.aload_n 0, 1) := by decide +kernel
theorem dX12_readRest_40 : decode cX12_readRest 40 = .ok (.getfield 35, 3) := by decide +kernel
theorem dX12_readRest_43 : decode cX12_readRest 43 = .ok (.iconst 3, 1) := by decide +kernel
theorem dX12_readRest_44 : decode cX12_readRest 44 = .ok (.iaload, 1) := by decide +kernel
theorem dX12_readRest_45 : decode cX12_readRest 45 = .ok (.invokevirtual 286, 3) := by decide +kernel
theorem dX12_readRest_48 : decode cX12_readRest 48 = .ok (.iastore, 1) := by decide +kernel
theorem dX12_readRest_49 : decode cX12_readRest 49 = .ok (.goto 87, 3) := by decide +kernel
theorem dX12_readRest_52 : decode cX12_readRest 52 = .ok (.iload_n 2, 1) := by decide +kernel
theorem dX12_readRest_53 : decode cX12_readRest 53 = .ok (.iconst 1, 1) := by decide +kernel
theorem dX12_readRest_54 : decode cX12_readRest 54 = .ok (.if_icmp .eq 8, 3) := by decide +kernel
theorem dX12_readRest_57 : decode cX12_readRest 57 = .ok (.iload_n 2, 1) := by decide +kernel
theorem dX12_readRest_58 : decode cX12_readRest 58 = .ok (.iconst 2, 1) := by decide +kernel
theorem dX12_readRest_59 : decode cX12_readRest 59 = .ok (.if_icmp .ne 18, 3) := by decide +kernel
theorem dX12_readRest_62 : decode cX12_readRest 62 = .ok (.aload_n 0, 1) := by decide +kernel
theorem dX12_readRest_63 : decode cX12_readRest 63 = .ok (.getfield 35, 3) := by decide +kernel
theorem dX12_readRest_66 : decode cX12_readRest 66 = .ok (.iload_n 1, 1) := by decide +kernel
theorem dX12_readRest_67 : decode cX12_readRest 67 = .ok (.iconst 1, 1) := by decide +kernel
theorem dX12_readRest_68 : decode cX12_readRest 68 = .ok (.iadd, 1) := by decide +kernel
theorem dX12_readRest_69 : decode cX12_readRest 69 = .ok (.aload_n 0, 1) := by decide +kernel
theorem dX12_readRest_70 : decode cX12_readRest 70 = .ok (.invokevirtual 324, 3) := by decide +kernel
theorem dX12_readRest_73 : decode cX12_readRest 73 = .ok (.iastore, 1) := by decide +kernel
theorem dX12_readRest_74 : decode cX12_readRest 74 = .ok (.goto 62, 3) := by decide +kernel
theorem dX12_readRest_77 : decode cX12_readRest 77 = .ok (.iload_n 2, 1) := by decide +kernel
theorem dX12_readRest_78 : decode cX12_readRest 78 = .ok (.iconst 3, 1) := by decide +kernel
theorem dX12_readRest_79 : decode cX12_readRest 79 = .ok (.if_icmp .eq 8, 3) := by decide +kernel
theorem dX12_readRest_82 : decode cX12_readRest 82 = .ok (.iload_n 2, 1) := by decide +kernel
theorem dX12_readRest_83 : decode cX12_readRest 83 = .ok (.iconst 4, 1) := by decide +kernel
theorem dX12_readRest_84 : decode cX12_readRest 84 = .ok (.if_icmp .ne 18, 3) := by decide +kernel
theorem dX12_readRest_87 : decode cX12_readRest 87 = .ok (.aload_n 0, 1) := by decide +kernel
theorem dX12_readRest_88 : decode cX12_readRest 88 = .ok (.getfield 35, 3) := by decide +kernel
theorem dX12_readRest_91 : decode cX12_readRest 91 = .ok (.iload_n 1, 1) := by decide +kernel
theorem dX12_readRest_92 : decode cX12_readRest 92 = .ok (.iconst 1, 1) := by decide +kernel
theorem dX12_readRest_93 : decode cX12_readRest 93 = .ok (.iadd, 1) := by decide +kernel
theorem dX12_readRest_94 : decode cX12_readRest 94 = .ok (.aload_n 0, 1) := by decide +kernel
theorem dX12_readRest_95 : decode cX12_readRest 95 = .ok (.invokevirtual 327, 3) := by decide +kernel
theorem dX12_readRest_98 : decode cX12_readRest 98 = .ok (.iastore, 1) := by decide +kernel
theorem dX12_readRest_99 : decode cX12_readRest 99 = .ok (.goto 37, 3) := by decide +kernel
theorem dX12_readRest_102 : decode cX12_readRest 102 = .ok (.iload_n 2, 1) := by decide +kernel
theorem dX12_readRest_103 : decode cX12_readRest 103 = .ok (.iconst 5, 1) := by decide +kernel
theorem dX12_readRest_104 : decode cX12_readRest 104 = .ok (.if_icmp .ne 11, 3) := by decide +kernel
theorem dX12_readRest_107 : decode cX12_readRest 107 = .ok (.aload_n 0, 1) := by decide +kernel
theorem dX12_readRest_108 : decode cX12_readRest 108 = .ok (.iload_n 1, 1) := by decide +kernel
theorem dX12_readRest_109 : decode cX12_readRest 109 = .ok (.invokevirtual 330, 3) := by decide +kernel
theorem dX12_readRest_112 : decode cX12_readRest 112 = .ok (.goto 24, 3) := by decide +kernel
theorem dX12_readRest_115 : decode cX12_readRest 115 = .ok (.iload_n 2, 1) := by decide +kernel
theorem dX12_readRest_116 : decode cX12_readRest 116 = .ok (.bipush 6, 2) := by decide +kernel
theorem dX12_readRest_118 : decode cX12_readRest 118 = .ok (.if_icmp .ne 18, 3) := by decide +kernel
theorem dX12_readRest_121 : decode cX12_readRest 121 = .ok (.aload_n 0, 1) := by decide +kernel
theorem dX12_readRest_122 : decode cX12_readRest 122 = .ok (.getfield 35, 3) := by decide +kernel
theorem dX12_readRest_125 : decode cX12_readRest 125 = .ok (.iload_n 1, 1) := by decide +kernel
theorem dX12_readRest_126 : decode cX12_readRest 126 = .ok (.iconst 1, 1) := by decide +kernel
theorem dX12_readRest_127 : decode cX12_readRest 127 = .ok (.iadd, 1) := by decide +kernel
theorem dX12_readRest_128 : decode cX12_readRest 128 = .ok (.aload_n 0, 1) := by decide +kernel
theorem dX12_readRest_129 : decode cX12_readRest 129 = .ok (.iconst 1, 1) := by decide +kernel
theorem dX12_readRest_130 : decode cX12_readRest 130 = .ok (.bipush 99, 2) := by decide +kernel
theorem dX12_readRest_132 : decode cX12_readRest 132 = .ok (.invokevirtual 292, 3) := by decide +kernel
theorem dX12_readRest_135 : decode cX12_readRest 135 = .ok (.iastore, 1) := by decide +kernel
theorem dX12_readRest_136 : decode cX12_readRest 136 = .ok (.return_, 1) := by decide +kernel
theorem dX12_readStep_0 : decode cX12_readStep 0 = .ok (.aload_n 0, 1) := by decide +kernel
theorem dX12_readStep_1 : decode cX12_readStep 1 = .ok (.invokevirtual 236, 3) := by decide +kernel
theorem dX12_readStep_4 : decode cX12_readStep 4 = .ok (.istore_n 2, 1) := by decide +kernel
theorem dX12_readStep_5 : decode cX12_readStep 5 = .ok (.iload_n 2, 1) := by decide +kernel
theorem dX12_readStep_6 : decode cX12_readStep 6 = .ok (.iconst 5, 1) := by decide +kernel
theorem dX12_readStep_7 : decode cX12_readStep 7 = .ok (.if_icmp .eq 9, 3) := by decide +kernel
theorem dX12_readStep_10 : decode cX12_readStep 10 = .ok (.iload_n 2, 1) := by decide +kernel
theorem dX12_readStep_11 : decode cX12_readStep 11 = .ok (.bipush 6, 2) := by decide +kernel
theorem dX12_readStep_13 : decode cX12_readStep 13 = .ok (.if_icmp .ne 7, 3) := by decide +kernel
theorem dX12_readStep_16 : decode cX12_readStep 16 = .ok (.iconst 1, 1) := by decide +kernel
theorem dX12_readStep_17 : decode cX12_readStep 17 = .ok (.goto 4, 3) := by decide +kernel
theorem dX12_readStep_20 : decode cX12_readStep 20 = .ok (.iconst 0, 1) := by decide +kernel
theorem dX12_readStep_21 : decode cX12_readStep 21 = .ok (.istore_n 3, 1) := by decide +kernel
theorem dX12_readStep_22 : decode cX12_readStep 22 = .ok (.iload_n 2, 1) := by decide +kernel
theorem dX12_readStep_23 : decode cX12_readStep 23 = .ok (.ifCond .ge 7, 3) := by decide +kernel
theorem dX12_readStep_26 : decode cX12_readStep 26 = .ok (.aload_n 0, 1) := by decide +kernel
theorem dX12_readStep_27 : decode cX12_readStep 27 = .ok (.invokevirtual 262, 3) := by decide +kernel
theorem dX12_readStep_30 : decode cX12_readStep 30 = .ok (.aload_n 0, 1) := by decide +kernel
theorem dX12_readStep_31 : decode cX12_readStep 31 = .ok (.getfield 249, 3) := by decide +kernel
theorem dX12_readStep_34 : decode cX12_readStep 34 = .ok (.ifCond .ne 22, 3) := by decide +kernel
theorem dX12_readStep_37 : decode cX12_readStep 37 = .ok (.aload_n 0, 1) := by decide +kernel
theorem dX12_readStep_38 : decode cX12_readStep 38 = .ok (.getfield 333, 3) := by decide +kernel
theorem dX12_readStep_41 : decode cX12_readStep 41 = .ok (.bipush 30, 2) := by decide +kernel
theorem dX12_readStep_43 : decode cX12_readStep 43 = .ok (.if_icmp .ne 13, 3) := by decide +kernel
theorem dX12_readStep_46 : decode cX12_readStep 46 = .ok (.aload_n 0, 1) := by decide +kernel
theorem dX12_readStep_47 : decode cX12_readStep 47 = .ok (.bipush 6, 2) := by decide +kernel
theorem dX12_readStep_49 : decode cX12_readStep 49 = .ok (.aload_n 0, 1) := by decide +kernel
theorem dX12_readStep_50 : decode cX12_readStep 50 = .ok (.getfield 139, 3) := by decide +kernel
theorem dX12_readStep_53 : decode cX12_readStep 53 = .ok (.invokevirtual 255, 3) := by decide +kernel
theorem dX12_readStep_56 : decode cX12_readStep 56 = .ok (.aload_n 0, 1) := by decide +kernel
theorem dX12_readStep_57 : decode cX12_readStep 57 = .ok (.getfield 249, 3) := by decide +kernel
theorem dX12_readStep_60 : decode cX12_readStep 60 = .ok (.ifCond .ne 22, 3) := by decide +kernel
theorem dX12_readStep_63 : decode cX12_readStep 63 = .ok (.iload_n 3, 1) := by decide +kernel
theorem dX12_readStep_64 : decode cX12_readStep 64 = .ok (.ifCond .eq 18, 3) := by decide +kernel
theorem dX12_readStep_67 : decode cX12_readStep 67 = .ok (.iload_n 1, 1) := by decide +kernel
theorem dX12_readStep_68 : decode cX12_readStep 68 = .ok (.iconst 3, 1) := by decide +kernel
theorem dX12_readStep_69 : decode cX12_readStep 69 = .ok (.if_icmp .ne 13, 3) := by decide +kernel
theorem dX12_readStep_72 : decode cX12_readStep 72 = .ok (.aload_n 0, 1) := by decide +kernel
theorem dX12_readStep_73 : decode cX12_readStep 73 = .ok (.bipush 7, 2) := by decide +kernel
theorem dX12_readStep_75 : decode cX12_readStep 75 = .ok (.aload_n 0, 1) := by decide +kernel
theorem dX12_readStep_76 : decode cX12_readStep 76 = .ok (.getfield 139, 3) := by decide +kernel
theorem dX12_readStep_79 : decode cX12_readStep 79 = .ok (.invokevirtual 255, 3) := by decide +kernel
theorem dX12_readStep_82 : decode cX12_readStep 82 = .ok (.aload_n 0, 1) := by decide +kernel
theorem dX12_readStep_83 : decode cX12_readStep 83 = .ok (.getfield 249, 3) := by decide +kernel
theorem dX12_readStep_86 : decode cX12_readStep 86 = .ok (.ifCond .le 4, 3) := by decide +kernel
theorem dX12_readStep_89 : decode cX12_readStep 89 = .ok (.return_, 1) := by decide +kernel
theorem dX12_readStep_90 : decode cX12_readStep 90 = .ok (.sipush 1939, 3) := by decide +kernel
theorem dX12_readStep_93 : decode cX12_readStep 93 = .ok (.bipush 7, 2) := by decide +kernel
theorem dX12_readStep_95 : decode cX12_readStep 95 = .ok (.aload_n 0, 1) := by decide +kernel
theorem dX12_readStep_96 : decode cX12_readStep 96 = .ok (.getfield 333, 3) := by decide +kernel
theorem dX12_readStep_99 : decode cX12_readStep 99 = .ok (.imul, 1) := by decide +kernel
theorem dX12_readStep_100 : decode cX12_readStep 100 = .ok (.iadd, 1) := by decide +kernel
theorem dX12_readStep_101 : decode cX12_readStep 101 = .ok (.istore 4, 2) := by decide +kernel
theorem dX12_readStep_103 : decode cX12_readStep 103 = .ok (.aload_n 0, 1) := by decide +kernel
theorem dX12_readStep_104 : decode cX12_readStep 104 = .ok (.dup, 1) := by decide +kernel
theorem dX12_readStep_105 : decode cX12_readStep 105 = .ok (.getfield 333, 3) := by decide +kernel
theorem dX12_readStep_108 : decode cX12_readStep 108 = .ok (.iconst 1, 1) := by decide +kernel
theorem dX12_readStep_109 : decode cX12_readStep 109 = .ok (.iadd, 1) := by decide +kernel
theorem dX12_readStep_110 : decode cX12_readStep 110 = .ok (.putfield 333, 3) := by decide +kernel
theorem dX12_readStep_113 : decode cX12_readStep 113 = .ok (.aload_n 0, 1) := by decide +kernel
theorem dX12_readStep_114 : decode cX12_readStep 114 = .ok (.invokevirtual 259, 3) := by decide +kernel
theorem dX12_readStep_117 : decode cX12_readStep 117 = .ok (.aload_n 0, 1) := by decide +kernel
theorem dX12_readStep_118 : decode cX12_readStep 118 = .ok (.getfield 35, 3) := by decide +kernel
theorem dX12_readStep_121 : decode cX12_readStep 121 = .ok (.iload 4, 2) := by decide +kernel
theorem dX12_readStep_123 : decode cX12_readStep 123 = .ok (.iload_n 2, 1) := by decide +kernel
theorem dX12_readStep_124 : decode cX12_readStep 124 = .ok (.iastore, 1) := by decide +kernel
theorem dX12_readStep_125 : decode cX12_readStep 125 = .ok (.aload_n 0, 1) := by decide +kernel
theorem dX12_readStep_126 : decode cX12_readStep 126 = .ok (.iload 4, 2) := by decide +kernel
theorem dX12_readStep_128 : decode cX12_readStep 128 = .ok (.invokevirtual 336, 3) := by decide +kernel
theorem dX12_readStep_131 : decode cX12_readStep 131 = .ok (.aload_n 0, 1) := by decide +kernel
theorem dX12_readStep_132 : decode cX12_readStep 132 = .ok (.aload_n 0, 1) := by decide +kernel
theorem dX12_readStep_133 : decode cX12_readStep 133 = .ok (.bipush 59, 2) := by decide +kernel
theorem dX12_readStep_135 : decode cX12_readStep 135 = .ok (.invokevirtual 318, 3) := by decide +kernel
theorem dX12_readStep_138 : decode cX12_readStep 138 = .ok (.invokevirtual 282, 3) := by decide +kernel
theorem dX12_readStep_141 : decode cX12_readStep 141 = .ok (.iload_n 3, 1) := by decide +kernel
theorem dX12_readStep_142 : decode cX12_readStep 142 = .ok (.ifCond .eq 27, 3) := by decide +kernel
theorem dX12_readStep_145 : decode cX12_readStep 145 = .ok (.aload_n 0, 1) := by decide +kernel
theorem dX12_readStep_146 : decode cX12_readStep 146 = .ok (.getfield 249, 3) := by decide +kernel
theorem dX12_readStep_149 : decode cX12_readStep 149 = .ok (.ifCond .ne 20, 3) := by decide +kernel
theorem dX12_readStep_152 : decode cX12_readStep 152 = .ok (.aload_n 0, 1) := by decide +kernel
theorem dX12_readStep_153 : decode cX12_readStep 153 = .ok (.invokevirtual 243, 3) := by decide +kernel
theorem dX12_readStep_156 : decode cX12_readStep 156 = .ok (.ifCond .ne 13, 3) := by decide +kernel
theorem dX12_readStep_159 : decode cX12_readStep 159 = .ok (.aload_n 0, 1) := by decide +kernel
theorem dX12_readStep_160 : decode cX12_readStep 160 = .ok (.iload_n 1, 1) := by decide +kernel
theorem dX12_readStep_161 : decode cX12_readStep 161 = .ok (.iconst 1, 1) := by decide +kernel
theorem dX12_readStep_162 : decode cX12_readStep 162 = .ok (.iadd, 1) := by decide +kernel
theorem dX12_readStep_163 : decode cX12_readStep 163 = .ok (.invokevirtual 339, 3) := by decide +kernel
theorem dX12_readStep_166 : decode cX12_readStep 166 = .ok (.goto (-25), 3) := by decide +kernel
theorem dX12_readStep_169 : decode cX12_readStep 169 = .ok (.iload_n 3, 1) := by decide +kernel
theorem dX12_readStep_170 : decode cX12_readStep 170 = .ok (.ifCond .eq 21, 3) := by decide +kernel
theorem dX12_readStep_173 : decode cX12_readStep 173 = .ok (.aload_n 0, 1) := by decide +kernel
theorem dX12_readStep_174 : decode cX12_readStep 174 = .ok (.aload_n 0, 1) := by decide +kernel
theorem dX12_readStep_175 : decode cX12_readStep 175 = .ok (.invokevirtual 243, 3) := by decide +kernel
theorem dX12_readStep_178 : decode cX12_readStep 178 = .ok (.invokevirtual 282, 3) := by decide +kernel
theorem dX12_readStep_181 : decode cX12_readStep 181 = .ok (.aload_n 0, 1) := by decide +kernel
theorem dX12_readStep_182 : decode cX12_readStep 182 = .ok (.aload_n 0, 1) := by decide +kernel
theorem dX12_readStep_183 : decode cX12_readStep 183 = .ok (.bipush 59, 2) := by decide +kernel
theorem dX12_readStep_185 : decode cX12_readStep 185 = .ok (.invokevirtual 318, 3) := by decide +kernel
theorem dX12_readStep_188 : decode cX12_readStep 188 = .ok (.invokevirtual 282, 3) := by decide +kernel
theorem dX12_readStep_191 : decode cX12_readStep 191 = .ok (.aload_n 0, 1) := by decide +kernel
theorem dX12_readStep_192 : decode cX12_readStep 192 = .ok (.getfield 35, 3) := by decide +kernel
theorem dX12_readStep_195 : decode cX12_readStep 195 = .ok (.iload 4, 2) := by decide +kernel
theorem dX12_readStep_197 : decode cX12_readStep 197 = .ok (.bipush 6, 2) := by decide +kernel
theorem dX12_readStep_199 : decode cX12_readStep 199 = .ok (.iadd, 1) := by decide +kernel
theorem dX12_readStep_200 : decode cX12_readStep 200 = .ok (.aload_n 0, 1) := by decide +kernel
theorem dX12_readStep_201 : decode cX12_readStep 201 = .ok (.getfield 333, 3) := by decide +kernel
theorem dX12_readStep_204 : decode cX12_readStep 204 = .ok (.iastore, 1) := by decide +kernel
theorem dX12_readStep_205 : decode cX12_readStep 205 = .ok (.return_, 1) := by decide +kernel
theorem dX12_week_0 : decode cX12_week 0 = .ok (.aload_n 0, 1) := by decide +kernel
theorem dX12_week_1 : decode cX12_week 1 = .ok (.iconst 0, 1) := by decide +kernel
theorem dX12_week_2 : decode cX12_week 2 = .ok (.putfield 90, 3) := by decide +kernel
theorem dX12_week_5 : decode cX12_week 5 = .ok (.aload_n 0, 1) := by decide +kernel
theorem dX12_week_6 : decode cX12_week 6 = .ok (.iconst 0, 1) := by decide +kernel
theorem dX12_week_7 : decode cX12_week 7 = .ok (.putfield 93, 3) := by decide +kernel
theorem dX12_week_10 : decode cX12_week 10 = .ok (.aload_n 0, 1) := by decide +kernel
theorem dX12_week_11 : decode cX12_week 11 = .ok (.iload_n 1, 1) := by decide +kernel
theorem dX12_week_12 : decode cX12_week 12 = .ok (.sipush 300, 3) := by decide +kernel
theorem dX12_week_15 : decode cX12_week 15 = .ok (.invokevirtual 302, 3) := by decide +kernel
theorem dX12_week_18 : decode cX12_week 18 = .ok (.ifCond .ne 5, 3) := by decide +kernel
theorem dX12_week_21 : decode cX12_week 21 = .ok (.iconst (-1), 1) := by decide +kernel
theorem dX12_week_22 : decode cX12_week 22 = .ok (.ireturn, 1) := by decide +kernel
theorem dX12_week_23 : decode cX12_week 23 = .ok (.aload_n 0, 1) := by decide +kernel
theorem dX12_week_24 : decode cX12_week 24 = .ok (.iconst 0, 1) := by decide +kernel
theorem dX12_week_25 : decode cX12_week 25 = .ok (.putfield 333, 3) := by decide +kernel
theorem dX12_week_28 : decode cX12_week 28 = .ok (.aload_n 0, 1) := by decide +kernel
theorem dX12_week_29 : decode cX12_week 29 = .ok (.getfield 249, 3) := by decide +kernel
theorem dX12_week_32 : decode cX12_week 32 = .ok (.ifCond .ne 18, 3) := by decide +kernel
theorem dX12_week_35 : decode cX12_week 35 = .ok (.aload_n 0, 1) := by decide +kernel
theorem dX12_week_36 : decode cX12_week 36 = .ok (.getfield 145, 3) := by decide +kernel
theorem dX12_week_39 : decode cX12_week 39 = .ok (.ifCond .eq 11, 3) := by decide +kernel
theorem dX12_week_42 : decode cX12_week 42 = .ok (.aload_n 0, 1) := by decide +kernel
theorem dX12_week_43 : decode cX12_week 43 = .ok (.iconst 0, 1) := by decide +kernel
theorem dX12_week_44 : decode cX12_week 44 = .ok (.invokevirtual 339, 3) := by decide +kernel
theorem dX12_week_47 : decode cX12_week 47 = .ok (.goto (-19), 3) := by decide +kernel
theorem dX12_week_50 : decode cX12_week 50 = .ok (.aload_n 0, 1) := by decide +kernel
theorem dX12_week_51 : decode cX12_week 51 = .ok (.invokevirtual 321, 3) := by decide +kernel
theorem dX12_week_54 : decode cX12_week 54 = .ok (.ifCond .ne 5, 3) := by decide +kernel
theorem dX12_week_57 : decode cX12_week 57 = .ok (.iconst (-1), 1) := by decide +kernel
theorem dX12_week_58 : decode cX12_week 58 = .ok (.ireturn, 1) := by decide +kernel
theorem dX12_week_59 : decode cX12_week 59 = .ok (.aload_n 0, 1) := by decide +kernel
theorem dX12_week_60 : decode cX12_week 60 = .ok (.getfield 35, 3) := by decide +kernel
theorem dX12_week_63 : decode cX12_week 63 = .ok (.sipush 217, 3) := by decide +kernel
theorem dX12_week_66 : decode cX12_week 66 = .ok (.iconst 1, 1) := by decide +kernel
theorem dX12_week_67 : decode cX12_week 67 = .ok (.iastore, 1) := by decide +kernel
theorem dX12_week_68 : decode cX12_week 68 = .ok (.aload_n 0, 1) := by decide +kernel
theorem dX12_week_69 : decode cX12_week 69 = .ok (.getfield 35, 3) := by decide +kernel
theorem dX12_week_72 : decode cX12_week 72 = .ok (.sipush 218, 3) := by decide +kernel
theorem dX12_week_75 : decode cX12_week 75 = .ok (.aload_n 0, 1) := by decide +kernel
theorem dX12_week_76 : decode cX12_week 76 = .ok (.getfield 333, 3) := by decide +kernel
theorem dX12_week_79 : decode cX12_week 79 = .ok (.iastore, 1) := by decide +kernel
theorem dX12_week_80 : decode cX12_week 80 = .ok (.iconst 0, 1) := by decide +kernel
theorem dX12_week_81 : decode cX12_week 81 = .ok (.istore_n 2, 1) := by decide +kernel
theorem dX12_week_82 : decode cX12_week 82 = .ok (.iload_n 2, 1) := by decide +kernel
theorem dX12_week_83 : decode cX12_week 83 = .ok (.bipush 7, 2) := by decide +kernel
theorem dX12_week_85 : decode cX12_week 85 = .ok (.aload_n 0, 1) := by decide +kernel
theorem dX12_week_86 : decode cX12_week 86 = .ok (.getfield 333, 3) := by decide +kernel
theorem dX12_week_89 : decode cX12_week 89 = .ok (.imul, 1) := by decide +kernel
theorem dX12_week_90 : decode cX12_week 90 = .ok (.if_icmp .ge 29, 3) := by decide +kernel
theorem dX12_week_93 : decode cX12_week 93 = .ok (.aload_n 0, 1) := by decide +kernel
theorem dX12_week_94 : decode cX12_week 94 = .ok (.getfield 35, 3) := by decide +kernel
theorem dX12_week_97 : decode cX12_week 97 = .ok (.sipush 219, 3) := by decide +kernel
theorem dX12_week_100 : decode cX12_week 100 = .ok (.iload_n 2, 1) := by decide +kernel
theorem dX12_week_101 : decode cX12_week 101 = .ok (.iadd, 1) := by decide +kernel
theorem dX12_week_102 : decode cX12_week 102 = .ok (.aload_n 0, 1) := by decide +kernel
theorem dX12_week_103 : decode cX12_week 103 = .ok (.getfield 35, 3) := by decide +kernel
theorem dX12_week_106 : decode cX12_week 106 = .ok (.sipush 1939, 3) := by decide +kernel
theorem dX12_week_109 : decode cX12_week 109 = .ok (.iload_n 2, 1) := by decide +kernel
theorem dX12_week_110 : decode cX12_week 110 = .ok (.iadd, 1) := by decide +kernel
theorem dX12_week_111 : decode cX12_week 111 = .ok (.iaload, 1) := by decide +kernel
theorem dX12_week_112 : decode cX12_week 112 = .ok (.iastore, 1) := by decide +kernel
theorem dX12_week_113 : decode cX12_week 113 = .ok (.iinc 2 1, 3) := by decide +kernel
theorem dX12_week_116 : decode cX12_week 116 = .ok (.goto (-34), 3) := by decide +kernel
theorem dX12_week_119 : decode cX12_week 119 = .ok (.aload_n 0, 1) := by decide +kernel
theorem dX12_week_120 : decode cX12_week 120 = .ok (.getfield 333, 3) := by decide +kernel
theorem dX12_week_123 : decode cX12_week 123 = .ok (.ireturn, 1) := by decide +kernel
theorem dX12_isRoleAt_0 : decode cX12_isRoleAt 0 = .ok (.iload_n 1, 1) := by decide +kernel
theorem dX12_isRoleAt_1 : decode cX12_isRoleAt 1 = .ok (.i2l, 1) := by decide +kernel
theorem dX12_isRoleAt_2 : decode cX12_isRoleAt 2 = .ok (.lconst 0, 1) := by decide +kernel
theorem dX12_isRoleAt_3 : decode cX12_isRoleAt 3 = .ok (.aload_n 0, 1) := by decide +kernel
theorem dX12_isRoleAt_4 : decode cX12_isRoleAt 4 = .ok (.getfield 35, 3) := by decide +kernel
theorem dX12_isRoleAt_7 : decode cX12_isRoleAt 7 = .ok (.iconst 0, 1) := by decide +kernel
theorem dX12_isRoleAt_8 : decode cX12_isRoleAt 8 = .ok (.iaload, 1) := by decide +kernel
theorem dX12_isRoleAt_9 : decode cX12_isRoleAt 9 = .ok (.iconst 1, 1) := by decide +kernel
theorem dX12_isRoleAt_10 : decode cX12_isRoleAt 10 = .ok (.isub, 1) := by decide +kernel
theorem dX12_isRoleAt_11 : decode cX12_isRoleAt 11 = .ok (.i2l, 1) := by decide +kernel
theorem dX12_isRoleAt_12 : decode cX12_isRoleAt 12 = .ok (.invokestatic 129, 3) := by decide +kernel
theorem dX12_isRoleAt_15 : decode cX12_isRoleAt 15 = .ok (.ireturn, 1) := by decide +kernel
theorem dX12_isActorAt_0 : decode cX12_isActorAt 0 = .ok (.iload_n 1, 1) := by decide +kernel
theorem dX12_isActorAt_1 : decode cX12_isActorAt 1 = .ok (.i2l, 1) := by decide +kernel
theorem dX12_isActorAt_2 : decode cX12_isActorAt 2 = .ok (.lconst 0, 1) := by decide +kernel
theorem dX12_isActorAt_3 : decode cX12_isActorAt 3 = .ok (.aload_n 0, 1) := by decide +kernel
theorem dX12_isActorAt_4 : decode cX12_isActorAt 4 = .ok (.getfield 35, 3) := by decide +kernel
theorem dX12_isActorAt_7 : decode cX12_isActorAt 7 = .ok (.iconst 1, 1) := by decide +kernel
theorem dX12_isActorAt_8 : decode cX12_isActorAt 8 = .ok (.iaload, 1) := by decide +kernel
theorem dX12_isActorAt_9 : decode cX12_isActorAt 9 = .ok (.iconst 1, 1) := by decide +kernel
theorem dX12_isActorAt_10 : decode cX12_isActorAt 10 = .ok (.isub, 1) := by decide +kernel
theorem dX12_isActorAt_11 : decode cX12_isActorAt 11 = .ok (.i2l, 1) := by decide +kernel
theorem dX12_isActorAt_12 : decode cX12_isActorAt 12 = .ok (.invokestatic 129, 3) := by decide +kernel
theorem dX12_isActorAt_15 : decode cX12_isActorAt 15 = .ok (.ireturn, 1) := by decide +kernel
theorem dX12_isSceneAt_0 : decode cX12_isSceneAt 0 = .ok (.iload_n 1, 1) := by decide +kernel
theorem dX12_isSceneAt_1 : decode cX12_isSceneAt 1 = .ok (.i2l, 1) := by decide +kernel
theorem dX12_isSceneAt_2 : decode cX12_isSceneAt 2 = .ok (.lconst 0, 1) := by decide +kernel
theorem dX12_isSceneAt_3 : decode cX12_isSceneAt 3 = .ok (.aload_n 0, 1) := by decide +kernel
theorem dX12_isSceneAt_4 : decode cX12_isSceneAt 4 = .ok (.getfield 35, 3) := by decide +kernel
theorem dX12_isSceneAt_7 : decode cX12_isSceneAt 7 = .ok (.iconst 2, 1) := by decide +kernel
theorem dX12_isSceneAt_8 : decode cX12_isSceneAt 8 = .ok (.iaload, 1) := by decide +kernel
theorem dX12_isSceneAt_9 : decode cX12_isSceneAt 9 = .ok (.iconst 1, 1) := by decide +kernel
theorem dX12_isSceneAt_10 : decode cX12_isSceneAt 10 = .ok (.isub, 1) := by decide +kernel
theorem dX12_isSceneAt_11 : decode cX12_isSceneAt 11 = .ok (.i2l, 1) := by decide +kernel
theorem dX12_isSceneAt_12 : decode cX12_isSceneAt 12 = .ok (.invokestatic 129, 3) := by decide +kernel
theorem dX12_isSceneAt_15 : decode cX12_isSceneAt 15 = .ok (.ireturn, 1) := by decide +kernel
theorem dX12_isKindAt_0 : decode cX12_isKindAt 0 = .ok (.iload_n 1, 1) := by decide +kernel
theorem dX12_isKindAt_1 : decode cX12_isKindAt 1 = .ok (.i2l, 1) := by decide +kernel
theorem dX12_isKindAt_2 : decode cX12_isKindAt 2 = .ok (.lconst 0, 1) := by decide +kernel
theorem dX12_isKindAt_3 : decode cX12_isKindAt 3 = .ok (.aload_n 0, 1) := by decide +kernel
theorem dX12_isKindAt_4 : decode cX12_isKindAt 4 = .ok (.getfield 35, 3) := by decide +kernel
theorem dX12_isKindAt_7 : decode cX12_isKindAt 7 = .ok (.iconst 3, 1) := by decide +kernel
theorem dX12_isKindAt_8 : decode cX12_isKindAt 8 = .ok (.iaload, 1) := by decide +kernel
theorem dX12_isKindAt_9 : decode cX12_isKindAt 9 = .ok (.iconst 1, 1) := by decide +kernel
theorem dX12_isKindAt_10 : decode cX12_isKindAt 10 = .ok (.isub, 1) := by decide +kernel
theorem dX12_isKindAt_11 : decode cX12_isKindAt 11 = .ok (.i2l, 1) := by decide +kernel
theorem dX12_isKindAt_12 : decode cX12_isKindAt 12 = .ok (.invokestatic 129, 3) := by decide +kernel
theorem dX12_isKindAt_15 : decode cX12_isKindAt 15 = .ok (.ireturn, 1) := by decide +kernel
theorem dX12_has_0 : decode cX12_has 0 = .ok (.iload_n 0, 1) := by decide +kernel
theorem dX12_has_1 : decode cX12_has 1 = .ok (.iload_n 1, 1) := by decide +kernel
theorem dX12_has_2 : decode cX12_has 2 = .ok (.ishr, 1) := by decide +kernel
theorem dX12_has_3 : decode cX12_has 3 = .ok (.iconst 1, 1) := by decide +kernel
theorem dX12_has_4 : decode cX12_has 4 = .ok (.iand, 1) := by decide +kernel
theorem dX12_has_5 : decode cX12_has 5 = .ok (.iconst 1, 1) := by decide +kernel
theorem dX12_has_6 : decode cX12_has 6 = .ok (.if_icmp .ne 7, 3) := by decide +kernel
theorem dX12_has_9 : decode cX12_has 9 = .ok (.iconst 1, 1) := by decide +kernel
theorem dX12_has_10 : decode cX12_has 10 = .ok (.goto 4, 3) := by decide +kernel
theorem dX12_has_13 : decode cX12_has 13 = .ok (.iconst 0, 1) := by decide +kernel
theorem dX12_has_14 : decode cX12_has 14 = .ok (.ireturn, 1) := by decide +kernel
theorem dX12_bits_0 : decode cX12_bits 0 = .ok (.iconst 0, 1) := by decide +kernel
theorem dX12_bits_1 : decode cX12_bits 1 = .ok (.istore_n 1, 1) := by decide +kernel
theorem dX12_bits_2 : decode cX12_bits 2 = .ok (.iconst 0, 1) := by decide +kernel
theorem dX12_bits_3 : decode cX12_bits 3 = .ok (.istore_n 2, 1) := by decide +kernel
theorem dX12_bits_4 : decode cX12_bits 4 = .ok (.iload_n 2, 1) := by decide +kernel
theorem dX12_bits_5 : decode cX12_bits 5 = .ok (.bipush 12, 2) := by decide +kernel
theorem dX12_bits_7 : decode cX12_bits 7 = .ok (.if_icmp .ge 17, 3) := by decide +kernel
theorem dX12_bits_10 : decode cX12_bits 10 = .ok (.iload_n 1, 1) := by decide +kernel
theorem dX12_bits_11 : decode cX12_bits 11 = .ok (.iload_n 0, 1) := by decide +kernel
theorem dX12_bits_12 : decode cX12_bits 12 = .ok (.iload_n 2, 1) := by decide +kernel
theorem dX12_bits_13 : decode cX12_bits 13 = .ok (.ishr, 1) := by decide +kernel
theorem dX12_bits_14 : decode cX12_bits 14 = .ok (.iconst 1, 1) := by decide +kernel
theorem dX12_bits_15 : decode cX12_bits 15 = .ok (.iand, 1) := by decide +kernel
theorem dX12_bits_16 : decode cX12_bits 16 = .ok (.iadd, 1) := by decide +kernel
theorem dX12_bits_17 : decode cX12_bits 17 = .ok (.istore_n 1, 1) := by decide +kernel
theorem dX12_bits_18 : decode cX12_bits 18 = .ok (.iinc 2 1, 3) := by decide +kernel
theorem dX12_bits_21 : decode cX12_bits 21 = .ok (.goto (-17), 3) := by decide +kernel
theorem dX12_bits_24 : decode cX12_bits 24 = .ok (.iload_n 1, 1) := by decide +kernel
theorem dX12_bits_25 : decode cX12_bits 25 = .ok (.ireturn, 1) := by decide +kernel
theorem dX12_breathsOf_0 : decode cX12_breathsOf 0 = .ok (.aload_n 0, 1) := by decide +kernel
theorem dX12_breathsOf_1 : decode cX12_breathsOf 1 = .ok (.getfield 35, 3) := by decide +kernel
theorem dX12_breathsOf_4 : decode cX12_breathsOf 4 = .ok (.bipush 25, 2) := by decide +kernel
theorem dX12_breathsOf_6 : decode cX12_breathsOf 6 = .ok (.iload_n 1, 1) := by decide +kernel
theorem dX12_breathsOf_7 : decode cX12_breathsOf 7 = .ok (.iadd, 1) := by decide +kernel
theorem dX12_breathsOf_8 : decode cX12_breathsOf 8 = .ok (.iaload, 1) := by decide +kernel
theorem dX12_breathsOf_9 : decode cX12_breathsOf 9 = .ok (.aload_n 0, 1) := by decide +kernel
theorem dX12_breathsOf_10 : decode cX12_breathsOf 10 = .ok (.getfield 35, 3) := by decide +kernel
theorem dX12_breathsOf_13 : decode cX12_breathsOf 13 = .ok (.bipush 37, 2) := by decide +kernel
theorem dX12_breathsOf_15 : decode cX12_breathsOf 15 = .ok (.iload_n 1, 1) := by decide +kernel
theorem dX12_breathsOf_16 : decode cX12_breathsOf 16 = .ok (.iadd, 1) := by decide +kernel
theorem dX12_breathsOf_17 : decode cX12_breathsOf 17 = .ok (.iaload, 1) := by decide +kernel
theorem dX12_breathsOf_18 : decode cX12_breathsOf 18 = .ok (.invokestatic 342, 3) := by decide +kernel
theorem dX12_breathsOf_21 : decode cX12_breathsOf 21 = .ok (.imul, 1) := by decide +kernel
theorem dX12_breathsOf_22 : decode cX12_breathsOf 22 = .ok (.ireturn, 1) := by decide +kernel
theorem dX12_allLines_0 : decode cX12_allLines 0 = .ok (.iconst 0, 1) := by decide +kernel
theorem dX12_allLines_1 : decode cX12_allLines 1 = .ok (.istore_n 1, 1) := by decide +kernel
theorem dX12_allLines_2 : decode cX12_allLines 2 = .ok (.iconst 0, 1) := by decide +kernel
theorem dX12_allLines_3 : decode cX12_allLines 3 = .ok (.istore_n 2, 1) := by decide +kernel
theorem dX12_allLines_4 : decode cX12_allLines 4 = .ok (.iload_n 2, 1) := by decide +kernel
theorem dX12_allLines_5 : decode cX12_allLines 5 = .ok (.aload_n 0, 1) := by decide +kernel
theorem dX12_allLines_6 : decode cX12_allLines 6 = .ok (.getfield 35, 3) := by decide +kernel
theorem dX12_allLines_9 : decode cX12_allLines 9 = .ok (.iconst 2, 1) := by decide +kernel
theorem dX12_allLines_10 : decode cX12_allLines 10 = .ok (.iaload, 1) := by decide +kernel
theorem dX12_allLines_11 : decode cX12_allLines 11 = .ok (.if_icmp .ge 21, 3) := by decide +kernel
theorem dX12_allLines_14 : decode cX12_allLines 14 = .ok (.iload_n 1, 1) := by decide +kernel
theorem dX12_allLines_15 : decode cX12_allLines 15 = .ok (.aload_n 0, 1) := by decide +kernel
theorem dX12_allLines_16 : decode cX12_allLines 16 = .ok (.getfield 35, 3) := by decide +kernel
theorem dX12_allLines_19 : decode cX12_allLines 19 = .ok (.bipush 25, 2) := by decide +kernel
theorem dX12_allLines_21 : decode cX12_allLines 21 = .ok (.iload_n 2, 1) := by decide +kernel
theorem dX12_allLines_22 : decode cX12_allLines 22 = .ok (.iadd, 1) := by decide +kernel
theorem dX12_allLines_23 : decode cX12_allLines 23 = .ok (.iaload, 1) := by decide +kernel
theorem dX12_allLines_24 : decode cX12_allLines 24 = .ok (.iadd, 1) := by decide +kernel
theorem dX12_allLines_25 : decode cX12_allLines 25 = .ok (.istore_n 1, 1) := by decide +kernel
theorem dX12_allLines_26 : decode cX12_allLines 26 = .ok (.iinc 2 1, 3) := by decide +kernel
theorem dX12_allLines_29 : decode cX12_allLines 29 = .ok (.goto (-25), 3) := by decide +kernel
theorem dX12_allLines_32 : decode cX12_allLines 32 = .ok (.iload_n 1, 1) := by decide +kernel
theorem dX12_allLines_33 : decode cX12_allLines 33 = .ok (.ireturn, 1) := by decide +kernel
theorem dX12_many_0 : decode cX12_many 0 = .ok (.aload_n 0, 1) := by decide +kernel
theorem dX12_many_1 : decode cX12_many 1 = .ok (.iconst 0, 1) := by decide +kernel
theorem dX12_many_2 : decode cX12_many 2 = .ok (.putfield 90, 3) := by decide +kernel
theorem dX12_many_5 : decode cX12_many 5 = .ok (.aload_n 0, 1) := by decide +kernel
theorem dX12_many_6 : decode cX12_many 6 = .ok (.iconst 0, 1) := by decide +kernel
theorem dX12_many_7 : decode cX12_many 7 = .ok (.putfield 93, 3) := by decide +kernel
theorem dX12_many_10 : decode cX12_many 10 = .ok (.iload_n 1, 1) := by decide +kernel
theorem dX12_many_11 : decode cX12_many 11 = .ok (.tableswitch 100 0 7 #[45, 52, 59, 66, 73, 81, 88, 95], 45) := by decide +kernel
theorem dX12_many_56 : decode cX12_many 56 = .ok (.aload_n 0, 1) := by decide +kernel
theorem dX12_many_57 : decode cX12_many 57 = .ok (.getfield 35, 3) := by decide +kernel
theorem dX12_many_60 : decode cX12_many 60 = .ok (.iconst 0, 1) := by decide +kernel
theorem dX12_many_61 : decode cX12_many 61 = .ok (.iaload, 1) := by decide +kernel
theorem dX12_many_62 : decode cX12_many 62 = .ok (.ireturn, 1) := by decide +kernel
theorem dX12_many_63 : decode cX12_many 63 = .ok (.aload_n 0, 1) := by decide +kernel
theorem dX12_many_64 : decode cX12_many 64 = .ok (.getfield 35, 3) := by decide +kernel
theorem dX12_many_67 : decode cX12_many 67 = .ok (.iconst 1, 1) := by decide +kernel
theorem dX12_many_68 : decode cX12_many 68 = .ok (.iaload, 1) := by decide +kernel
theorem dX12_many_69 : decode cX12_many 69 = .ok (.ireturn, 1) := by decide +kernel
theorem dX12_many_70 : decode cX12_many 70 = .ok (.aload_n 0, 1) := by decide +kernel
theorem dX12_many_71 : decode cX12_many 71 = .ok (.getfield 35, 3) := by decide +kernel
theorem dX12_many_74 : decode cX12_many 74 = .ok (.iconst 2, 1) := by decide +kernel
theorem dX12_many_75 : decode cX12_many 75 = .ok (.iaload, 1) := by decide +kernel
theorem dX12_many_76 : decode cX12_many 76 = .ok (.ireturn, 1) := by decide +kernel
theorem dX12_many_77 : decode cX12_many 77 = .ok (.aload_n 0, 1) := by decide +kernel
theorem dX12_many_78 : decode cX12_many 78 = .ok (.getfield 35, 3) := by decide +kernel
theorem dX12_many_81 : decode cX12_many 81 = .ok (.iconst 3, 1) := by decide +kernel
theorem dX12_many_82 : decode cX12_many 82 = .ok (.iaload, 1) := by decide +kernel
theorem dX12_many_83 : decode cX12_many 83 = .ok (.ireturn, 1) := by decide +kernel
theorem dX12_many_84 : decode cX12_many 84 = .ok (.aload_n 0, 1) := by decide +kernel
theorem dX12_many_85 : decode cX12_many 85 = .ok (.getfield 35, 3) := by decide +kernel
theorem dX12_many_88 : decode cX12_many 88 = .ok (.bipush 6, 2) := by decide +kernel
theorem dX12_many_90 : decode cX12_many 90 = .ok (.iaload, 1) := by decide +kernel
theorem dX12_many_91 : decode cX12_many 91 = .ok (.ireturn, 1) := by decide +kernel
theorem dX12_many_92 : decode cX12_many 92 = .ok (.aload_n 0, 1) := by decide +kernel
theorem dX12_many_93 : decode cX12_many 93 = .ok (.getfield 35, 3) := by decide +kernel
theorem dX12_many_96 : decode cX12_many 96 = .ok (.iconst 4, 1) := by decide +kernel
theorem dX12_many_97 : decode cX12_many 97 = .ok (.iaload, 1) := by decide +kernel
theorem dX12_many_98 : decode cX12_many 98 = .ok (.ireturn, 1) := by decide +kernel
theorem dX12_many_99 : decode cX12_many 99 = .ok (.aload_n 0, 1) := by decide +kernel
theorem dX12_many_100 : decode cX12_many 100 = .ok (.getfield 35, 3) := by decide +kernel
theorem dX12_many_103 : decode cX12_many 103 = .ok (.iconst 5, 1) := by decide +kernel
theorem dX12_many_104 : decode cX12_many 104 = .ok (.iaload, 1) := by decide +kernel
theorem dX12_many_105 : decode cX12_many 105 = .ok (.ireturn, 1) := by decide +kernel
theorem dX12_many_106 : decode cX12_many 106 = .ok (.aload_n 0, 1) := by decide +kernel
theorem dX12_many_107 : decode cX12_many 107 = .ok (.invokevirtual 345, 3) := by decide +kernel
theorem dX12_many_110 : decode cX12_many 110 = .ok (.ireturn, 1) := by decide +kernel
theorem dX12_many_111 : decode cX12_many 111 = .ok (.aload_n 0, 1) := by decide +kernel
theorem dX12_many_112 : decode cX12_many 112 = .ok (.iconst 5, 1) := by decide +kernel
theorem dX12_many_113 : decode cX12_many 113 = .ok (.invokevirtual 348, 3) := by decide +kernel
theorem dX12_many_116 : decode cX12_many 116 = .ok (.ireturn, 1) := by decide +kernel
theorem dX12_told_0 : decode cX12_told 0 = .ok (.iload_n 1, 1) := by decide +kernel
theorem dX12_told_1 : decode cX12_told 1 = .ok (.ifCond .ge 12, 3) := by decide +kernel
theorem dX12_told_4 : decode cX12_told 4 = .ok (.aload_n 0, 1) := by decide +kernel
theorem dX12_told_5 : decode cX12_told 5 = .ok (.bipush 8, 2) := by decide +kernel
theorem dX12_told_7 : decode cX12_told 7 = .ok (.invokevirtual 348, 3) := by decide +kernel
theorem dX12_told_10 : decode cX12_told 10 = .ok (.goto 4, 3) := by decide +kernel
theorem dX12_told_13 : decode cX12_told 13 = .ok (.iload_n 1, 1) := by decide +kernel
theorem dX12_told_14 : decode cX12_told 14 = .ok (.ireturn, 1) := by decide +kernel
theorem dX12_scene_0 : decode cX12_scene 0 = .ok (.aload_n 0, 1) := by decide +kernel
theorem dX12_scene_1 : decode cX12_scene 1 = .ok (.iconst 0, 1) := by decide +kernel
theorem dX12_scene_2 : decode cX12_scene 2 = .ok (.putfield 90, 3) := by decide +kernel
theorem dX12_scene_5 : decode cX12_scene 5 = .ok (.aload_n 0, 1) := by decide +kernel
theorem dX12_scene_6 : decode cX12_scene 6 = .ok (.iconst 0, 1) := by decide +kernel
theorem dX12_scene_7 : decode cX12_scene 7 = .ok (.putfield 93, 3) := by decide +kernel
theorem dX12_scene_10 : decode cX12_scene 10 = .ok (.aload_n 0, 1) := by decide +kernel
theorem dX12_scene_11 : decode cX12_scene 11 = .ok (.iload_n 1, 1) := by decide +kernel
theorem dX12_scene_12 : decode cX12_scene 12 = .ok (.invokevirtual 351, 3) := by decide +kernel
theorem dX12_scene_15 : decode cX12_scene 15 = .ok (.ifCond .ne 9, 3) := by decide +kernel
theorem dX12_scene_18 : decode cX12_scene 18 = .ok (.aload_n 0, 1) := by decide +kernel
theorem dX12_scene_19 : decode cX12_scene 19 = .ok (.iconst 2, 1) := by decide +kernel
theorem dX12_scene_20 : decode cX12_scene 20 = .ok (.invokevirtual 348, 3) := by decide +kernel
theorem dX12_scene_23 : decode cX12_scene 23 = .ok (.ireturn, 1) := by decide +kernel
theorem dX12_scene_24 : decode cX12_scene 24 = .ok (.iload_n 2, 1) := by decide +kernel
theorem dX12_scene_25 : decode cX12_scene 25 = .ok (.tableswitch 161 0 8 #[51, 61, 71, 85, 99, 113, 127, 141, 155], 51) := by decide +kernel
theorem dX12_scene_76 : decode cX12_scene 76 = .ok (.aload_n 0, 1) := by decide +kernel
theorem dX12_scene_77 : decode cX12_scene 77 = .ok (.getfield 35, 3) := by decide +kernel
theorem dX12_scene_80 : decode cX12_scene 80 = .ok (.bipush 25, 2) := by decide +kernel
theorem dX12_scene_82 : decode cX12_scene 82 = .ok (.iload_n 1, 1) := by decide +kernel
theorem dX12_scene_83 : decode cX12_scene 83 = .ok (.iadd, 1) := by decide +kernel
theorem dX12_scene_84 : decode cX12_scene 84 = .ok (.iaload, 1) := by decide +kernel
theorem dX12_scene_85 : decode cX12_scene 85 = .ok (.ireturn, 1) := by decide +kernel
theorem dX12_scene_86 : decode cX12_scene 86 = .ok (.aload_n 0, 1) := by decide +kernel
theorem dX12_scene_87 : decode cX12_scene 87 = .ok (.getfield 35, 3) := by decide +kernel
theorem dX12_scene_90 : decode cX12_scene 90 = .ok (.bipush 37, 2) := by decide +kernel
theorem dX12_scene_92 : decode cX12_scene 92 = .ok (.iload_n 1, 1) := by decide +kernel
theorem dX12_scene_93 : decode cX12_scene 93 = .ok (.iadd, 1) := by decide +kernel
theorem dX12_scene_94 : decode cX12_scene 94 = .ok (.iaload, 1) := by decide +kernel
theorem dX12_scene_95 : decode cX12_scene 95 = .ok (.ireturn, 1) := by decide +kernel
theorem dX12_scene_96 : decode cX12_scene 96 = .ok (.aload_n 0, 1) := by decide +kernel
theorem dX12_scene_97 : decode cX12_scene 97 = .ok (.aload_n 0, 1) := by decide +kernel
theorem dX12_scene_98 : decode cX12_scene 98 = .ok (.getfield 35, 3) := by decide +kernel
theorem dX12_scene_101 : decode cX12_scene 101 = .ok (.bipush 49, 2) := by decide +kernel
theorem dX12_scene_103 : decode cX12_scene 103 = .ok (.iload_n 1, 1) := by decide +kernel
theorem dX12_scene_104 : decode cX12_scene 104 = .ok (.iadd, 1) := by decide +kernel
theorem dX12_scene_105 : decode cX12_scene 105 = .ok (.iaload, 1) := by decide +kernel
theorem dX12_scene_106 : decode cX12_scene 106 = .ok (.invokevirtual 354, 3) := by decide +kernel
theorem dX12_scene_109 : decode cX12_scene 109 = .ok (.ireturn, 1) := by decide +kernel
theorem dX12_scene_110 : decode cX12_scene 110 = .ok (.aload_n 0, 1) := by decide +kernel
theorem dX12_scene_111 : decode cX12_scene 111 = .ok (.aload_n 0, 1) := by decide +kernel
theorem dX12_scene_112 : decode cX12_scene 112 = .ok (.getfield 35, 3) := by decide +kernel
theorem dX12_scene_115 : decode cX12_scene 115 = .ok (.bipush 61, 2) := by decide +kernel
theorem dX12_scene_117 : decode cX12_scene 117 = .ok (.iload_n 1, 1) := by decide +kernel
theorem dX12_scene_118 : decode cX12_scene 118 = .ok (.iadd, 1) := by decide +kernel
theorem dX12_scene_119 : decode cX12_scene 119 = .ok (.iaload, 1) := by decide +kernel
theorem dX12_scene_120 : decode cX12_scene 120 = .ok (.invokevirtual 354, 3) := by decide +kernel
theorem dX12_scene_123 : decode cX12_scene 123 = .ok (.ireturn, 1) := by decide +kernel
theorem dX12_scene_124 : decode cX12_scene 124 = .ok (.aload_n 0, 1) := by decide +kernel
theorem dX12_scene_125 : decode cX12_scene 125 = .ok (.aload_n 0, 1) := by decide +kernel
theorem dX12_scene_126 : decode cX12_scene 126 = .ok (.getfield 35, 3) := by decide +kernel
theorem dX12_scene_129 : decode cX12_scene 129 = .ok (.bipush 73, 2) := by decide +kernel
theorem dX12_scene_131 : decode cX12_scene 131 = .ok (.iload_n 1, 1) := by decide +kernel
theorem dX12_scene_132 : decode cX12_scene 132 = .ok (.iadd, 1) := by decide +kernel
theorem dX12_scene_133 : decode cX12_scene 133 = .ok (.iaload, 1) := by decide +kernel
theorem dX12_scene_134 : decode cX12_scene 134 = .ok (.invokevirtual 354, 3) := by decide +kernel
theorem dX12_scene_137 : decode cX12_scene 137 = .ok (.ireturn, 1) := by decide +kernel
theorem dX12_scene_138 : decode cX12_scene 138 = .ok (.aload_n 0, 1) := by decide +kernel
theorem dX12_scene_139 : decode cX12_scene 139 = .ok (.aload_n 0, 1) := by decide +kernel
theorem dX12_scene_140 : decode cX12_scene 140 = .ok (.getfield 35, 3) := by decide +kernel
theorem dX12_scene_143 : decode cX12_scene 143 = .ok (.bipush 85, 2) := by decide +kernel
theorem dX12_scene_145 : decode cX12_scene 145 = .ok (.iload_n 1, 1) := by decide +kernel
theorem dX12_scene_146 : decode cX12_scene 146 = .ok (.iadd, 1) := by decide +kernel
theorem dX12_scene_147 : decode cX12_scene 147 = .ok (.iaload, 1) := by decide +kernel
theorem dX12_scene_148 : decode cX12_scene 148 = .ok (.invokevirtual 354, 3) := by decide +kernel
theorem dX12_scene_151 : decode cX12_scene 151 = .ok (.ireturn, 1) := by decide +kernel
theorem dX12_scene_152 : decode cX12_scene 152 = .ok (.aload_n 0, 1) := by decide +kernel
theorem dX12_scene_153 : decode cX12_scene 153 = .ok (.aload_n 0, 1) := by decide +kernel
theorem dX12_scene_154 : decode cX12_scene 154 = .ok (.getfield 35, 3) := by decide +kernel
theorem dX12_scene_157 : decode cX12_scene 157 = .ok (.bipush 97, 2) := by decide +kernel
theorem dX12_scene_159 : decode cX12_scene 159 = .ok (.iload_n 1, 1) := by decide +kernel
theorem dX12_scene_160 : decode cX12_scene 160 = .ok (.iadd, 1) := by decide +kernel
theorem dX12_scene_161 : decode cX12_scene 161 = .ok (.iaload, 1) := by decide +kernel
theorem dX12_scene_162 : decode cX12_scene 162 = .ok (.invokevirtual 354, 3) := by decide +kernel
theorem dX12_scene_165 : decode cX12_scene 165 = .ok (.ireturn, 1) := by decide +kernel
theorem dX12_scene_166 : decode cX12_scene 166 = .ok (.aload_n 0, 1) := by decide +kernel
theorem dX12_scene_167 : decode cX12_scene 167 = .ok (.aload_n 0, 1) := by decide +kernel
theorem dX12_scene_168 : decode cX12_scene 168 = .ok (.getfield 35, 3) := by decide +kernel
theorem dX12_scene_171 : decode cX12_scene 171 = .ok (.bipush 109, 2) := by decide +kernel
theorem dX12_scene_173 : decode cX12_scene 173 = .ok (.iload_n 1, 1) := by decide +kernel
theorem dX12_scene_174 : decode cX12_scene 174 = .ok (.iadd, 1) := by decide +kernel
theorem dX12_scene_175 : decode cX12_scene 175 = .ok (.iaload, 1) := by decide +kernel
theorem dX12_scene_176 : decode cX12_scene 176 = .ok (.invokevirtual 354, 3) := by decide +kernel
theorem dX12_scene_179 : decode cX12_scene 179 = .ok (.ireturn, 1) := by decide +kernel
theorem dX12_scene_180 : decode cX12_scene 180 = .ok (.aload_n 0, 1) := by decide +kernel
theorem dX12_scene_181 : decode cX12_scene 181 = .ok (.iload_n 1, 1) := by decide +kernel
theorem dX12_scene_182 : decode cX12_scene 182 = .ok (.invokevirtual 357, 3) := by decide +kernel
theorem dX12_scene_185 : decode cX12_scene 185 = .ok (.ireturn, 1) := by decide +kernel
theorem dX12_scene_186 : decode cX12_scene 186 = .ok (.aload_n 0, 1) := by decide +kernel
theorem dX12_scene_187 : decode cX12_scene 187 = .ok (.iconst 5, 1) := by decide +kernel
theorem dX12_scene_188 : decode cX12_scene 188 = .ok (.invokevirtual 348, 3) := by decide +kernel
theorem dX12_scene_191 : decode cX12_scene 191 = .ok (.ireturn, 1) := by decide +kernel
theorem dX12_kind_0 : decode cX12_kind 0 = .ok (.aload_n 0, 1) := by decide +kernel
theorem dX12_kind_1 : decode cX12_kind 1 = .ok (.iconst 0, 1) := by decide +kernel
theorem dX12_kind_2 : decode cX12_kind 2 = .ok (.putfield 90, 3) := by decide +kernel
theorem dX12_kind_5 : decode cX12_kind 5 = .ok (.aload_n 0, 1) := by decide +kernel
theorem dX12_kind_6 : decode cX12_kind 6 = .ok (.iconst 0, 1) := by decide +kernel
theorem dX12_kind_7 : decode cX12_kind 7 = .ok (.putfield 93, 3) := by decide +kernel
theorem dX12_kind_10 : decode cX12_kind 10 = .ok (.aload_n 0, 1) := by decide +kernel
theorem dX12_kind_11 : decode cX12_kind 11 = .ok (.iload_n 1, 1) := by decide +kernel
theorem dX12_kind_12 : decode cX12_kind 12 = .ok (.invokevirtual 360, 3) := by decide +kernel
theorem dX12_kind_15 : decode cX12_kind 15 = .ok (.ifCond .ne 9, 3) := by decide +kernel
theorem dX12_kind_18 : decode cX12_kind 18 = .ok (.aload_n 0, 1) := by decide +kernel
theorem dX12_kind_19 : decode cX12_kind 19 = .ok (.iconst 2, 1) := by decide +kernel
theorem dX12_kind_20 : decode cX12_kind 20 = .ok (.invokevirtual 348, 3) := by decide +kernel
theorem dX12_kind_23 : decode cX12_kind 23 = .ok (.ireturn, 1) := by decide +kernel
theorem dX12_kind_24 : decode cX12_kind 24 = .ok (.iload_n 2, 1) := by decide +kernel
theorem dX12_kind_25 : decode cX12_kind 25 = .ok (.tableswitch 73 0 3 #[31, 41, 51, 62], 31) := by decide +kernel
theorem dX12_kind_56 : decode cX12_kind 56 = .ok (.aload_n 0, 1) := by decide +kernel
theorem dX12_kind_57 : decode cX12_kind 57 = .ok (.getfield 35, 3) := by decide +kernel
theorem dX12_kind_60 : decode cX12_kind 60 = .ok (.bipush 121, 2) := by decide +kernel
theorem dX12_kind_62 : decode cX12_kind 62 = .ok (.iload_n 1, 1) := by decide +kernel
theorem dX12_kind_63 : decode cX12_kind 63 = .ok (.iadd, 1) := by decide +kernel
theorem dX12_kind_64 : decode cX12_kind 64 = .ok (.iaload, 1) := by decide +kernel
theorem dX12_kind_65 : decode cX12_kind 65 = .ok (.ireturn, 1) := by decide +kernel
theorem dX12_kind_66 : decode cX12_kind 66 = .ok (.aload_n 0, 1) := by decide +kernel
theorem dX12_kind_67 : decode cX12_kind 67 = .ok (.getfield 35, 3) := by decide +kernel
theorem dX12_kind_70 : decode cX12_kind 70 = .ok (.bipush 125, 2) := by decide +kernel
theorem dX12_kind_72 : decode cX12_kind 72 = .ok (.iload_n 1, 1) := by decide +kernel
theorem dX12_kind_73 : decode cX12_kind 73 = .ok (.iadd, 1) := by decide +kernel
theorem dX12_kind_74 : decode cX12_kind 74 = .ok (.iaload, 1) := by decide +kernel
theorem dX12_kind_75 : decode cX12_kind 75 = .ok (.ireturn, 1) := by decide +kernel
theorem dX12_kind_76 : decode cX12_kind 76 = .ok (.aload_n 0, 1) := by decide +kernel
theorem dX12_kind_77 : decode cX12_kind 77 = .ok (.getfield 35, 3) := by decide +kernel
theorem dX12_kind_80 : decode cX12_kind 80 = .ok (.sipush 129, 3) := by decide +kernel
theorem dX12_kind_83 : decode cX12_kind 83 = .ok (.iload_n 1, 1) := by decide +kernel
theorem dX12_kind_84 : decode cX12_kind 84 = .ok (.iadd, 1) := by decide +kernel
theorem dX12_kind_85 : decode cX12_kind 85 = .ok (.iaload, 1) := by decide +kernel
theorem dX12_kind_86 : decode cX12_kind 86 = .ok (.ireturn, 1) := by decide +kernel
theorem dX12_kind_87 : decode cX12_kind 87 = .ok (.aload_n 0, 1) := by decide +kernel
theorem dX12_kind_88 : decode cX12_kind 88 = .ok (.getfield 35, 3) := by decide +kernel
theorem dX12_kind_91 : decode cX12_kind 91 = .ok (.sipush 133, 3) := by decide +kernel
theorem dX12_kind_94 : decode cX12_kind 94 = .ok (.iload_n 1, 1) := by decide +kernel
theorem dX12_kind_95 : decode cX12_kind 95 = .ok (.iadd, 1) := by decide +kernel
theorem dX12_kind_96 : decode cX12_kind 96 = .ok (.iaload, 1) := by decide +kernel
theorem dX12_kind_97 : decode cX12_kind 97 = .ok (.ireturn, 1) := by decide +kernel
theorem dX12_kind_98 : decode cX12_kind 98 = .ok (.aload_n 0, 1) := by decide +kernel
theorem dX12_kind_99 : decode cX12_kind 99 = .ok (.iconst 5, 1) := by decide +kernel
theorem dX12_kind_100 : decode cX12_kind 100 = .ok (.invokevirtual 348, 3) := by decide +kernel
theorem dX12_kind_103 : decode cX12_kind 103 = .ok (.ireturn, 1) := by decide +kernel
theorem dX12_actor_0 : decode cX12_actor 0 = .ok (.aload_n 0, 1) := by decide +kernel
theorem dX12_actor_1 : decode cX12_actor 1 = .ok (.iconst 0, 1) := by decide +kernel
theorem dX12_actor_2 : decode cX12_actor 2 = .ok (.putfield 90, 3) := by decide +kernel
theorem dX12_actor_5 : decode cX12_actor 5 = .ok (.aload_n 0, 1) := by decide +kernel
theorem dX12_actor_6 : decode cX12_actor 6 = .ok (.iconst 0, 1) := by decide +kernel
theorem dX12_actor_7 : decode cX12_actor 7 = .ok (.putfield 93, 3) := by decide +kernel
theorem dX12_actor_10 : decode cX12_actor 10 = .ok (.aload_n 0, 1) := by decide +kernel
theorem dX12_actor_11 : decode cX12_actor 11 = .ok (.iload_n 1, 1) := by decide +kernel
theorem dX12_actor_12 : decode cX12_actor 12 = .ok (.invokevirtual 363, 3) := by decide +kernel
theorem dX12_actor_15 : decode cX12_actor 15 = .ok (.ifCond .ne 9, 3) := by decide +kernel
theorem dX12_actor_18 : decode cX12_actor 18 = .ok (.aload_n 0, 1) := by decide +kernel
theorem dX12_actor_19 : decode cX12_actor 19 = .ok (.iconst 2, 1) := by decide +kernel
theorem dX12_actor_20 : decode cX12_actor 20 = .ok (.invokevirtual 348, 3) := by decide +kernel
theorem dX12_actor_23 : decode cX12_actor 23 = .ok (.ireturn, 1) := by decide +kernel
theorem dX12_actor_24 : decode cX12_actor 24 = .ok (.iload_n 2, 1) := by decide +kernel
theorem dX12_actor_25 : decode cX12_actor 25 = .ok (.tableswitch 57 0 2 #[27, 37, 47], 27) := by decide +kernel
theorem dX12_actor_52 : decode cX12_actor 52 = .ok (.aload_n 0, 1) := by decide +kernel
theorem dX12_actor_53 : decode cX12_actor 53 = .ok (.getfield 35, 3) := by decide +kernel
theorem dX12_actor_56 : decode cX12_actor 56 = .ok (.bipush 7, 2) := by decide +kernel
theorem dX12_actor_58 : decode cX12_actor 58 = .ok (.iload_n 1, 1) := by decide +kernel
theorem dX12_actor_59 : decode cX12_actor 59 = .ok (.iadd, 1) := by decide +kernel
theorem dX12_actor_60 : decode cX12_actor 60 = .ok (.iaload, 1) := by decide +kernel
theorem dX12_actor_61 : decode cX12_actor 61 = .ok (.ireturn, 1) := by decide +kernel
theorem dX12_actor_62 : decode cX12_actor 62 = .ok (.aload_n 0, 1) := by decide +kernel
theorem dX12_actor_63 : decode cX12_actor 63 = .ok (.getfield 35, 3) := by decide +kernel
theorem dX12_actor_66 : decode cX12_actor 66 = .ok (.bipush 13, 2) := by decide +kernel
theorem dX12_actor_68 : decode cX12_actor 68 = .ok (.iload_n 1, 1) := by decide +kernel
theorem dX12_actor_69 : decode cX12_actor 69 = .ok (.iadd, 1) := by decide +kernel
theorem dX12_actor_70 : decode cX12_actor 70 = .ok (.iaload, 1) := by decide +kernel
theorem dX12_actor_71 : decode cX12_actor 71 = .ok (.ireturn, 1) := by decide +kernel
theorem dX12_actor_72 : decode cX12_actor 72 = .ok (.aload_n 0, 1) := by decide +kernel
theorem dX12_actor_73 : decode cX12_actor 73 = .ok (.getfield 35, 3) := by decide +kernel
theorem dX12_actor_76 : decode cX12_actor 76 = .ok (.bipush 19, 2) := by decide +kernel
theorem dX12_actor_78 : decode cX12_actor 78 = .ok (.iload_n 1, 1) := by decide +kernel
theorem dX12_actor_79 : decode cX12_actor 79 = .ok (.iadd, 1) := by decide +kernel
theorem dX12_actor_80 : decode cX12_actor 80 = .ok (.iaload, 1) := by decide +kernel
theorem dX12_actor_81 : decode cX12_actor 81 = .ok (.ireturn, 1) := by decide +kernel
theorem dX12_actor_82 : decode cX12_actor 82 = .ok (.aload_n 0, 1) := by decide +kernel
theorem dX12_actor_83 : decode cX12_actor 83 = .ok (.iconst 5, 1) := by decide +kernel
theorem dX12_actor_84 : decode cX12_actor 84 = .ok (.invokevirtual 348, 3) := by decide +kernel
theorem dX12_actor_87 : decode cX12_actor 87 = .ok (.ireturn, 1) := by decide +kernel
theorem dX12_with_0 : decode cX12_with 0 = .ok (.iload_n 2, 1) := by decide +kernel
theorem dX12_with_1 : decode cX12_with 1 = .ok (.ifCond .eq 11, 3) := by decide +kernel
theorem dX12_with_4 : decode cX12_with 4 = .ok (.iload_n 0, 1) := by decide +kernel
theorem dX12_with_5 : decode cX12_with 5 = .ok (.iconst 1, 1) := by decide +kernel
theorem dX12_with_6 : decode cX12_with 6 = .ok (.iload_n 1, 1) := by decide +kernel
theorem dX12_with_7 : decode cX12_with 7 = .ok (.ishl, 1) := by decide +kernel
theorem dX12_with_8 : decode cX12_with 8 = .ok (.ior, 1) := by decide +kernel
theorem dX12_with_9 : decode cX12_with 9 = .ok (.goto 10, 3) := by decide +kernel
theorem dX12_with_12 : decode cX12_with 12 = .ok (.iload_n 0, 1) := by decide +kernel
theorem dX12_with_13 : decode cX12_with 13 = .ok (.iconst 1, 1) := by decide +kernel
theorem dX12_with_14 : decode cX12_with 14 = .ok (.iload_n 1, 1) := by decide +kernel
theorem dX12_with_15 : decode cX12_with 15 = .ok (.ishl, 1) := by decide +kernel
theorem dX12_with_16 : decode cX12_with 16 = .ok (.iconst (-1), 1) := by decide +kernel
theorem dX12_with_17 : decode cX12_with 17 = .ok (.ixor, 1) := by decide +kernel
theorem dX12_with_18 : decode cX12_with 18 = .ok (.iand, 1) := by decide +kernel
theorem dX12_with_19 : decode cX12_with 19 = .ok (.ireturn, 1) := by decide +kernel
theorem dX12_bar_0 : decode cX12_bar 0 = .ok (.aload_n 0, 1) := by decide +kernel
theorem dX12_bar_1 : decode cX12_bar 1 = .ok (.iconst 0, 1) := by decide +kernel
theorem dX12_bar_2 : decode cX12_bar 2 = .ok (.putfield 90, 3) := by decide +kernel
theorem dX12_bar_5 : decode cX12_bar 5 = .ok (.aload_n 0, 1) := by decide +kernel
theorem dX12_bar_6 : decode cX12_bar 6 = .ok (.iconst 0, 1) := by decide +kernel
theorem dX12_bar_7 : decode cX12_bar 7 = .ok (.putfield 93, 3) := by decide +kernel
theorem dX12_bar_10 : decode cX12_bar 10 = .ok (.aload_n 0, 1) := by decide +kernel
theorem dX12_bar_11 : decode cX12_bar 11 = .ok (.iload_n 1, 1) := by decide +kernel
theorem dX12_bar_12 : decode cX12_bar 12 = .ok (.invokevirtual 351, 3) := by decide +kernel
theorem dX12_bar_15 : decode cX12_bar 15 = .ok (.ifCond .ne 9, 3) := by decide +kernel
theorem dX12_bar_18 : decode cX12_bar 18 = .ok (.aload_n 0, 1) := by decide +kernel
theorem dX12_bar_19 : decode cX12_bar 19 = .ok (.iconst 2, 1) := by decide +kernel
theorem dX12_bar_20 : decode cX12_bar 20 = .ok (.invokevirtual 109, 3) := by decide +kernel
theorem dX12_bar_23 : decode cX12_bar 23 = .ok (.ireturn, 1) := by decide +kernel
theorem dX12_bar_24 : decode cX12_bar 24 = .ok (.aload_n 0, 1) := by decide +kernel
theorem dX12_bar_25 : decode cX12_bar 25 = .ok (.getfield 35, 3) := by decide +kernel
theorem dX12_bar_28 : decode cX12_bar 28 = .ok (.iconst 4, 1) := by decide +kernel
theorem dX12_bar_29 : decode cX12_bar 29 = .ok (.aload_n 0, 1) := by decide +kernel
theorem dX12_bar_30 : decode cX12_bar 30 = .ok (.getfield 35, 3) := by decide +kernel
theorem dX12_bar_33 : decode cX12_bar 33 = .ok (.iconst 4, 1) := by decide +kernel
theorem dX12_bar_34 : decode cX12_bar 34 = .ok (.iaload, 1) := by decide +kernel
theorem dX12_bar_35 : decode cX12_bar 35 = .ok (.iload_n 1, 1) := by decide +kernel
theorem dX12_bar_36 : decode cX12_bar 36 = .ok (.iload_n 2, 1) := by decide +kernel
theorem dX12_bar_37 : decode cX12_bar 37 = .ok (.invokestatic 366, 3) := by decide +kernel
theorem dX12_bar_40 : decode cX12_bar 40 = .ok (.iastore, 1) := by decide +kernel
theorem dX12_bar_41 : decode cX12_bar 41 = .ok (.iconst 1, 1) := by decide +kernel
theorem dX12_bar_42 : decode cX12_bar 42 = .ok (.ireturn, 1) := by decide +kernel
theorem dX12_kill_0 : decode cX12_kill 0 = .ok (.aload_n 0, 1) := by decide +kernel
theorem dX12_kill_1 : decode cX12_kill 1 = .ok (.iconst 0, 1) := by decide +kernel
theorem dX12_kill_2 : decode cX12_kill 2 = .ok (.putfield 90, 3) := by decide +kernel
theorem dX12_kill_5 : decode cX12_kill 5 = .ok (.aload_n 0, 1) := by decide +kernel
theorem dX12_kill_6 : decode cX12_kill 6 = .ok (.iconst 0, 1) := by decide +kernel
theorem dX12_kill_7 : decode cX12_kill 7 = .ok (.putfield 93, 3) := by decide +kernel
theorem dX12_kill_10 : decode cX12_kill 10 = .ok (.aload_n 0, 1) := by decide +kernel
theorem dX12_kill_11 : decode cX12_kill 11 = .ok (.iload_n 1, 1) := by decide +kernel
theorem dX12_kill_12 : decode cX12_kill 12 = .ok (.invokevirtual 370, 3) := by decide +kernel
theorem dX12_kill_15 : decode cX12_kill 15 = .ok (.ifCond .ne 9, 3) := by decide +kernel
theorem dX12_kill_18 : decode cX12_kill 18 = .ok (.aload_n 0, 1) := by decide +kernel
theorem dX12_kill_19 : decode cX12_kill 19 = .ok (.iconst 2, 1) := by decide +kernel
theorem dX12_kill_20 : decode cX12_kill 20 = .ok (.invokevirtual 109, 3) := by decide +kernel
theorem dX12_kill_23 : decode cX12_kill 23 = .ok (.ireturn, 1) := by decide +kernel
theorem dX12_kill_24 : decode cX12_kill 24 = .ok (.aload_n 0, 1) := by decide +kernel
theorem dX12_kill_25 : decode cX12_kill 25 = .ok (.getfield 35, 3) := by decide +kernel
theorem dX12_kill_28 : decode cX12_kill 28 = .ok (.iconst 5, 1) := by decide +kernel
theorem dX12_kill_29 : decode cX12_kill 29 = .ok (.aload_n 0, 1) := by decide +kernel
theorem dX12_kill_30 : decode cX12_kill 30 = .ok (.getfield 35, 3) := by decide +kernel
theorem dX12_kill_33 : decode cX12_kill 33 = .ok (.iconst 5, 1) := by decide +kernel
theorem dX12_kill_34 : decode cX12_kill 34 = .ok (.iaload, 1) := by decide +kernel
theorem dX12_kill_35 : decode cX12_kill 35 = .ok (.iload_n 1, 1) := by decide +kernel
theorem dX12_kill_36 : decode cX12_kill 36 = .ok (.iload_n 2, 1) := by decide +kernel
theorem dX12_kill_37 : decode cX12_kill 37 = .ok (.invokestatic 366, 3) := by decide +kernel
theorem dX12_kill_40 : decode cX12_kill 40 = .ok (.iastore, 1) := by decide +kernel
theorem dX12_kill_41 : decode cX12_kill 41 = .ok (.iconst 1, 1) := by decide +kernel
theorem dX12_kill_42 : decode cX12_kill 42 = .ok (.ireturn, 1) := by decide +kernel
theorem dX12_canPlay_0 : decode cX12_canPlay 0 = .ok (.iload_n 1, 1) := by decide +kernel
theorem dX12_canPlay_1 : decode cX12_canPlay 1 = .ok (.ifCond .lt 41, 3) := by decide +kernel
theorem dX12_canPlay_4 : decode cX12_canPlay 4 = .ok (.aload_n 0, 1) := by decide +kernel
theorem dX12_canPlay_5 : decode cX12_canPlay 5 = .ok (.getfield 35, 3) := by decide +kernel
theorem dX12_canPlay_8 : decode cX12_canPlay 8 = .ok (.iconst 4, 1) := by decide +kernel
theorem dX12_canPlay_9 : decode cX12_canPlay 9 = .ok (.iaload, 1) := by decide +kernel
theorem dX12_canPlay_10 : decode cX12_canPlay 10 = .ok (.iload_n 1, 1) := by decide +kernel
theorem dX12_canPlay_11 : decode cX12_canPlay 11 = .ok (.invokestatic 373, 3) := by decide +kernel
theorem dX12_canPlay_14 : decode cX12_canPlay 14 = .ok (.ifCond .ne 28, 3) := by decide +kernel
theorem dX12_canPlay_17 : decode cX12_canPlay 17 = .ok (.aload_n 0, 1) := by decide +kernel
theorem dX12_canPlay_18 : decode cX12_canPlay 18 = .ok (.getfield 35, 3) := by decide +kernel
theorem dX12_canPlay_21 : decode cX12_canPlay 21 = .ok (.bipush 37, 2) := by decide +kernel
theorem dX12_canPlay_23 : decode cX12_canPlay 23 = .ok (.iload_n 1, 1) := by decide +kernel
theorem dX12_canPlay_24 : decode cX12_canPlay 24 = .ok (.iadd, 1) := by decide +kernel
theorem dX12_canPlay_25 : decode cX12_canPlay 25 = .ok (.iaload, 1) := by decide +kernel
theorem dX12_canPlay_26 : decode cX12_canPlay 26 = .ok (.aload_n 0, 1) := by decide +kernel
theorem dX12_canPlay_27 : decode cX12_canPlay 27 = .ok (.getfield 35, 3) := by decide +kernel
theorem dX12_canPlay_30 : decode cX12_canPlay 30 = .ok (.iconst 5, 1) := by decide +kernel
theorem dX12_canPlay_31 : decode cX12_canPlay 31 = .ok (.iaload, 1) := by decide +kernel
theorem dX12_canPlay_32 : decode cX12_canPlay 32 = .ok (.iload_n 2, 1) := by decide +kernel
theorem dX12_canPlay_33 : decode cX12_canPlay 33 = .ok (.ior, 1) := by decide +kernel
theorem dX12_canPlay_34 : decode cX12_canPlay 34 = .ok (.iand, 1) := by decide +kernel
theorem dX12_canPlay_35 : decode cX12_canPlay 35 = .ok (.ifCond .ne 7, 3) := by decide +kernel
theorem dX12_canPlay_38 : decode cX12_canPlay 38 = .ok (.iconst 1, 1) := by decide +kernel
theorem dX12_canPlay_39 : decode cX12_canPlay 39 = .ok (.goto 4, 3) := by decide +kernel
theorem dX12_canPlay_42 : decode cX12_canPlay 42 = .ok (.iconst 0, 1) := by decide +kernel
theorem dX12_canPlay_43 : decode cX12_canPlay 43 = .ok (.ireturn, 1) := by decide +kernel
theorem dX12_isDark_0 : decode cX12_isDark 0 = .ok (.aload_n 0, 1) := by decide +kernel
theorem dX12_isDark_1 : decode cX12_isDark 1 = .ok (.aload_n 0, 1) := by decide +kernel
theorem dX12_isDark_2 : decode cX12_isDark 2 = .ok (.getfield 35, 3) := by decide +kernel
theorem dX12_isDark_5 : decode cX12_isDark 5 = .ok (.iconst 2, 1) := by decide +kernel
theorem dX12_isDark_6 : decode cX12_isDark 6 = .ok (.iaload, 1) := by decide +kernel
theorem dX12_isDark_7 : decode cX12_isDark 7 = .ok (.iconst 1, 1) := by decide +kernel
theorem dX12_isDark_8 : decode cX12_isDark 8 = .ok (.isub, 1) := by decide +kernel
theorem dX12_isDark_9 : decode cX12_isDark 9 = .ok (.iconst 0, 1) := by decide +kernel
theorem dX12_isDark_10 : decode cX12_isDark 10 = .ok (.invokevirtual 376, 3) := by decide +kernel
theorem dX12_isDark_13 : decode cX12_isDark 13 = .ok (.ifCond .ne 7, 3) := by decide +kernel
theorem dX12_isDark_16 : decode cX12_isDark 16 = .ok (.iconst 1, 1) := by decide +kernel
theorem dX12_isDark_17 : decode cX12_isDark 17 = .ok (.goto 4, 3) := by decide +kernel
theorem dX12_isDark_20 : decode cX12_isDark 20 = .ok (.iconst 0, 1) := by decide +kernel
theorem dX12_isDark_21 : decode cX12_isDark 21 = .ok (.ireturn, 1) := by decide +kernel
theorem dX12_kills_0 : decode cX12_kills 0 = .ok (.aload_n 0, 1) := by decide +kernel
theorem dX12_kills_1 : decode cX12_kills 1 = .ok (.getfield 35, 3) := by decide +kernel
theorem dX12_kills_4 : decode cX12_kills 4 = .ok (.bipush 109, 2) := by decide +kernel
theorem dX12_kills_6 : decode cX12_kills 6 = .ok (.iload_n 1, 1) := by decide +kernel
theorem dX12_kills_7 : decode cX12_kills 7 = .ok (.iadd, 1) := by decide +kernel
theorem dX12_kills_8 : decode cX12_kills 8 = .ok (.iaload, 1) := by decide +kernel
theorem dX12_kills_9 : decode cX12_kills 9 = .ok (.ifCond .ge 7, 3) := by decide +kernel
theorem dX12_kills_12 : decode cX12_kills 12 = .ok (.iload_n 2, 1) := by decide +kernel
theorem dX12_kills_13 : decode cX12_kills 13 = .ok (.goto 16, 3) := by decide +kernel
theorem dX12_kills_16 : decode cX12_kills 16 = .ok (.iload_n 2, 1) := by decide +kernel
theorem dX12_kills_17 : decode cX12_kills 17 = .ok (.iconst 1, 1) := by decide +kernel
theorem dX12_kills_18 : decode cX12_kills 18 = .ok (.aload_n 0, 1) := by decide +kernel
theorem dX12_kills_19 : decode cX12_kills 19 = .ok (.getfield 35, 3) := by decide +kernel
theorem dX12_kills_22 : decode cX12_kills 22 = .ok (.bipush 109, 2) := by decide +kernel
theorem dX12_kills_24 : decode cX12_kills 24 = .ok (.iload_n 1, 1) := by decide +kernel
theorem dX12_kills_25 : decode cX12_kills 25 = .ok (.iadd, 1) := by decide +kernel
theorem dX12_kills_26 : decode cX12_kills 26 = .ok (.iaload, 1) := by decide +kernel
theorem dX12_kills_27 : decode cX12_kills 27 = .ok (.ishl, 1) := by decide +kernel
