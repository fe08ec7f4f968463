theorem dX12_kills_28 : decode cX12_kills 28 = .ok (.ior, 1) := by decide +kernel
theorem dX12_kills_29 : decode cX12_kills 29 = .ok (.ireturn, 1) := by decide +kernel
theorem dX12_behind2_0 : decode cX12_behind2 0 = .ok (.iload_n 2, 1) := by decide +kernel
theorem dX12_behind2_1 : decode cX12_behind2 1 = .ok (.iconst 1, 1) := by decide +kernel
theorem dX12_behind2_2 : decode cX12_behind2 2 = .ok (.if_icmp .ne 15, 3) := by decide +kernel
theorem dX12_behind2_5 : decode cX12_behind2 5 = .ok (.aload_n 0, 1) := by decide +kernel
theorem dX12_behind2_6 : decode cX12_behind2 6 = .ok (.getfield 35, 3) := by decide +kernel
theorem dX12_behind2_9 : decode cX12_behind2 9 = .ok (.bipush 73, 2) := by decide +kernel
theorem dX12_behind2_11 : decode cX12_behind2 11 = .ok (.iload_n 1, 1) := by decide +kernel
theorem dX12_behind2_12 : decode cX12_behind2 12 = .ok (.iadd, 1) := by decide +kernel
theorem dX12_behind2_13 : decode cX12_behind2 13 = .ok (.iaload, 1) := by decide +kernel
theorem dX12_behind2_14 : decode cX12_behind2 14 = .ok (.goto 38, 3) := by decide +kernel
theorem dX12_behind2_17 : decode cX12_behind2 17 = .ok (.iload_n 2, 1) := by decide +kernel
theorem dX12_behind2_18 : decode cX12_behind2 18 = .ok (.iconst 2, 1) := by decide +kernel
theorem dX12_behind2_19 : decode cX12_behind2 19 = .ok (.if_icmp .ne 15, 3) := by decide +kernel
theorem dX12_behind2_22 : decode cX12_behind2 22 = .ok (.aload_n 0, 1) := by decide +kernel
theorem dX12_behind2_23 : decode cX12_behind2 23 = .ok (.getfield 35, 3) := by decide +kernel
theorem dX12_behind2_26 : decode cX12_behind2 26 = .ok (.bipush 85, 2) := by decide +kernel
theorem dX12_behind2_28 : decode cX12_behind2 28 = .ok (.iload_n 1, 1) := by decide +kernel
theorem dX12_behind2_29 : decode cX12_behind2 29 = .ok (.iadd, 1) := by decide +kernel
theorem dX12_behind2_30 : decode cX12_behind2 30 = .ok (.iaload, 1) := by decide +kernel
theorem dX12_behind2_31 : decode cX12_behind2 31 = .ok (.goto 21, 3) := by decide +kernel
theorem dX12_behind2_34 : decode cX12_behind2 34 = .ok (.iload_n 2, 1) := by decide +kernel
theorem dX12_behind2_35 : decode cX12_behind2 35 = .ok (.iconst 3, 1) := by decide +kernel
theorem dX12_behind2_36 : decode cX12_behind2 36 = .ok (.if_icmp .ne 15, 3) := by decide +kernel
theorem dX12_behind2_39 : decode cX12_behind2 39 = .ok (.aload_n 0, 1) := by decide +kernel
theorem dX12_behind2_40 : decode cX12_behind2 40 = .ok (.getfield 35, 3) := by decide +kernel
theorem dX12_behind2_43 : decode cX12_behind2 43 = .ok (.bipush 97, 2) := by decide +kernel
theorem dX12_behind2_45 : decode cX12_behind2 45 = .ok (.iload_n 1, 1) := by decide +kernel
theorem dX12_behind2_46 : decode cX12_behind2 46 = .ok (.iadd, 1) := by decide +kernel
theorem dX12_behind2_47 : decode cX12_behind2 47 = .ok (.iaload, 1) := by decide +kernel
theorem dX12_behind2_48 : decode cX12_behind2 48 = .ok (.goto 4, 3) := by decide +kernel
theorem dX12_behind2_51 : decode cX12_behind2 51 = .ok (.iconst (-1), 1) := by decide +kernel
theorem dX12_behind2_52 : decode cX12_behind2 52 = .ok (.istore 4, 2) := by decide +kernel
theorem dX12_behind2_54 : decode cX12_behind2 54 = .ok (.iload 4, 2) := by decide +kernel
theorem dX12_behind2_56 : decode cX12_behind2 56 = .ok (.ifCond .ge 14, 3) := by decide +kernel
theorem dX12_behind2_59 : decode cX12_behind2 59 = .ok (.aload_n 0, 1) := by decide +kernel
theorem dX12_behind2_60 : decode cX12_behind2 60 = .ok (.getfield 35, 3) := by decide +kernel
theorem dX12_behind2_63 : decode cX12_behind2 63 = .ok (.bipush 61, 2) := by decide +kernel
theorem dX12_behind2_65 : decode cX12_behind2 65 = .ok (.iload_n 1, 1) := by decide +kernel
theorem dX12_behind2_66 : decode cX12_behind2 66 = .ok (.iadd, 1) := by decide +kernel
theorem dX12_behind2_67 : decode cX12_behind2 67 = .ok (.iaload, 1) := by decide +kernel
theorem dX12_behind2_68 : decode cX12_behind2 68 = .ok (.istore 4, 2) := by decide +kernel
theorem dX12_behind2_70 : decode cX12_behind2 70 = .ok (.aload_n 0, 1) := by decide +kernel
theorem dX12_behind2_71 : decode cX12_behind2 71 = .ok (.iload 4, 2) := by decide +kernel
theorem dX12_behind2_73 : decode cX12_behind2 73 = .ok (.aload_n 0, 1) := by decide +kernel
theorem dX12_behind2_74 : decode cX12_behind2 74 = .ok (.iload_n 1, 1) := by decide +kernel
theorem dX12_behind2_75 : decode cX12_behind2 75 = .ok (.iload_n 3, 1) := by decide +kernel
theorem dX12_behind2_76 : decode cX12_behind2 76 = .ok (.invokevirtual 379, 3) := by decide +kernel
theorem dX12_behind2_79 : decode cX12_behind2 79 = .ok (.invokevirtual 376, 3) := by decide +kernel
theorem dX12_behind2_82 : decode cX12_behind2 82 = .ok (.ifCond .eq 8, 3) := by decide +kernel
theorem dX12_behind2_85 : decode cX12_behind2 85 = .ok (.iload 4, 2) := by decide +kernel
theorem dX12_behind2_87 : decode cX12_behind2 87 = .ok (.goto 4, 3) := by decide +kernel
theorem dX12_behind2_90 : decode cX12_behind2 90 = .ok (.iconst (-1), 1) := by decide +kernel
theorem dX12_behind2_91 : decode cX12_behind2 91 = .ok (.ireturn, 1) := by decide +kernel
theorem dX12_books_0 : decode cX12_books 0 = .ok (.bipush 19, 2) := by decide +kernel
theorem dX12_books_2 : decode cX12_books 2 = .ok (.istore_n 2, 1) := by decide +kernel
theorem dX12_books_3 : decode cX12_books 3 = .ok (.iload_n 2, 1) := by decide +kernel
theorem dX12_books_4 : decode cX12_books 4 = .ok (.ifCond .le 52, 3) := by decide +kernel
theorem dX12_books_7 : decode cX12_books 7 = .ok (.iconst 0, 1) := by decide +kernel
theorem dX12_books_8 : decode cX12_books 8 = .ok (.istore_n 3, 1) := by decide +kernel
theorem dX12_books_9 : decode cX12_books 9 = .ok (.iload_n 3, 1) := by decide +kernel
theorem dX12_books_10 : decode cX12_books 10 = .ok (.iconst 4, 1) := by decide +kernel
theorem dX12_books_11 : decode cX12_books 11 = .ok (.if_icmp .ge 39, 3) := by decide +kernel
theorem dX12_books_14 : decode cX12_books 14 = .ok (.aload_n 0, 1) := by decide +kernel
theorem dX12_books_15 : decode cX12_books 15 = .ok (.getfield 35, 3) := by decide +kernel
theorem dX12_books_18 : decode cX12_books 18 = .ok (.sipush 137, 3) := by decide +kernel
theorem dX12_books_21 : decode cX12_books 21 = .ok (.iconst 4, 1) := by decide +kernel
theorem dX12_books_22 : decode cX12_books 22 = .ok (.iload_n 2, 1) := by decide +kernel
theorem dX12_books_23 : decode cX12_books 23 = .ok (.imul, 1) := by decide +kernel
theorem dX12_books_24 : decode cX12_books 24 = .ok (.iadd, 1) := by decide +kernel
theorem dX12_books_25 : decode cX12_books 25 = .ok (.iload_n 3, 1) := by decide +kernel
theorem dX12_books_26 : decode cX12_books 26 = .ok (.iadd, 1) := by decide +kernel
theorem dX12_books_27 : decode cX12_books 27 = .ok (.aload_n 0, 1) := by decide +kernel
theorem dX12_books_28 : decode cX12_books 28 = .ok (.getfield 35, 3) := by decide +kernel
theorem dX12_books_31 : decode cX12_books 31 = .ok (.sipush 137, 3) := by decide +kernel
theorem dX12_books_34 : decode cX12_books 34 = .ok (.iconst 4, 1) := by decide +kernel
theorem dX12_books_35 : decode cX12_books 35 = .ok (.iload_n 2, 1) := by decide +kernel
theorem dX12_books_36 : decode cX12_books 36 = .ok (.imul, 1) := by decide +kernel
theorem dX12_books_37 : decode cX12_books 37 = .ok (.iadd, 1) := by decide +kernel
theorem dX12_books_38 : decode cX12_books 38 = .ok (.iconst 4, 1) := by decide +kernel
theorem dX12_books_39 : decode cX12_books 39 = .ok (.isub, 1) := by decide +kernel
theorem dX12_books_40 : decode cX12_books 40 = .ok (.iload_n 3, 1) := by decide +kernel
theorem dX12_books_41 : decode cX12_books 41 = .ok (.iadd, 1) := by decide +kernel
theorem dX12_books_42 : decode cX12_books 42 = .ok (.iaload, 1) := by decide +kernel
theorem dX12_books_43 : decode cX12_books 43 = .ok (.iastore, 1) := by decide +kernel
theorem dX12_books_44 : decode cX12_books 44 = .ok (.iinc 3 1, 3) := by decide +kernel
theorem dX12_books_47 : decode cX12_books 47 = .ok (.goto (-38), 3) := by decide +kernel
theorem dX12_books_50 : decode cX12_books 50 = .ok (.iinc 2 (-1), 3) := by decide +kernel
theorem dX12_books_53 : decode cX12_books 53 = .ok (.goto (-50), 3) := by decide +kernel
theorem dX12_books_56 : decode cX12_books 56 = .ok (.aload_n 0, 1) := by decide +kernel
theorem dX12_books_57 : decode cX12_books 57 = .ok (.getfield 35, 3) := by decide +kernel
theorem dX12_books_60 : decode cX12_books 60 = .ok (.sipush 137, 3) := by decide +kernel
theorem dX12_books_63 : decode cX12_books 63 = .ok (.aload_n 0, 1) := by decide +kernel
theorem dX12_books_64 : decode cX12_books 64 = .ok (.getfield 382, 3) := by decide +kernel
theorem dX12_books_67 : decode cX12_books 67 = .ok (.iastore, 1) := by decide +kernel
theorem dX12_books_68 : decode cX12_books 68 = .ok (.aload_n 0, 1) := by decide +kernel
theorem dX12_books_69 : decode cX12_books 69 = .ok (.getfield 35, 3) := by decide +kernel
theorem dX12_books_72 : decode cX12_books 72 = .ok (.sipush 138, 3) := by decide +kernel
theorem dX12_books_75 : decode cX12_books 75 = .ok (.aload_n 0, 1) := by decide +kernel
theorem dX12_books_76 : decode cX12_books 76 = .ok (.getfield 385, 3) := by decide +kernel
theorem dX12_books_79 : decode cX12_books 79 = .ok (.iastore, 1) := by decide +kernel
theorem dX12_books_80 : decode cX12_books 80 = .ok (.aload_n 0, 1) := by decide +kernel
theorem dX12_books_81 : decode cX12_books 81 = .ok (.getfield 35, 3) := by decide +kernel
theorem dX12_books_84 : decode cX12_books 84 = .ok (.sipush 139, 3) := by decide +kernel
theorem dX12_books_87 : decode cX12_books 87 = .ok (.iload_n 1, 1) := by decide +kernel
theorem dX12_books_88 : decode cX12_books 88 = .ok (.iastore, 1) := by decide +kernel
theorem dX12_books_89 : decode cX12_books 89 = .ok (.aload_n 0, 1) := by decide +kernel
theorem dX12_books_90 : decode cX12_books 90 = .ok (.getfield 35, 3) := by decide +kernel
theorem dX12_books_93 : decode cX12_books 93 = .ok (.sipush 140, 3) := by decide +kernel
theorem dX12_books_96 : decode cX12_books 96 = .ok (.aload_n 0, 1) := by decide +kernel
theorem dX12_books_97 : decode cX12_books 97 = .ok (.getfield 388, 3) := by decide +kernel
theorem dX12_books_100 : decode cX12_books 100 = .ok (.iastore, 1) := by decide +kernel
theorem dX12_books_101 : decode cX12_books 101 = .ok (.aload_n 0, 1) := by decide +kernel
theorem dX12_books_102 : decode cX12_books 102 = .ok (.getfield 35, 3) := by decide +kernel
theorem dX12_books_105 : decode cX12_books 105 = .ok (.bipush 6, 2) := by decide +kernel
theorem dX12_books_107 : decode cX12_books 107 = .ok (.bipush 20, 2) := by decide +kernel
theorem dX12_books_109 : decode cX12_books 109 = .ok (.aload_n 0, 1) := by decide +kernel
theorem dX12_books_110 : decode cX12_books 110 = .ok (.getfield 35, 3) := by decide +kernel
theorem dX12_books_113 : decode cX12_books 113 = .ok (.bipush 6, 2) := by decide +kernel
theorem dX12_books_115 : decode cX12_books 115 = .ok (.iaload, 1) := by decide +kernel
theorem dX12_books_116 : decode cX12_books 116 = .ok (.iconst 1, 1) := by decide +kernel
theorem dX12_books_117 : decode cX12_books 117 = .ok (.iadd, 1) := by decide +kernel
theorem dX12_books_118 : decode cX12_books 118 = .ok (.invokestatic 391, 3) := by decide +kernel
theorem dX12_books_121 : decode cX12_books 121 = .ok (.iastore, 1) := by decide +kernel
theorem dX12_books_122 : decode cX12_books 122 = .ok (.return_, 1) := by decide +kernel
theorem dX12_raises_0 : decode cX12_raises 0 = .ok (.aload_n 0, 1) := by decide +kernel
theorem dX12_raises_1 : decode cX12_raises 1 = .ok (.iconst 0, 1) := by decide +kernel
theorem dX12_raises_2 : decode cX12_raises 2 = .ok (.putfield 382, 3) := by decide +kernel
theorem dX12_raises_5 : decode cX12_raises 5 = .ok (.aload_n 0, 1) := by decide +kernel
theorem dX12_raises_6 : decode cX12_raises 6 = .ok (.iconst 0, 1) := by decide +kernel
theorem dX12_raises_7 : decode cX12_raises 7 = .ok (.putfield 388, 3) := by decide +kernel
theorem dX12_raises_10 : decode cX12_raises 10 = .ok (.return_, 1) := by decide +kernel
theorem dX12_sees_0 : decode cX12_sees 0 = .ok (.aload_n 0, 1) := by decide +kernel
theorem dX12_sees_1 : decode cX12_sees 1 = .ok (.dup, 1) := by decide +kernel
theorem dX12_sees_2 : decode cX12_sees 2 = .ok (.getfield 382, 3) := by decide +kernel
theorem dX12_sees_5 : decode cX12_sees 5 = .ok (.iconst 1, 1) := by decide +kernel
theorem dX12_sees_6 : decode cX12_sees 6 = .ok (.iload_n 1, 1) := by decide +kernel
theorem dX12_sees_7 : decode cX12_sees 7 = .ok (.ishl, 1) := by decide +kernel
theorem dX12_sees_8 : decode cX12_sees 8 = .ok (.ior, 1) := by decide +kernel
theorem dX12_sees_9 : decode cX12_sees 9 = .ok (.putfield 382, 3) := by decide +kernel
theorem dX12_sees_12 : decode cX12_sees 12 = .ok (.aload_n 0, 1) := by decide +kernel
theorem dX12_sees_13 : decode cX12_sees 13 = .ok (.aload_n 0, 1) := by decide +kernel
theorem dX12_sees_14 : decode cX12_sees 14 = .ok (.getfield 35, 3) := by decide +kernel
theorem dX12_sees_17 : decode cX12_sees 17 = .ok (.bipush 49, 2) := by decide +kernel
theorem dX12_sees_19 : decode cX12_sees 19 = .ok (.iload_n 1, 1) := by decide +kernel
theorem dX12_sees_20 : decode cX12_sees 20 = .ok (.iadd, 1) := by decide +kernel
theorem dX12_sees_21 : decode cX12_sees 21 = .ok (.iaload, 1) := by decide +kernel
theorem dX12_sees_22 : decode cX12_sees 22 = .ok (.putfield 385, 3) := by decide +kernel
theorem dX12_sees_25 : decode cX12_sees 25 = .ok (.aload_n 0, 1) := by decide +kernel
theorem dX12_sees_26 : decode cX12_sees 26 = .ok (.dup, 1) := by decide +kernel
theorem dX12_sees_27 : decode cX12_sees 27 = .ok (.getfield 388, 3) := by decide +kernel
theorem dX12_sees_30 : decode cX12_sees 30 = .ok (.aload_n 0, 1) := by decide +kernel
theorem dX12_sees_31 : decode cX12_sees 31 = .ok (.iload_n 1, 1) := by decide +kernel
theorem dX12_sees_32 : decode cX12_sees 32 = .ok (.invokevirtual 357, 3) := by decide +kernel
theorem dX12_sees_35 : decode cX12_sees 35 = .ok (.iadd, 1) := by decide +kernel
theorem dX12_sees_36 : decode cX12_sees 36 = .ok (.putfield 388, 3) := by decide +kernel
theorem dX12_sees_39 : decode cX12_sees 39 = .ok (.return_, 1) := by decide +kernel
theorem dX12_night_0 : decode cX12_night 0 = .ok (.aload_n 0, 1) := by decide +kernel
theorem dX12_night_1 : decode cX12_night 1 = .ok (.iconst 0, 1) := by decide +kernel
theorem dX12_night_2 : decode cX12_night 2 = .ok (.putfield 90, 3) := by decide +kernel
theorem dX12_night_5 : decode cX12_night 5 = .ok (.aload_n 0, 1) := by decide +kernel
theorem dX12_night_6 : decode cX12_night 6 = .ok (.iconst 0, 1) := by decide +kernel
theorem dX12_night_7 : decode cX12_night 7 = .ok (.putfield 93, 3) := by decide +kernel
theorem dX12_night_10 : decode cX12_night 10 = .ok (.aload_n 0, 1) := by decide +kernel
theorem dX12_night_11 : decode cX12_night 11 = .ok (.iload_n 1, 1) := by decide +kernel
theorem dX12_night_12 : decode cX12_night 12 = .ok (.invokevirtual 394, 3) := by decide +kernel
theorem dX12_night_15 : decode cX12_night 15 = .ok (.ifCond .ne 9, 3) := by decide +kernel
theorem dX12_night_18 : decode cX12_night 18 = .ok (.aload_n 0, 1) := by decide +kernel
theorem dX12_night_19 : decode cX12_night 19 = .ok (.iconst 1, 1) := by decide +kernel
theorem dX12_night_20 : decode cX12_night 20 = .ok (.invokevirtual 348, 3) := by decide +kernel
theorem dX12_night_23 : decode cX12_night 23 = .ok (.ireturn, 1) := by decide +kernel
theorem dX12_night_24 : decode cX12_night 24 = .ok (.aload_n 0, 1) := by decide +kernel
theorem dX12_night_25 : decode cX12_night 25 = .ok (.getfield 17, 3) := by decide +kernel
theorem dX12_night_28 : decode cX12_night 28 = .ok (.iload_n 1, 1) := by decide +kernel
theorem dX12_night_29 : decode cX12_night 29 = .ok (.iaload, 1) := by decide +kernel
theorem dX12_night_30 : decode cX12_night 30 = .ok (.ifCond .ge 9, 3) := by decide +kernel
theorem dX12_night_33 : decode cX12_night 33 = .ok (.aload_n 0, 1) := by decide +kernel
theorem dX12_night_34 : decode cX12_night 34 = .ok (.iconst 3, 1) := by decide +kernel
theorem dX12_night_35 : decode cX12_night 35 = .ok (.invokevirtual 348, 3) := by decide +kernel
theorem dX12_night_38 : decode cX12_night 38 = .ok (.ireturn, 1) := by decide +kernel
theorem dX12_night_39 : decode cX12_night 39 = .ok (.iload_n 2, 1) := by decide +kernel
theorem dX12_night_40 : decode cX12_night 40 = .ok (.i2l, 1) := by decide +kernel
theorem dX12_night_41 : decode cX12_night 41 = .ok (.lconst 0, 1) := by decide +kernel
theorem dX12_night_42 : decode cX12_night 42 = .ok (.ldc2_w 397, 3) := by decide +kernel
theorem dX12_night_45 : decode cX12_night 45 = .ok (.invokestatic 129, 3) := by decide +kernel
theorem dX12_night_48 : decode cX12_night 48 = .ok (.ifCond .ne 9, 3) := by decide +kernel
theorem dX12_night_51 : decode cX12_night 51 = .ok (.aload_n 0, 1) := by decide +kernel
theorem dX12_night_52 : decode cX12_night 52 = .ok (.iconst 5, 1) := by decide +kernel
theorem dX12_night_53 : decode cX12_night 53 = .ok (.invokevirtual 348, 3) := by decide +kernel
theorem dX12_night_56 : decode cX12_night 56 = .ok (.ireturn, 1) := by decide +kernel
theorem dX12_night_57 : decode cX12_night 57 = .ok (.aload_n 0, 1) := by decide +kernel
theorem dX12_night_58 : decode cX12_night 58 = .ok (.getfield 17, 3) := by decide +kernel
theorem dX12_night_61 : decode cX12_night 61 = .ok (.iload_n 1, 1) := by decide +kernel
theorem dX12_night_62 : decode cX12_night 62 = .ok (.iaload, 1) := by decide +kernel
theorem dX12_night_63 : decode cX12_night 63 = .ok (.iload_n 2, 1) := by decide +kernel
theorem dX12_night_64 : decode cX12_night 64 = .ok (.if_icmp .ge 9, 3) := by decide +kernel
theorem dX12_night_67 : decode cX12_night 67 = .ok (.aload_n 0, 1) := by decide +kernel
theorem dX12_night_68 : decode cX12_night 68 = .ok (.iconst 4, 1) := by decide +kernel
theorem dX12_night_69 : decode cX12_night 69 = .ok (.invokevirtual 348, 3) := by decide +kernel
theorem dX12_night_72 : decode cX12_night 72 = .ok (.ireturn, 1) := by decide +kernel
theorem dX12_night_73 : decode cX12_night 73 = .ok (.iconst 0, 1) := by decide +kernel
theorem dX12_night_74 : decode cX12_night 74 = .ok (.istore_n 3, 1) := by decide +kernel
theorem dX12_night_75 : decode cX12_night 75 = .ok (.iload_n 3, 1) := by decide +kernel
theorem dX12_night_76 : decode cX12_night 76 = .ok (.iload_n 2, 1) := by decide +kernel
theorem dX12_night_77 : decode cX12_night 77 = .ok (.if_icmp .ge 31, 3) := by decide +kernel
theorem dX12_night_80 : decode cX12_night 80 = .ok (.aload_n 0, 1) := by decide +kernel
theorem dX12_night_81 : decode cX12_night 81 = .ok (.iload_n 1, 1) := by decide +kernel
theorem dX12_night_82 : decode cX12_night 82 = .ok (.iload_n 3, 1) := by decide +kernel
theorem dX12_night_83 : decode cX12_night 83 = .ok (.invokevirtual 399, 3) := by decide +kernel
theorem dX12_night_86 : decode cX12_night 86 = .ok (.lconst 0, 1) := by decide +kernel
theorem dX12_night_87 : decode cX12_night 87 = .ok (.ldc2_w 127, 3) := by decide +kernel
theorem dX12_night_90 : decode cX12_night 90 = .ok (.invokestatic 129, 3) := by decide +kernel
theorem dX12_night_93 : decode cX12_night 93 = .ok (.ifCond .ne 9, 3) := by decide +kernel
theorem dX12_night_96 : decode cX12_night 96 = .ok (.aload_n 0, 1) := by decide +kernel
theorem dX12_night_97 : decode cX12_night 97 = .ok (.iconst 5, 1) := by decide +kernel
theorem dX12_night_98 : decode cX12_night 98 = .ok (.invokevirtual 348, 3) := by decide +kernel
theorem dX12_night_101 : decode cX12_night 101 = .ok (.ireturn, 1) := by decide +kernel
theorem dX12_night_102 : decode cX12_night 102 = .ok (.iinc 3 1, 3) := by decide +kernel
theorem dX12_night_105 : decode cX12_night 105 = .ok (.goto (-30), 3) := by decide +kernel
theorem dX12_night_108 : decode cX12_night 108 = .ok (.aload_n 0, 1) := by decide +kernel
theorem dX12_night_109 : decode cX12_night 109 = .ok (.invokevirtual 403, 3) := by decide +kernel
theorem dX12_night_112 : decode cX12_night 112 = .ok (.ifCond .eq 10, 3) := by decide +kernel
theorem dX12_night_115 : decode cX12_night 115 = .ok (.aload_n 0, 1) := by decide +kernel
theorem dX12_night_116 : decode cX12_night 116 = .ok (.bipush 9, 2) := by decide +kernel
theorem dX12_night_118 : decode cX12_night 118 = .ok (.invokevirtual 348, 3) := by decide +kernel
theorem dX12_night_121 : decode cX12_night 121 = .ok (.ireturn, 1) := by decide +kernel
theorem dX12_night_122 : decode cX12_night 122 = .ok (.aload_n 0, 1) := by decide +kernel
theorem dX12_night_123 : decode cX12_night 123 = .ok (.invokevirtual 406, 3) := by decide +kernel
theorem dX12_night_126 : decode cX12_night 126 = .ok (.aload_n 0, 1) := by decide +kernel
theorem dX12_night_127 : decode cX12_night 127 = .ok (.getfield 35, 3) := by decide +kernel
theorem dX12_night_130 : decode cX12_night 130 = .ok (.iconst 2, 1) := by decide +kernel
theorem dX12_night_131 : decode cX12_night 131 = .ok (.iaload, 1) := by decide +kernel
theorem dX12_night_132 : decode cX12_night 132 = .ok (.iconst 1, 1) := by decide +kernel
theorem dX12_night_133 : decode cX12_night 133 = .ok (.isub, 1) := by decide +kernel
theorem dX12_night_134 : decode cX12_night 134 = .ok (.istore_n 3, 1) := by decide +kernel
theorem dX12_night_135 : decode cX12_night 135 = .ok (.iconst 0, 1) := by decide +kernel
theorem dX12_night_136 : decode cX12_night 136 = .ok (.istore 4, 2) := by decide +kernel
theorem dX12_night_138 : decode cX12_night 138 = .ok (.iconst 0, 1) := by decide +kernel
theorem dX12_night_139 : decode cX12_night 139 = .ok (.istore 5, 2) := by decide +kernel
theorem dX12_night_141 : decode cX12_night 141 = .ok (.iload_n 3, 1) := by decide +kernel
theorem dX12_night_142 : decode cX12_night 142 = .ok (.ifCond .lt 53, 3) := by decide +kernel
theorem dX12_night_145 : decode cX12_night 145 = .ok (.aload_n 0, 1) := by decide +kernel
theorem dX12_night_146 : decode cX12_night 146 = .ok (.iload_n 3, 1) := by decide +kernel
theorem dX12_night_147 : decode cX12_night 147 = .ok (.invokevirtual 409, 3) := by decide +kernel
theorem dX12_night_150 : decode cX12_night 150 = .ok (.aload_n 0, 1) := by decide +kernel
theorem dX12_night_151 : decode cX12_night 151 = .ok (.iload_n 3, 1) := by decide +kernel
theorem dX12_night_152 : decode cX12_night 152 = .ok (.iload 5, 2) := by decide +kernel
theorem dX12_night_154 : decode cX12_night 154 = .ok (.iload_n 2, 1) := by decide +kernel
theorem dX12_night_155 : decode cX12_night 155 = .ok (.if_icmp .ge 14, 3) := by decide +kernel
theorem dX12_night_158 : decode cX12_night 158 = .ok (.aload_n 0, 1) := by decide +kernel
theorem dX12_night_159 : decode cX12_night 159 = .ok (.iload_n 1, 1) := by decide +kernel
theorem dX12_night_160 : decode cX12_night 160 = .ok (.iload 5, 2) := by decide +kernel
theorem dX12_night_162 : decode cX12_night 162 = .ok (.invokevirtual 399, 3) := by decide +kernel
theorem dX12_night_165 : decode cX12_night 165 = .ok (.l2i, 1) := by decide +kernel
theorem dX12_night_166 : decode cX12_night 166 = .ok (.goto 4, 3) := by decide +kernel
theorem dX12_night_169 : decode cX12_night 169 = .ok (.iconst 0, 1) := by decide +kernel
theorem dX12_night_170 : decode cX12_night 170 = .ok (.iload 4, 2) := by decide +kernel
theorem dX12_night_172 : decode cX12_night 172 = .ok (.invokevirtual 412, 3) := by decide +kernel
theorem dX12_night_175 : decode cX12_night 175 = .ok (.istore 6, 2) := by decide +kernel
theorem dX12_night_177 : decode cX12_night 177 = .ok (.aload_n 0, 1) := by decide +kernel
theorem dX12_night_178 : decode cX12_night 178 = .ok (.iload_n 3, 1) := by decide +kernel
theorem dX12_night_179 : decode cX12_night 179 = .ok (.iload 4, 2) := by decide +kernel
theorem dX12_night_181 : decode cX12_night 181 = .ok (.invokevirtual 379, 3) := by decide +kernel
theorem dX12_night_184 : decode cX12_night 184 = .ok (.istore 4, 2) := by decide +kernel
theorem dX12_night_186 : decode cX12_night 186 = .ok (.iload 6, 2) := by decide +kernel
theorem dX12_night_188 : decode cX12_night 188 = .ok (.istore_n 3, 1) := by decide +kernel
theorem dX12_night_189 : decode cX12_night 189 = .ok (.iinc 5 1, 3) := by decide +kernel
theorem dX12_night_192 : decode cX12_night 192 = .ok (.goto (-51), 3) := by decide +kernel
theorem dX12_night_195 : decode cX12_night 195 = .ok (.aload_n 0, 1) := by decide +kernel
theorem dX12_night_196 : decode cX12_night 196 = .ok (.iconst (-1), 1) := by decide +kernel
theorem dX12_night_197 : decode cX12_night 197 = .ok (.invokevirtual 415, 3) := by decide +kernel
theorem dX12_night_200 : decode cX12_night 200 = .ok (.aload_n 0, 1) := by decide +kernel
theorem dX12_night_201 : decode cX12_night 201 = .ok (.getfield 382, 3) := by decide +kernel
theorem dX12_night_204 : decode cX12_night 204 = .ok (.ireturn, 1) := by decide +kernel
theorem dX12_draw_0 : decode cX12_draw 0 = .ok (.aload_n 0, 1) := by decide +kernel
theorem dX12_draw_1 : decode cX12_draw 1 = .ok (.aload_n 0, 1) := by decide +kernel
theorem dX12_draw_2 : decode cX12_draw 2 = .ok (.getfield 418, 3) := by decide +kernel
theorem dX12_draw_5 : decode cX12_draw 5 = .ok (.sipush 2903, 3) := by decide +kernel
theorem dX12_draw_8 : decode cX12_draw 8 = .ok (.imul, 1) := by decide +kernel
theorem dX12_draw_9 : decode cX12_draw 9 = .ok (.sipush 7187, 3) := by decide +kernel
theorem dX12_draw_12 : decode cX12_draw 12 = .ok (.iadd, 1) := by decide +kernel
theorem dX12_draw_13 : decode cX12_draw 13 = .ok (.ldc_w 421, 3) := by decide +kernel
theorem dX12_draw_16 : decode cX12_draw 16 = .ok (.irem, 1) := by decide +kernel
theorem dX12_draw_17 : decode cX12_draw 17 = .ok (.putfield 418, 3) := by decide +kernel
theorem dX12_draw_20 : decode cX12_draw 20 = .ok (.aload_n 0, 1) := by decide +kernel
theorem dX12_draw_21 : decode cX12_draw 21 = .ok (.getfield 418, 3) := by decide +kernel
theorem dX12_draw_24 : decode cX12_draw 24 = .ok (.bipush 8, 2) := by decide +kernel
theorem dX12_draw_26 : decode cX12_draw 26 = .ok (.idiv, 1) := by decide +kernel
theorem dX12_draw_27 : decode cX12_draw 27 = .ok (.iload_n 1, 1) := by decide +kernel
theorem dX12_draw_28 : decode cX12_draw 28 = .ok (.irem, 1) := by decide +kernel
theorem dX12_draw_29 : decode cX12_draw 29 = .ok (.ireturn, 1) := by decide +kernel
theorem dX12_allLots_0 : decode cX12_allLots 0 = .ok (.iconst 0, 1) := by decide +kernel
theorem dX12_allLots_1 : decode cX12_allLots 1 = .ok (.istore_n 1, 1) := by decide +kernel
theorem dX12_allLots_2 : decode cX12_allLots 2 = .ok (.iconst 0, 1) := by decide +kernel
theorem dX12_allLots_3 : decode cX12_allLots 3 = .ok (.istore_n 2, 1) := by decide +kernel
theorem dX12_allLots_4 : decode cX12_allLots 4 = .ok (.iload_n 2, 1) := by decide +kernel
theorem dX12_allLots_5 : decode cX12_allLots 5 = .ok (.aload_n 0, 1) := by decide +kernel
theorem dX12_allLots_6 : decode cX12_allLots 6 = .ok (.getfield 35, 3) := by decide +kernel
theorem dX12_allLots_9 : decode cX12_allLots 9 = .ok (.iconst 3, 1) := by decide +kernel
theorem dX12_allLots_10 : decode cX12_allLots 10 = .ok (.iaload, 1) := by decide +kernel
theorem dX12_allLots_11 : decode cX12_allLots 11 = .ok (.if_icmp .ge 21, 3) := by decide +kernel
theorem dX12_allLots_14 : decode cX12_allLots 14 = .ok (.iload_n 1, 1) := by decide +kernel
theorem dX12_allLots_15 : decode cX12_allLots 15 = .ok (.aload_n 0, 1) := by decide +kernel
theorem dX12_allLots_16 : decode cX12_allLots 16 = .ok (.getfield 35, 3) := by decide +kernel
theorem dX12_allLots_19 : decode cX12_allLots 19 = .ok (.bipush 121, 2) := by decide +kernel
theorem dX12_allLots_21 : decode cX12_allLots 21 = .ok (.iload_n 2, 1) := by decide +kernel
theorem dX12_allLots_22 : decode cX12_allLots 22 = .ok (.iadd, 1) := by decide +kernel
theorem dX12_allLots_23 : decode cX12_allLots 23 = .ok (.iaload, 1) := by decide +kernel
theorem dX12_allLots_24 : decode cX12_allLots 24 = .ok (.iadd, 1) := by decide +kernel
theorem dX12_allLots_25 : decode cX12_allLots 25 = .ok (.istore_n 1, 1) := by decide +kernel
theorem dX12_allLots_26 : decode cX12_allLots 26 = .ok (.iinc 2 1, 3) := by decide +kernel
theorem dX12_allLots_29 : decode cX12_allLots 29 = .ok (.goto (-25), 3) := by decide +kernel
theorem dX12_allLots_32 : decode cX12_allLots 32 = .ok (.iload_n 1, 1) := by decide +kernel
theorem dX12_allLots_33 : decode cX12_allLots 33 = .ok (.ireturn, 1) := by decide +kernel
theorem dX12_drawnKind_0 : decode cX12_drawnKind 0 = .ok (.aload_n 0, 1) := by decide +kernel
theorem dX12_drawnKind_1 : decode cX12_drawnKind 1 = .ok (.aload_n 0, 1) := by decide +kernel
theorem dX12_drawnKind_2 : decode cX12_drawnKind 2 = .ok (.invokevirtual 422, 3) := by decide +kernel
theorem dX12_drawnKind_5 : decode cX12_drawnKind 5 = .ok (.invokevirtual 425, 3) := by decide +kernel
theorem dX12_drawnKind_8 : decode cX12_drawnKind 8 = .ok (.istore_n 1, 1) := by decide +kernel
theorem dX12_drawnKind_9 : decode cX12_drawnKind 9 = .ok (.iconst 0, 1) := by decide +kernel
theorem dX12_drawnKind_10 : decode cX12_drawnKind 10 = .ok (.istore_n 2, 1) := by decide +kernel
theorem dX12_drawnKind_11 : decode cX12_drawnKind 11 = .ok (.iload_n 1, 1) := by decide +kernel
theorem dX12_drawnKind_12 : decode cX12_drawnKind 12 = .ok (.aload_n 0, 1) := by decide +kernel
theorem dX12_drawnKind_13 : decode cX12_drawnKind 13 = .ok (.getfield 35, 3) := by decide +kernel
theorem dX12_drawnKind_16 : decode cX12_drawnKind 16 = .ok (.bipush 121, 2) := by decide +kernel
theorem dX12_drawnKind_18 : decode cX12_drawnKind 18 = .ok (.iload_n 2, 1) := by decide +kernel
theorem dX12_drawnKind_19 : decode cX12_drawnKind 19 = .ok (.iadd, 1) := by decide +kernel
theorem dX12_drawnKind_20 : decode cX12_drawnKind 20 = .ok (.iaload, 1) := by decide +kernel
theorem dX12_drawnKind_21 : decode cX12_drawnKind 21 = .ok (.if_icmp .lt 21, 3) := by decide +kernel
theorem dX12_drawnKind_24 : decode cX12_drawnKind 24 = .ok (.iload_n 1, 1) := by decide +kernel
theorem dX12_drawnKind_25 : decode cX12_drawnKind 25 = .ok (.aload_n 0, 1) := by decide +kernel
theorem dX12_drawnKind_26 : decode cX12_drawnKind 26 = .ok (.getfield 35, 3) := by decide +kernel
theorem dX12_drawnKind_29 : decode cX12_drawnKind 29 = .ok (.bipush 121, 2) := by decide +kernel
theorem dX12_drawnKind_31 : decode cX12_drawnKind 31 = .ok (.iload_n 2, 1) := by decide +kernel
theorem dX12_drawnKind_32 : decode cX12_drawnKind 32 = .ok (.iadd, 1) := by decide +kernel
theorem dX12_drawnKind_33 : decode cX12_drawnKind 33 = .ok (.iaload, 1) := by decide +kernel
theorem dX12_drawnKind_34 : decode cX12_drawnKind 34 = .ok (.isub, 1) := by decide +kernel
theorem dX12_drawnKind_35 : decode cX12_drawnKind 35 = .ok (.istore_n 1, 1) := by decide +kernel
theorem dX12_drawnKind_36 : decode cX12_drawnKind 36 = .ok (.iinc 2 1, 3) := by decide +kernel
theorem dX12_drawnKind_39 : decode cX12_drawnKind 39 = .ok (.goto (-28), 3) := by decide +kernel
theorem dX12_drawnKind_42 : decode cX12_drawnKind 42 = .ok (.iload_n 2, 1) := by decide +kernel
theorem dX12_drawnKind_43 : decode cX12_drawnKind 43 = .ok (.ireturn, 1) := by decide +kernel
theorem dX12_drawnAct_0 : decode cX12_drawnAct 0 = .ok (.aload_n 0, 1) := by decide +kernel
theorem dX12_drawnAct_1 : decode cX12_drawnAct 1 = .ok (.bipush 16, 2) := by decide +kernel
theorem dX12_drawnAct_3 : decode cX12_drawnAct 3 = .ok (.invokevirtual 425, 3) := by decide +kernel
theorem dX12_drawnAct_6 : decode cX12_drawnAct 6 = .ok (.istore_n 2, 1) := by decide +kernel
theorem dX12_drawnAct_7 : decode cX12_drawnAct 7 = .ok (.iload_n 2, 1) := by decide +kernel
theorem dX12_drawnAct_8 : decode cX12_drawnAct 8 = .ok (.aload_n 0, 1) := by decide +kernel
theorem dX12_drawnAct_9 : decode cX12_drawnAct 9 = .ok (.getfield 35, 3) := by decide +kernel
theorem dX12_drawnAct_12 : decode cX12_drawnAct 12 = .ok (.bipush 125, 2) := by decide +kernel
theorem dX12_drawnAct_14 : decode cX12_drawnAct 14 = .ok (.iload_n 1, 1) := by decide +kernel
theorem dX12_drawnAct_15 : decode cX12_drawnAct 15 = .ok (.iadd, 1) := by decide +kernel
theorem dX12_drawnAct_16 : decode cX12_drawnAct 16 = .ok (.iaload, 1) := by decide +kernel
theorem dX12_drawnAct_17 : decode cX12_drawnAct 17 = .ok (.if_icmp .ge 5, 3) := by decide +kernel
theorem dX12_drawnAct_20 : decode cX12_drawnAct 20 = .ok (.iconst 1, 1) := by decide +kernel
theorem dX12_drawnAct_21 : decode cX12_drawnAct 21 = .ok (.ireturn, 1) := by decide +kernel
theorem dX12_drawnAct_22 : decode cX12_drawnAct 22 = .ok (.iload_n 2, 1) := by decide +kernel
theorem dX12_drawnAct_23 : decode cX12_drawnAct 23 = .ok (.aload_n 0, 1) := by decide +kernel
theorem dX12_drawnAct_24 : decode cX12_drawnAct 24 = .ok (.getfield 35, 3) := by decide +kernel
theorem dX12_drawnAct_27 : decode cX12_drawnAct 27 = .ok (.bipush 125, 2) := by decide +kernel
theorem dX12_drawnAct_29 : decode cX12_drawnAct 29 = .ok (.iload_n 1, 1) := by decide +kernel
theorem dX12_drawnAct_30 : decode cX12_drawnAct 30 = .ok (.iadd, 1) := by decide +kernel
theorem dX12_drawnAct_31 : decode cX12_drawnAct 31 = .ok (.iaload, 1) := by decide +kernel
theorem dX12_drawnAct_32 : decode cX12_drawnAct 32 = .ok (.aload_n 0, 1) := by decide +kernel
theorem dX12_drawnAct_33 : decode cX12_drawnAct 33 = .ok (.getfield 35, 3) := by decide +kernel
theorem dX12_drawnAct_36 : decode cX12_drawnAct 36 = .ok (.sipush 129, 3) := by decide +kernel
theorem dX12_drawnAct_39 : decode cX12_drawnAct 39 = .ok (.iload_n 1, 1) := by decide +kernel
theorem dX12_drawnAct_40 : decode cX12_drawnAct 40 = .ok (.iadd, 1) := by decide +kernel
theorem dX12_drawnAct_41 : decode cX12_drawnAct 41 = .ok (.iaload, 1) := by decide +kernel
theorem dX12_drawnAct_42 : decode cX12_drawnAct 42 = .ok (.iadd, 1) := by decide +kernel
theorem dX12_drawnAct_43 : decode cX12_drawnAct 43 = .ok (.if_icmp .ge 5, 3) := by decide +kernel
theorem dX12_drawnAct_46 : decode cX12_drawnAct 46 = .ok (.iconst 2, 1) := by decide +kernel
theorem dX12_drawnAct_47 : decode cX12_drawnAct 47 = .ok (.ireturn, 1) := by decide +kernel
theorem dX12_drawnAct_48 : decode cX12_drawnAct 48 = .ok (.iload_n 2, 1) := by decide +kernel
theorem dX12_drawnAct_49 : decode cX12_drawnAct 49 = .ok (.aload_n 0, 1) := by decide +kernel
theorem dX12_drawnAct_50 : decode cX12_drawnAct 50 = .ok (.getfield 35, 3) := by decide +kernel
theorem dX12_drawnAct_53 : decode cX12_drawnAct 53 = .ok (.bipush 125, 2) := by decide +kernel
theorem dX12_drawnAct_55 : decode cX12_drawnAct 55 = .ok (.iload_n 1, 1) := by decide +kernel
theorem dX12_drawnAct_56 : decode cX12_drawnAct 56 = .ok (.iadd, 1) := by decide +kernel
theorem dX12_drawnAct_57 : decode cX12_drawnAct 57 = .ok (.iaload, 1) := by decide +kernel
theorem dX12_drawnAct_58 : decode cX12_drawnAct 58 = .ok (.aload_n 0, 1) := by decide +kernel
theorem dX12_drawnAct_59 : decode cX12_drawnAct 59 = .ok (.getfield 35, 3) := by decide +kernel
theorem dX12_drawnAct_62 : decode cX12_drawnAct 62 = .ok (.sipush 129, 3) := by decide +kernel
theorem dX12_drawnAct_65 : decode cX12_drawnAct 65 = .ok (.iload_n 1, 1) := by decide +kernel
theorem dX12_drawnAct_66 : decode cX12_drawnAct 66 = .ok (.iadd, 1) := by decide +kernel
theorem dX12_drawnAct_67 : decode cX12_drawnAct 67 = .ok (.iaload, 1) := by decide +kernel
theorem dX12_drawnAct_68 : decode cX12_drawnAct 68 = .ok (.iadd, 1) := by decide +kernel
theorem dX12_drawnAct_69 : decode cX12_drawnAct 69 = .ok (.aload_n 0, 1) := by decide +kernel
theorem dX12_drawnAct_70 : decode cX12_drawnAct 70 = .ok (.getfield 35, 3) := by decide +kernel
theorem dX12_drawnAct_73 : decode cX12_drawnAct 73 = .ok (.sipush 133, 3) := by decide +kernel
theorem dX12_drawnAct_76 : decode cX12_drawnAct 76 = .ok (.iload_n 1, 1) := by decide +kernel
theorem dX12_drawnAct_77 : decode cX12_drawnAct 77 = .ok (.iadd, 1) := by decide +kernel
theorem dX12_drawnAct_78 : decode cX12_drawnAct 78 = .ok (.iaload, 1) := by decide +kernel
theorem dX12_drawnAct_79 : decode cX12_drawnAct 79 = .ok (.iadd, 1) := by decide +kernel
theorem dX12_drawnAct_80 : decode cX12_drawnAct 80 = .ok (.if_icmp .ge 7, 3) := by decide +kernel
theorem dX12_drawnAct_83 : decode cX12_drawnAct 83 = .ok (.iconst 3, 1) := by decide +kernel
theorem dX12_drawnAct_84 : decode cX12_drawnAct 84 = .ok (.goto 4, 3) := by decide +kernel
theorem dX12_drawnAct_87 : decode cX12_drawnAct 87 = .ok (.iconst 0, 1) := by decide +kernel
theorem dX12_drawnAct_88 : decode cX12_drawnAct 88 = .ok (.ireturn, 1) := by decide +kernel
theorem dX12_playFor_0 : decode cX12_playFor 0 = .ok (.aload_n 0, 1) := by decide +kernel
theorem dX12_playFor_1 : decode cX12_playFor 1 = .ok (.invokevirtual 406, 3) := by decide +kernel
theorem dX12_playFor_4 : decode cX12_playFor 4 = .ok (.aload_n 0, 1) := by decide +kernel
theorem dX12_playFor_5 : decode cX12_playFor 5 = .ok (.getfield 35, 3) := by decide +kernel
theorem dX12_playFor_8 : decode cX12_playFor 8 = .ok (.iconst 2, 1) := by decide +kernel
theorem dX12_playFor_9 : decode cX12_playFor 9 = .ok (.iaload, 1) := by decide +kernel
theorem dX12_playFor_10 : decode cX12_playFor 10 = .ok (.iconst 1, 1) := by decide +kernel
theorem dX12_playFor_11 : decode cX12_playFor 11 = .ok (.isub, 1) := by decide +kernel
theorem dX12_playFor_12 : decode cX12_playFor 12 = .ok (.istore_n 2, 1) := by decide +kernel
theorem dX12_playFor_13 : decode cX12_playFor 13 = .ok (.iconst 0, 1) := by decide +kernel
theorem dX12_playFor_14 : decode cX12_playFor 14 = .ok (.istore_n 3, 1) := by decide +kernel
theorem dX12_playFor_15 : decode cX12_playFor 15 = .ok (.iload_n 2, 1) := by decide +kernel
theorem dX12_playFor_16 : decode cX12_playFor 16 = .ok (.ifCond .lt 34, 3) := by decide +kernel
theorem dX12_playFor_19 : decode cX12_playFor 19 = .ok (.aload_n 0, 1) := by decide +kernel
theorem dX12_playFor_20 : decode cX12_playFor 20 = .ok (.iload_n 2, 1) := by decide +kernel
theorem dX12_playFor_21 : decode cX12_playFor 21 = .ok (.invokevirtual 409, 3) := by decide +kernel
theorem dX12_playFor_24 : decode cX12_playFor 24 = .ok (.aload_n 0, 1) := by decide +kernel
theorem dX12_playFor_25 : decode cX12_playFor 25 = .ok (.iload_n 2, 1) := by decide +kernel
theorem dX12_playFor_26 : decode cX12_playFor 26 = .ok (.aload_n 0, 1) := by decide +kernel
theorem dX12_playFor_27 : decode cX12_playFor 27 = .ok (.iload_n 1, 1) := by decide +kernel
theorem dX12_playFor_28 : decode cX12_playFor 28 = .ok (.invokevirtual 428, 3) := by decide +kernel
theorem dX12_playFor_31 : decode cX12_playFor 31 = .ok (.iload_n 3, 1) := by decide +kernel
theorem dX12_playFor_32 : decode cX12_playFor 32 = .ok (.invokevirtual 412, 3) := by decide +kernel
theorem dX12_playFor_35 : decode cX12_playFor 35 = .ok (.istore 4, 2) := by decide +kernel
theorem dX12_playFor_37 : decode cX12_playFor 37 = .ok (.aload_n 0, 1) := by decide +kernel
theorem dX12_playFor_38 : decode cX12_playFor 38 = .ok (.iload_n 2, 1) := by decide +kernel
theorem dX12_playFor_39 : decode cX12_playFor 39 = .ok (.iload_n 3, 1) := by decide +kernel
theorem dX12_playFor_40 : decode cX12_playFor 40 = .ok (.invokevirtual 379, 3) := by decide +kernel
theorem dX12_playFor_43 : decode cX12_playFor 43 = .ok (.istore_n 3, 1) := by decide +kernel
theorem dX12_playFor_44 : decode cX12_playFor 44 = .ok (.iload 4, 2) := by decide +kernel
theorem dX12_playFor_46 : decode cX12_playFor 46 = .ok (.istore_n 2, 1) := by decide +kernel
theorem dX12_playFor_47 : decode cX12_playFor 47 = .ok (.goto (-32), 3) := by decide +kernel
theorem dX12_playFor_50 : decode cX12_playFor 50 = .ok (.aload_n 0, 1) := by decide +kernel
theorem dX12_playFor_51 : decode cX12_playFor 51 = .ok (.iload_n 1, 1) := by decide +kernel
theorem dX12_playFor_52 : decode cX12_playFor 52 = .ok (.invokevirtual 415, 3) := by decide +kernel
theorem dX12_playFor_55 : decode cX12_playFor 55 = .ok (.return_, 1) := by decide +kernel
theorem dX12_lot_0 : decode cX12_lot 0 = .ok (.aload_n 0, 1) := by decide +kernel
theorem dX12_lot_1 : decode cX12_lot 1 = .ok (.iconst 0, 1) := by decide +kernel
theorem dX12_lot_2 : decode cX12_lot 2 = .ok (.putfield 90, 3) := by decide +kernel
theorem dX12_lot_5 : decode cX12_lot 5 = .ok (.aload_n 0, 1) := by decide +kernel
theorem dX12_lot_6 : decode cX12_lot 6 = .ok (.iconst 0, 1) := by decide +kernel
theorem dX12_lot_7 : decode cX12_lot 7 = .ok (.putfield 93, 3) := by decide +kernel
theorem dX12_lot_10 : decode cX12_lot 10 = .ok (.iload_n 1, 1) := by decide +kernel
theorem dX12_lot_11 : decode cX12_lot 11 = .ok (.i2l, 1) := by decide +kernel
theorem dX12_lot_12 : decode cX12_lot 12 = .ok (.lconst 0, 1) := by decide +kernel
theorem dX12_lot_13 : decode cX12_lot 13 = .ok (.ldc2_w 431, 3) := by decide +kernel
theorem dX12_lot_16 : decode cX12_lot 16 = .ok (.invokestatic 129, 3) := by decide +kernel
theorem dX12_lot_19 : decode cX12_lot 19 = .ok (.ifCond .ne 9, 3) := by decide +kernel
theorem dX12_lot_22 : decode cX12_lot 22 = .ok (.aload_n 0, 1) := by decide +kernel
theorem dX12_lot_23 : decode cX12_lot 23 = .ok (.iconst 5, 1) := by decide +kernel
theorem dX12_lot_24 : decode cX12_lot 24 = .ok (.invokevirtual 348, 3) := by decide +kernel
theorem dX12_lot_27 : decode cX12_lot 27 = .ok (.ireturn, 1) := by decide +kernel
theorem dX12_lot_28 : decode cX12_lot 28 = .ok (.aload_n 0, 1) := by decide +kernel
theorem dX12_lot_29 : decode cX12_lot 29 = .ok (.getfield 35, 3) := by decide +kernel
theorem dX12_lot_32 : decode cX12_lot 32 = .ok (.iconst 3, 1) := by decide +kernel
theorem dX12_lot_33 : decode cX12_lot 33 = .ok (.iaload, 1) := by decide +kernel
theorem dX12_lot_34 : decode cX12_lot 34 = .ok (.ifCond .ne 10, 3) := by decide +kernel
theorem dX12_lot_37 : decode cX12_lot 37 = .ok (.aload_n 0, 1) := by decide +kernel
theorem dX12_lot_38 : decode cX12_lot 38 = .ok (.bipush 8, 2) := by decide +kernel
theorem dX12_lot_40 : decode cX12_lot 40 = .ok (.invokevirtual 348, 3) := by decide +kernel
theorem dX12_lot_43 : decode cX12_lot 43 = .ok (.ireturn, 1) := by decide +kernel
theorem dX12_lot_44 : decode cX12_lot 44 = .ok (.aload_n 0, 1) := by decide +kernel
theorem dX12_lot_45 : decode cX12_lot 45 = .ok (.invokevirtual 403, 3) := by decide +kernel
theorem dX12_lot_48 : decode cX12_lot 48 = .ok (.ifCond .eq 10, 3) := by decide +kernel
theorem dX12_lot_51 : decode cX12_lot 51 = .ok (.aload_n 0, 1) := by decide +kernel
theorem dX12_lot_52 : decode cX12_lot 52 = .ok (.bipush 9, 2) := by decide +kernel
theorem dX12_lot_54 : decode cX12_lot 54 = .ok (.invokevirtual 348, 3) := by decide +kernel
theorem dX12_lot_57 : decode cX12_lot 57 = .ok (.ireturn, 1) := by decide +kernel
theorem dX12_lot_58 : decode cX12_lot 58 = .ok (.aload_n 0, 1) := by decide +kernel
theorem dX12_lot_59 : decode cX12_lot 59 = .ok (.iload_n 1, 1) := by decide +kernel
theorem dX12_lot_60 : decode cX12_lot 60 = .ok (.putfield 418, 3) := by decide +kernel
theorem dX12_lot_63 : decode cX12_lot 63 = .ok (.aload_n 0, 1) := by decide +kernel
theorem dX12_lot_64 : decode cX12_lot 64 = .ok (.invokevirtual 433, 3) := by decide +kernel
theorem dX12_lot_67 : decode cX12_lot 67 = .ok (.istore_n 2, 1) := by decide +kernel
theorem dX12_lot_68 : decode cX12_lot 68 = .ok (.aload_n 0, 1) := by decide +kernel
theorem dX12_lot_69 : decode cX12_lot 69 = .ok (.iload_n 2, 1) := by decide +kernel
theorem dX12_lot_70 : decode cX12_lot 70 = .ok (.invokevirtual 436, 3) := by decide +kernel
theorem dX12_lot_73 : decode cX12_lot 73 = .ok (.iload_n 2, 1) := by decide +kernel
theorem dX12_lot_74 : decode cX12_lot 74 = .ok (.ireturn, 1) := by decide +kernel
theorem dX12_book_0 : decode cX12_book 0 = .ok (.aload_n 0, 1) := by decide +kernel
theorem dX12_book_1 : decode cX12_book 1 = .ok (.iconst 0, 1) := by decide +kernel
theorem dX12_book_2 : decode cX12_book 2 = .ok (.putfield 90, 3) := by decide +kernel
theorem dX12_book_5 : decode cX12_book 5 = .ok (.aload_n 0, 1) := by decide +kernel
theorem dX12_book_6 : decode cX12_book 6 = .ok (.iconst 0, 1) := by decide +kernel
theorem dX12_book_7 : decode cX12_book 7 = .ok (.putfield 93, 3) := by decide +kernel
theorem dX12_book_10 : decode cX12_book 10 = .ok (.iload_n 2, 1) := by decide +kernel
theorem dX12_book_11 : decode cX12_book 11 = .ok (.i2l, 1) := by decide +kernel
theorem dX12_book_12 : decode cX12_book 12 = .ok (.lconst 0, 1) := by decide +kernel
theorem dX12_book_13 : decode cX12_book 13 = .ok (.ldc2_w 127, 3) := by decide +kernel
theorem dX12_book_16 : decode cX12_book 16 = .ok (.invokestatic 129, 3) := by decide +kernel
theorem dX12_book_19 : decode cX12_book 19 = .ok (.ifCond .ne 9, 3) := by decide +kernel
theorem dX12_book_22 : decode cX12_book 22 = .ok (.aload_n 0, 1) := by decide +kernel
theorem dX12_book_23 : decode cX12_book 23 = .ok (.iconst 5, 1) := by decide +kernel
theorem dX12_book_24 : decode cX12_book 24 = .ok (.invokevirtual 348, 3) := by decide +kernel
theorem dX12_book_27 : decode cX12_book 27 = .ok (.ireturn, 1) := by decide +kernel
theorem dX12_book_28 : decode cX12_book 28 = .ok (.iload_n 1, 1) := by decide +kernel
theorem dX12_book_29 : decode cX12_book 29 = .ok (.i2l, 1) := by decide +kernel
theorem dX12_book_30 : decode cX12_book 30 = .ok (.lconst 0, 1) := by decide +kernel
theorem dX12_book_31 : decode cX12_book 31 = .ok (.aload_n 0, 1) := by decide +kernel
theorem dX12_book_32 : decode cX12_book 32 = .ok (.getfield 35, 3) := by decide +kernel
theorem dX12_book_35 : decode cX12_book 35 = .ok (.bipush 6, 2) := by decide +kernel
theorem dX12_book_37 : decode cX12_book 37 = .ok (.iaload, 1) := by decide +kernel
theorem dX12_book_38 : decode cX12_book 38 = .ok (.iconst 1, 1) := by decide +kernel
theorem dX12_book_39 : decode cX12_book 39 = .ok (.isub, 1) := by decide +kernel
theorem dX12_book_40 : decode cX12_book 40 = .ok (.i2l, 1) := by decide +kernel
theorem dX12_book_41 : decode cX12_book 41 = .ok (.invokestatic 129, 3) := by decide +kernel
theorem dX12_book_44 : decode cX12_book 44 = .ok (.ifCond .eq 20, 3) := by decide +kernel
theorem dX12_book_47 : decode cX12_book 47 = .ok (.aload_n 0, 1) := by decide +kernel
theorem dX12_book_48 : decode cX12_book 48 = .ok (.getfield 35, 3) := by decide +kernel
theorem dX12_book_51 : decode cX12_book 51 = .ok (.sipush 137, 3) := by decide +kernel
theorem dX12_book_54 : decode cX12_book 54 = .ok (.iconst 4, 1) := by decide +kernel
theorem dX12_book_55 : decode cX12_book 55 = .ok (.iload_n 1, 1) := by decide +kernel
theorem dX12_book_56 : decode cX12_book 56 = .ok (.imul, 1) := by decide +kernel
theorem dX12_book_57 : decode cX12_book 57 = .ok (.iadd, 1) := by decide +kernel
theorem dX12_book_58 : decode cX12_book 58 = .ok (.iload_n 2, 1) := by decide +kernel
theorem dX12_book_59 : decode cX12_book 59 = .ok (.iadd, 1) := by decide +kernel
theorem dX12_book_60 : decode cX12_book 60 = .ok (.iaload, 1) := by decide +kernel
theorem dX12_book_61 : decode cX12_book 61 = .ok (.goto 9, 3) := by decide +kernel
theorem dX12_book_64 : decode cX12_book 64 = .ok (.aload_n 0, 1) := by decide +kernel
theorem dX12_book_65 : decode cX12_book 65 = .ok (.bipush 8, 2) := by decide +kernel
theorem dX12_book_67 : decode cX12_book 67 = .ok (.invokevirtual 348, 3) := by decide +kernel
theorem dX12_book_70 : decode cX12_book 70 = .ok (.ireturn, 1) := by decide +kernel
theorem dX12_unseen_0 : decode cX12_unseen 0 = .ok (.aload_n 0, 1) := by decide +kernel
theorem dX12_unseen_1 : decode cX12_unseen 1 = .ok (.iconst 0, 1) := by decide +kernel
theorem dX12_unseen_2 : decode cX12_unseen 2 = .ok (.putfield 90, 3) := by decide +kernel
theorem dX12_unseen_5 : decode cX12_unseen 5 = .ok (.aload_n 0, 1) := by decide +kernel
theorem dX12_unseen_6 : decode cX12_unseen 6 = .ok (.iconst 0, 1) := by decide +kernel
theorem dX12_unseen_7 : decode cX12_unseen 7 = .ok (.putfield 93, 3) := by decide +kernel
theorem dX12_unseen_10 : decode cX12_unseen 10 = .ok (.iconst 1, 1) := by decide +kernel
theorem dX12_unseen_11 : decode cX12_unseen 11 = .ok (.aload_n 0, 1) := by decide +kernel
theorem dX12_unseen_12 : decode cX12_unseen 12 = .ok (.getfield 35, 3) := by decide +kernel
theorem dX12_unseen_15 : decode cX12_unseen 15 = .ok (.iconst 2, 1) := by decide +kernel
theorem dX12_unseen_16 : decode cX12_unseen 16 = .ok (.iaload, 1) := by decide +kernel
theorem dX12_unseen_17 : decode cX12_unseen 17 = .ok (.ishl, 1) := by decide +kernel
theorem dX12_unseen_18 : decode cX12_unseen 18 = .ok (.iconst 1, 1) := by decide +kernel
theorem dX12_unseen_19 : decode cX12_unseen 19 = .ok (.isub, 1) := by decide +kernel
theorem dX12_unseen_20 : decode cX12_unseen 20 = .ok (.istore_n 1, 1) := by decide +kernel
theorem dX12_unseen_21 : decode cX12_unseen 21 = .ok (.iconst 0, 1) := by decide +kernel
theorem dX12_unseen_22 : decode cX12_unseen 22 = .ok (.istore_n 2, 1) := by decide +kernel
theorem dX12_unseen_23 : decode cX12_unseen 23 = .ok (.iload_n 2, 1) := by decide +kernel
theorem dX12_unseen_24 : decode cX12_unseen 24 = .ok (.aload_n 0, 1) := by decide +kernel
theorem dX12_unseen_25 : decode cX12_unseen 25 = .ok (.getfield 35, 3) := by decide +kernel
theorem dX12_unseen_28 : decode cX12_unseen 28 = .ok (.bipush 6, 2) := by decide +kernel
theorem dX12_unseen_30 : decode cX12_unseen 30 = .ok (.iaload, 1) := by decide +kernel
theorem dX12_unseen_31 : decode cX12_unseen 31 = .ok (.if_icmp .ge 26, 3) := by decide +kernel
theorem dX12_unseen_34 : decode cX12_unseen 34 = .ok (.iload_n 1, 1) := by decide +kernel
theorem dX12_unseen_35 : decode cX12_unseen 35 = .ok (.aload_n 0, 1) := by decide +kernel
theorem dX12_unseen_36 : decode cX12_unseen 36 = .ok (.getfield 35, 3) := by decide +kernel
theorem dX12_unseen_39 : decode cX12_unseen 39 = .ok (.sipush 137, 3) := by decide +kernel
theorem dX12_unseen_42 : decode cX12_unseen 42 = .ok (.iconst 4, 1) := by decide +kernel
theorem dX12_unseen_43 : decode cX12_unseen 43 = .ok (.iload_n 2, 1) := by decide +kernel
theorem dX12_unseen_44 : decode cX12_unseen 44 = .ok (.imul, 1) := by decide +kernel
theorem dX12_unseen_45 : decode cX12_unseen 45 = .ok (.iadd, 1) := by decide +kernel
theorem dX12_unseen_46 : decode cX12_unseen 46 = .ok (.iaload, 1) := by decide +kernel
theorem dX12_unseen_47 : decode cX12_unseen 47 = .ok (.iconst (-1), 1) := by decide +kernel
theorem dX12_unseen_48 : decode cX12_unseen 48 = .ok (.ixor, 1) := by decide +kernel
theorem dX12_unseen_49 : decode cX12_unseen 49 = .ok (.iand, 1) := by decide +kernel
theorem dX12_unseen_50 : decode cX12_unseen 50 = .ok (.istore_n 1, 1) := by decide +kernel
theorem dX12_unseen_51 : decode cX12_unseen 51 = .ok (.iinc 2 1, 3) := by decide +kernel
theorem dX12_unseen_54 : decode cX12_unseen 54 = .ok (.goto (-31), 3) := by decide +kernel
theorem dX12_unseen_57 : decode cX12_unseen 57 = .ok (.iload_n 1, 1) := by decide +kernel
theorem dX12_unseen_58 : decode cX12_unseen 58 = .ok (.ireturn, 1) := by decide +kernel
theorem dX12_sceneOf_0 : decode cX12_sceneOf 0 = .ok (.iload_n 1, 1) := by decide +kernel
theorem dX12_sceneOf_1 : decode cX12_sceneOf 1 = .ok (.istore_n 2, 1) := by decide +kernel
theorem dX12_sceneOf_2 : decode cX12_sceneOf 2 = .ok (.iconst 0, 1) := by decide +kernel
theorem dX12_sceneOf_3 : decode cX12_sceneOf 3 = .ok (.istore_n 3, 1) := by decide +kernel
theorem dX12_sceneOf_4 : decode cX12_sceneOf 4 = .ok (.iload_n 2, 1) := by decide +kernel
theorem dX12_sceneOf_5 : decode cX12_sceneOf 5 = .ok (.aload_n 0, 1) := by decide +kernel
theorem dX12_sceneOf_6 : decode cX12_sceneOf 6 = .ok (.getfield 35, 3) := by decide +kernel
theorem dX12_sceneOf_9 : decode cX12_sceneOf 9 = .ok (.bipush 25, 2) := by decide +kernel
theorem dX12_sceneOf_11 : decode cX12_sceneOf 11 = .ok (.iload_n 3, 1) := by decide +kernel
theorem dX12_sceneOf_12 : decode cX12_sceneOf 12 = .ok (.iadd, 1) := by decide +kernel
theorem dX12_sceneOf_13 : decode cX12_sceneOf 13 = .ok (.iaload, 1) := by decide +kernel
theorem dX12_sceneOf_14 : decode cX12_sceneOf 14 = .ok (.if_icmp .lt 21, 3) := by decide +kernel
theorem dX12_sceneOf_17 : decode cX12_sceneOf 17 = .ok (.iload_n 2, 1) := by decide +kernel
theorem dX12_sceneOf_18 : decode cX12_sceneOf 18 = .ok (.aload_n 0, 1) := by decide +kernel
theorem dX12_sceneOf_19 : decode cX12_sceneOf 19 = .ok (.getfield 35, 3) := by decide +kernel
theorem dX12_sceneOf_22 : decode cX12_sceneOf 22 = .ok (.bipush 25, 2) := by decide +kernel
theorem dX12_sceneOf_24 : decode cX12_sceneOf 24 = .ok (.iload_n 3, 1) := by decide +kernel
theorem dX12_sceneOf_25 : decode cX12_sceneOf 25 = .ok (.iadd, 1) := by decide +kernel
theorem dX12_sceneOf_26 : decode cX12_sceneOf 26 = .ok (.iaload, 1) := by decide +kernel
theorem dX12_sceneOf_27 : decode cX12_sceneOf 27 = .ok (.isub, 1) := by decide +kernel
theorem dX12_sceneOf_28 : decode cX12_sceneOf 28 = .ok (.istore_n 2, 1) := by decide +kernel
theorem dX12_sceneOf_29 : decode cX12_sceneOf 29 = .ok (.iinc 3 1, 3) := by decide +kernel
theorem dX12_sceneOf_32 : decode cX12_sceneOf 32 = .ok (.goto (-28), 3) := by decide +kernel
theorem dX12_sceneOf_35 : decode cX12_sceneOf 35 = .ok (.iload_n 3, 1) := by decide +kernel
theorem dX12_sceneOf_36 : decode cX12_sceneOf 36 = .ok (.ireturn, 1) := by decide +kernel
theorem dX12_led_0 : decode cX12_led 0 = .ok (.aload_n 0, 1) := by decide +kernel
theorem dX12_led_1 : decode cX12_led 1 = .ok (.iconst 0, 1) := by decide +kernel
theorem dX12_led_2 : decode cX12_led 2 = .ok (.putfield 90, 3) := by decide +kernel
theorem dX12_led_5 : decode cX12_led 5 = .ok (.aload_n 0, 1) := by decide +kernel
theorem dX12_led_6 : decode cX12_led 6 = .ok (.iconst 0, 1) := by decide +kernel
theorem dX12_led_7 : decode cX12_led 7 = .ok (.putfield 93, 3) := by decide +kernel
theorem dX12_led_10 : decode cX12_led 10 = .ok (.iload_n 1, 1) := by decide +kernel
theorem dX12_led_11 : decode cX12_led 11 = .ok (.i2l, 1) := by decide +kernel
theorem dX12_led_12 : decode cX12_led 12 = .ok (.lconst 0, 1) := by decide +kernel
theorem dX12_led_13 : decode cX12_led 13 = .ok (.aload_n 0, 1) := by decide +kernel
theorem dX12_led_14 : decode cX12_led 14 = .ok (.invokevirtual 345, 3) := by decide +kernel
theorem dX12_led_17 : decode cX12_led 17 = .ok (.iconst 1, 1) := by decide +kernel
theorem dX12_led_18 : decode cX12_led 18 = .ok (.isub, 1) := by decide +kernel
theorem dX12_led_19 : decode cX12_led 19 = .ok (.i2l, 1) := by decide +kernel
theorem dX12_led_20 : decode cX12_led 20 = .ok (.invokestatic 129, 3) := by decide +kernel
theorem dX12_led_23 : decode cX12_led 23 = .ok (.ifCond .eq 11, 3) := by decide +kernel
theorem dX12_led_26 : decode cX12_led 26 = .ok (.aload_n 0, 1) := by decide +kernel
theorem dX12_led_27 : decode cX12_led 27 = .ok (.iload_n 1, 1) := by decide +kernel
theorem dX12_led_28 : decode cX12_led 28 = .ok (.invokevirtual 439, 3) := by decide +kernel
theorem dX12_led_31 : decode cX12_led 31 = .ok (.goto 8, 3) := by decide +kernel
theorem dX12_led_34 : decode cX12_led 34 = .ok (.aload_n 0, 1) := by decide +kernel
theorem dX12_led_35 : decode cX12_led 35 = .ok (.iconst 5, 1) := by decide +kernel
theorem dX12_led_36 : decode cX12_led 36 = .ok (.invokevirtual 348, 3) := by decide +kernel
theorem dX12_led_39 : decode cX12_led 39 = .ok (.ireturn, 1) := by decide +kernel
theorem dX12_heard_0 : decode cX12_heard 0 = .ok (.aload_n 0, 1) := by decide +kernel
theorem dX12_heard_1 : decode cX12_heard 1 = .ok (.iconst 0, 1) := by decide +kernel
theorem dX12_heard_2 : decode cX12_heard 2 = .ok (.putfield 90, 3) := by decide +kernel
theorem dX12_heard_5 : decode cX12_heard 5 = .ok (.aload_n 0, 1) := by decide +kernel
theorem dX12_heard_6 : decode cX12_heard 6 = .ok (.iconst 0, 1) := by decide +kernel
theorem dX12_heard_7 : decode cX12_heard 7 = .ok (.putfield 93, 3) := by decide +kernel
theorem dX12_heard_10 : decode cX12_heard 10 = .ok (.iload_n 1, 1) := by decide +kernel
theorem dX12_heard_11 : decode cX12_heard 11 = .ok (.i2l, 1) := by decide +kernel
theorem dX12_heard_12 : decode cX12_heard 12 = .ok (.lconst 0, 1) := by decide +kernel
theorem dX12_heard_13 : decode cX12_heard 13 = .ok (.aload_n 0, 1) := by decide +kernel
theorem dX12_heard_14 : decode cX12_heard 14 = .ok (.invokevirtual 345, 3) := by decide +kernel
theorem dX12_heard_17 : decode cX12_heard 17 = .ok (.iconst 1, 1) := by decide +kernel
theorem dX12_heard_18 : decode cX12_heard 18 = .ok (.isub, 1) := by decide +kernel
theorem dX12_heard_19 : decode cX12_heard 19 = .ok (.i2l, 1) := by decide +kernel
theorem dX12_heard_20 : decode cX12_heard 20 = .ok (.invokestatic 129, 3) := by decide +kernel
theorem dX12_heard_23 : decode cX12_heard 23 = .ok (.ifCond .ne 9, 3) := by decide +kernel
theorem dX12_heard_26 : decode cX12_heard 26 = .ok (.aload_n 0, 1) := by decide +kernel
theorem dX12_heard_27 : decode cX12_heard 27 = .ok (.iconst 5, 1) := by decide +kernel
theorem dX12_heard_28 : decode cX12_heard 28 = .ok (.invokevirtual 348, 3) := by decide +kernel
theorem dX12_heard_31 : decode cX12_heard 31 = .ok (.ireturn, 1) := by decide +kernel
theorem dX12_heard_32 : decode cX12_heard 32 = .ok (.aload_n 0, 1) := by decide +kernel
theorem dX12_heard_33 : decode cX12_heard 33 = .ok (.iload_n 1, 1) := by decide +kernel
theorem dX12_heard_34 : decode cX12_heard 34 = .ok (.invokevirtual 439, 3) := by decide +kernel
theorem dX12_heard_37 : decode cX12_heard 37 = .ok (.istore_n 2, 1) := by decide +kernel
theorem dX12_heard_38 : decode cX12_heard 38 = .ok (.iconst 0, 1) := by decide +kernel
theorem dX12_heard_39 : decode cX12_heard 39 = .ok (.istore_n 3, 1) := by decide +kernel
theorem dX12_heard_40 : decode cX12_heard 40 = .ok (.iconst 0, 1) := by decide +kernel
theorem dX12_heard_41 : decode cX12_heard 41 = .ok (.istore 4, 2) := by decide +kernel
theorem dX12_heard_43 : decode cX12_heard 43 = .ok (.iload 4, 2) := by decide +kernel
theorem dX12_heard_45 : decode cX12_heard 45 = .ok (.aload_n 0, 1) := by decide +kernel
theorem dX12_heard_46 : decode cX12_heard 46 = .ok (.getfield 35, 3) := by decide +kernel
theorem dX12_heard_49 : decode cX12_heard 49 = .ok (.bipush 6, 2) := by decide +kernel
theorem dX12_heard_51 : decode cX12_heard 51 = .ok (.iaload, 1) := by decide +kernel
theorem dX12_heard_52 : decode cX12_heard 52 = .ok (.if_icmp .ge 37, 3) := by decide +kernel
theorem dX12_heard_55 : decode cX12_heard 55 = .ok (.iload_n 3, 1) := by decide +kernel
theorem dX12_heard_56 : decode cX12_heard 56 = .ok (.aload_n 0, 1) := by decide +kernel
theorem dX12_heard_57 : decode cX12_heard 57 = .ok (.getfield 35, 3) := by decide +kernel
theorem dX12_heard_60 : decode cX12_heard 60 = .ok (.sipush 137, 3) := by decide +kernel
theorem dX12_heard_63 : decode cX12_heard 63 = .ok (.iconst 4, 1) := by decide +kernel
theorem dX12_heard_64 : decode cX12_heard 64 = .ok (.iload 4, 2) := by decide +kernel
theorem dX12_heard_66 : decode cX12_heard 66 = .ok (.imul, 1) := by decide +kernel
theorem dX12_heard_67 : decode cX12_heard 67 = .ok (.iadd, 1) := by decide +kernel
theorem dX12_heard_68 : decode cX12_heard 68 = .ok (.iaload, 1) := by decide +kernel
theorem dX12_heard_69 : decode cX12_heard 69 = .ok (.iload_n 2, 1) := by decide +kernel
theorem dX12_heard_70 : decode cX12_heard 70 = .ok (.invokestatic 373, 3) := by decide +kernel
theorem dX12_heard_73 : decode cX12_heard 73 = .ok (.ifCond .eq 7, 3) := by decide +kernel
theorem dX12_heard_76 : decode cX12_heard 76 = .ok (.iconst 1, 1) := by decide +kernel
theorem dX12_heard_77 : decode cX12_heard 77 = .ok (.goto 4, 3) := by decide +kernel
theorem dX12_heard_80 : decode cX12_heard 80 = .ok (.iconst 0, 1) := by decide +kernel
theorem dX12_heard_81 : decode cX12_heard 81 = .ok (.iadd, 1) := by decide +kernel
theorem dX12_heard_82 : decode cX12_heard 82 = .ok (.istore_n 3, 1) := by decide +kernel
theorem dX12_heard_83 : decode cX12_heard 83 = .ok (.iinc 4 1, 3) := by decide +kernel
theorem dX12_heard_86 : decode cX12_heard 86 = .ok (.goto (-43), 3) := by decide +kernel
theorem dX12_heard_89 : decode cX12_heard 89 = .ok (.iload_n 3, 1) := by decide +kernel
theorem dX12_heard_90 : decode cX12_heard 90 = .ok (.ireturn, 1) := by decide +kernel
theorem dX12_suspects_0 : decode cX12_suspects 0 = .ok (.aload_n 0, 1) := by decide +kernel
theorem dX12_suspects_1 : decode cX12_suspects 1 = .ok (.iconst 0, 1) := by decide +kernel
theorem dX12_suspects_2 : decode cX12_suspects 2 = .ok (.putfield 90, 3) := by decide +kernel
theorem dX12_suspects_5 : decode cX12_suspects 5 = .ok (.aload_n 0, 1) := by decide +kernel
theorem dX12_suspects_6 : decode cX12_suspects 6 = .ok (.iconst 0, 1) := by decide +kernel
theorem dX12_suspects_7 : decode cX12_suspects 7 = .ok (.putfield 93, 3) := by decide +kernel
theorem dX12_suspects_10 : decode cX12_suspects 10 = .ok (.iload_n 1, 1) := by decide +kernel
theorem dX12_suspects_11 : decode cX12_suspects 11 = .ok (.i2l, 1) := by decide +kernel
theorem dX12_suspects_12 : decode cX12_suspects 12 = .ok (.lconst 0, 1) := by decide +kernel
theorem dX12_suspects_13 : decode cX12_suspects 13 = .ok (.ldc2_w 442, 3) := by decide +kernel
theorem dX12_suspects_16 : decode cX12_suspects 16 = .ok (.invokestatic 129, 3) := by decide +kernel
theorem dX12_suspects_19 : decode cX12_suspects 19 = .ok (.ifCond .ne 9, 3) := by decide +kernel
theorem dX12_suspects_22 : decode cX12_suspects 22 = .ok (.aload_n 0, 1) := by decide +kernel
theorem dX12_suspects_23 : decode cX12_suspects 23 = .ok (.iconst 5, 1) := by decide +kernel
theorem dX12_suspects_24 : decode cX12_suspects 24 = .ok (.invokevirtual 348, 3) := by decide +kernel
theorem dX12_suspects_27 : decode cX12_suspects 27 = .ok (.ireturn, 1) := by decide +kernel
theorem dX12_suspects_28 : decode cX12_suspects 28 = .ok (.iconst 1, 1) := by decide +kernel
theorem dX12_suspects_29 : decode cX12_suspects 29 = .ok (.aload_n 0, 1) := by decide +kernel
theorem dX12_suspects_30 : decode cX12_suspects 30 = .ok (.getfield 35, 3) := by decide +kernel
theorem dX12_suspects_33 : decode cX12_suspects 33 = .ok (.iconst 0, 1) := by decide +kernel
theorem dX12_suspects_34 : decode cX12_suspects 34 = .ok (.iaload, 1) := by decide +kernel
theorem dX12_suspects_35 : decode cX12_suspects 35 = .ok (.ishl, 1) := by decide +kernel
theorem dX12_suspects_36 : decode cX12_suspects 36 = .ok (.iconst 1, 1) := by decide +kernel
theorem dX12_suspects_37 : decode cX12_suspects 37 = .ok (.isub, 1) := by decide +kernel
theorem dX12_suspects_38 : decode cX12_suspects 38 = .ok (.istore_n 2, 1) := by decide +kernel
theorem dX12_suspects_39 : decode cX12_suspects 39 = .ok (.iconst 0, 1) := by decide +kernel
theorem dX12_suspects_40 : decode cX12_suspects 40 = .ok (.istore_n 3, 1) := by decide +kernel
theorem dX12_suspects_41 : decode cX12_suspects 41 = .ok (.iconst 0, 1) := by decide +kernel
theorem dX12_suspects_42 : decode cX12_suspects 42 = .ok (.istore 4, 2) := by decide +kernel
theorem dX12_suspects_44 : decode cX12_suspects 44 = .ok (.iload 4, 2) := by decide +kernel
theorem dX12_suspects_46 : decode cX12_suspects 46 = .ok (.aload_n 0, 1) := by decide +kernel
theorem dX12_suspects_47 : decode cX12_suspects 47 = .ok (.getfield 35, 3) := by decide +kernel
theorem dX12_suspects_50 : decode cX12_suspects 50 = .ok (.bipush 6, 2) := by decide +kernel
theorem dX12_suspects_52 : decode cX12_suspects 52 = .ok (.iaload, 1) := by decide +kernel
theorem dX12_suspects_53 : decode cX12_suspects 53 = .ok (.if_icmp .ge 87, 3) := by decide +kernel
theorem dX12_suspects_56 : decode cX12_suspects 56 = .ok (.aload_n 0, 1) := by decide +kernel
theorem dX12_suspects_57 : decode cX12_suspects 57 = .ok (.getfield 35, 3) := by decide +kernel
theorem dX12_suspects_60 : decode cX12_suspects 60 = .ok (.sipush 137, 3) := by decide +kernel
theorem dX12_suspects_63 : decode cX12_suspects 63 = .ok (.iconst 4, 1) := by decide +kernel
theorem dX12_suspects_64 : decode cX12_suspects 64 = .ok (.iload 4, 2) := by decide +kernel
theorem dX12_suspects_66 : decode cX12_suspects 66 = .ok (.imul, 1) := by decide +kernel
theorem dX12_suspects_67 : decode cX12_suspects 67 = .ok (.iadd, 1) := by decide +kernel
theorem dX12_suspects_68 : decode cX12_suspects 68 = .ok (.iconst 1, 1) := by decide +kernel
theorem dX12_suspects_69 : decode cX12_suspects 69 = .ok (.iadd, 1) := by decide +kernel
theorem dX12_suspects_70 : decode cX12_suspects 70 = .ok (.iaload, 1) := by decide +kernel
theorem dX12_suspects_71 : decode cX12_suspects 71 = .ok (.iload_n 1, 1) := by decide +kernel
theorem dX12_suspects_72 : decode cX12_suspects 72 = .ok (.if_icmp .eq 6, 3) := by decide +kernel
theorem dX12_suspects_75 : decode cX12_suspects 75 = .ok (.goto 59, 3) := by decide +kernel
theorem dX12_suspects_78 : decode cX12_suspects 78 = .ok (.iconst 1, 1) := by decide +kernel
theorem dX12_suspects_79 : decode cX12_suspects 79 = .ok (.istore_n 3, 1) := by decide +kernel
theorem dX12_suspects_80 : decode cX12_suspects 80 = .ok (.iconst 0, 1) := by decide +kernel
theorem dX12_suspects_81 : decode cX12_suspects 81 = .ok (.istore 5, 2) := by decide +kernel
theorem dX12_suspects_83 : decode cX12_suspects 83 = .ok (.iload 5, 2) := by decide +kernel
theorem dX12_suspects_85 : decode cX12_suspects 85 = .ok (.aload_n 0, 1) := by decide +kernel
theorem dX12_suspects_86 : decode cX12_suspects 86 = .ok (.getfield 35, 3) := by decide +kernel
theorem dX12_suspects_89 : decode cX12_suspects 89 = .ok (.iconst 2, 1) := by decide +kernel
theorem dX12_suspects_90 : decode cX12_suspects 90 = .ok (.iaload, 1) := by decide +kernel
theorem dX12_suspects_91 : decode cX12_suspects 91 = .ok (.if_icmp .ge 43, 3) := by decide +kernel
theorem dX12_suspects_94 : decode cX12_suspects 94 = .ok (.aload_n 0, 1) := by decide +kernel
theorem dX12_suspects_95 : decode cX12_suspects 95 = .ok (.getfield 35, 3) := by decide +kernel
theorem dX12_suspects_98 : decode cX12_suspects 98 = .ok (.sipush 137, 3) := by decide +kernel
theorem dX12_suspects_101 : decode cX12_suspects 101 = .ok (.iconst 4, 1) := by decide +kernel
theorem dX12_suspects_102 : decode cX12_suspects 102 = .ok (.iload 4, 2) := by decide +kernel
theorem dX12_suspects_104 : decode cX12_suspects 104 = .ok (.imul, 1) := by decide +kernel
theorem dX12_suspects_105 : decode cX12_suspects 105 = .ok (.iadd, 1) := by decide +kernel
theorem dX12_suspects_106 : decode cX12_suspects 106 = .ok (.iaload, 1) := by decide +kernel
theorem dX12_suspects_107 : decode cX12_suspects 107 = .ok (.iload 5, 2) := by decide +kernel
theorem dX12_suspects_109 : decode cX12_suspects 109 = .ok (.invokestatic 373, 3) := by decide +kernel
theorem dX12_suspects_112 : decode cX12_suspects 112 = .ok (.ifCond .eq 16, 3) := by decide +kernel
theorem dX12_suspects_115 : decode cX12_suspects 115 = .ok (.iload_n 2, 1) := by decide +kernel
theorem dX12_suspects_116 : decode cX12_suspects 116 = .ok (.aload_n 0, 1) := by decide +kernel
theorem dX12_suspects_117 : decode cX12_suspects 117 = .ok (.getfield 35, 3) := by decide +kernel
theorem dX12_suspects_120 : decode cX12_suspects 120 = .ok (.bipush 37, 2) := by decide +kernel
theorem dX12_suspects_122 : decode cX12_suspects 122 = .ok (.iload 5, 2) := by decide +kernel
theorem dX12_suspects_124 : decode cX12_suspects 124 = .ok (.iadd, 1) := by decide +kernel
theorem dX12_suspects_125 : decode cX12_suspects 125 = .ok (.iaload, 1) := by decide +kernel
theorem dX12_suspects_126 : decode cX12_suspects 126 = .ok (.iand, 1) := by decide +kernel
theorem dX12_suspects_127 : decode cX12_suspects 127 = .ok (.istore_n 2, 1) := by decide +kernel
theorem dX12_suspects_128 : decode cX12_suspects 128 = .ok (.iinc 5 1, 3) := by decide +kernel
theorem dX12_suspects_131 : decode cX12_suspects 131 = .ok (.goto (-48), 3) := by decide +kernel
theorem dX12_suspects_134 : decode cX12_suspects 134 = .ok (.iinc 4 1, 3) := by decide +kernel
theorem dX12_suspects_137 : decode cX12_suspects 137 = .ok (.goto (-93), 3) := by decide +kernel
theorem dX12_suspects_140 : decode cX12_suspects 140 = .ok (.iload_n 3, 1) := by decide +kernel
theorem dX12_suspects_141 : decode cX12_suspects 141 = .ok (.ifCond .eq 7, 3) := by decide +kernel
theorem dX12_suspects_144 : decode cX12_suspects 144 = .ok (.iload_n 2, 1) := by decide +kernel
theorem dX12_suspects_145 : decode cX12_suspects 145 = .ok (.goto 9, 3) := by decide +kernel
theorem dX12_suspects_148 : decode cX12_suspects 148 = .ok (.aload_n 0, 1) := by decide +kernel
theorem dX12_suspects_149 : decode cX12_suspects 149 = .ok (.bipush 8, 2) := by decide +kernel
theorem dX12_suspects_151 : decode cX12_suspects 151 = .ok (.invokevirtual 348, 3) := by decide +kernel
theorem dX12_suspects_154 : decode cX12_suspects 154 = .ok (.ireturn, 1) := by decide +kernel
theorem dX12_noRows_0 : decode cX12_noRows 0 = .ok (.iconst 0, 1) := by decide +kernel
theorem dX12_noRows_1 : decode cX12_noRows 1 = .ok (.istore_n 1, 1) := by decide +kernel
theorem dX12_noRows_2 : decode cX12_noRows 2 = .ok (.iload_n 1, 1) := by decide +kernel
theorem dX12_noRows_3 : decode cX12_noRows 3 = .ok (.bipush 10, 2) := by decide +kernel
theorem dX12_noRows_5 : decode cX12_noRows 5 = .ok (.if_icmp .ge 16, 3) := by decide +kernel
theorem dX12_noRows_8 : decode cX12_noRows 8 = .ok (.aload_n 0, 1) := by decide +kernel
theorem dX12_noRows_9 : decode cX12_noRows 9 = .ok (.getfield 44, 3) := by decide +kernel
theorem dX12_noRows_12 : decode cX12_noRows 12 = .ok (.iload_n 1, 1) := by decide +kernel
theorem dX12_noRows_13 : decode cX12_noRows 13 = .ok (.lconst 0, 1) := by decide +kernel
theorem dX12_noRows_14 : decode cX12_noRows 14 = .ok (.lastore, 1) := by decide +kernel
theorem dX12_noRows_15 : decode cX12_noRows 15 = .ok (.iinc 1 1, 3) := by decide +kernel
theorem dX12_noRows_18 : decode cX12_noRows 18 = .ok (.goto (-16), 3) := by decide +kernel
theorem dX12_noRows_21 : decode cX12_noRows 21 = .ok (.iconst 0, 1) := by decide +kernel
theorem dX12_noRows_22 : decode cX12_noRows 22 = .ok (.istore_n 1, 1) := by decide +kernel
theorem dX12_noRows_23 : decode cX12_noRows 23 = .ok (.iload_n 1, 1) := by decide +kernel
theorem dX12_noRows_24 : decode cX12_noRows 24 = .ok (.bipush 12, 2) := by decide +kernel
theorem dX12_noRows_26 : decode cX12_noRows 26 = .ok (.if_icmp .ge 23, 3) := by decide +kernel
theorem dX12_noRows_29 : decode cX12_noRows 29 = .ok (.aload_n 0, 1) := by decide +kernel
theorem dX12_noRows_30 : decode cX12_noRows 30 = .ok (.getfield 47, 3) := by decide +kernel
theorem dX12_noRows_33 : decode cX12_noRows 33 = .ok (.iload_n 1, 1) := by decide +kernel
theorem dX12_noRows_34 : decode cX12_noRows 34 = .ok (.lconst 0, 1) := by decide +kernel
theorem dX12_noRows_35 : decode cX12_noRows 35 = .ok (.lastore, 1) := by decide +kernel
theorem dX12_noRows_36 : decode cX12_noRows 36 = .ok (.aload_n 0, 1) := by decide +kernel
theorem dX12_noRows_37 : decode cX12_noRows 37 = .ok (.getfield 50, 3) := by decide +kernel
theorem dX12_noRows_40 : decode cX12_noRows 40 = .ok (.iload_n 1, 1) := by decide +kernel
theorem dX12_noRows_41 : decode cX12_noRows 41 = .ok (.iconst 0, 1) := by decide +kernel
theorem dX12_noRows_42 : decode cX12_noRows 42 = .ok (.iastore, 1) := by decide +kernel
theorem dX12_noRows_43 : decode cX12_noRows 43 = .ok (.iinc 1 1, 3) := by decide +kernel
theorem dX12_noRows_46 : decode cX12_noRows 46 = .ok (.goto (-23), 3) := by decide +kernel
theorem dX12_noRows_49 : decode cX12_noRows 49 = .ok (.iconst 0, 1) := by decide +kernel
theorem dX12_noRows_50 : decode cX12_noRows 50 = .ok (.istore_n 1, 1) := by decide +kernel
theorem dX12_noRows_51 : decode cX12_noRows 51 = .ok (.iload_n 1, 1) := by decide +kernel
theorem dX12_noRows_52 : decode cX12_noRows 52 = .ok (.sipush 4096, 3) := by decide +kernel
theorem dX12_noRows_55 : decode cX12_noRows 55 = .ok (.if_icmp .ge 16, 3) := by decide +kernel
theorem dX12_noRows_58 : decode cX12_noRows 58 = .ok (.aload_n 0, 1) := by decide +kernel
theorem dX12_noRows_59 : decode cX12_noRows 59 = .ok (.getfield 53, 3) := by decide +kernel
theorem dX12_noRows_62 : decode cX12_noRows 62 = .ok (.iload_n 1, 1) := by decide +kernel
theorem dX12_noRows_63 : decode cX12_noRows 63 = .ok (.iconst 0, 1) := by decide +kernel
theorem dX12_noRows_64 : decode cX12_noRows 64 = .ok (.bastore, 1) := by decide +kernel
theorem dX12_noRows_65 : decode cX12_noRows 65 = .ok (.iinc 1 1, 3) := by decide +kernel
theorem dX12_noRows_68 : decode cX12_noRows 68 = .ok (.goto (-17), 3) := by decide +kernel
theorem dX12_noRows_71 : decode cX12_noRows 71 = .ok (.aload_n 0, 1) := by decide +kernel
theorem dX12_noRows_72 : decode cX12_noRows 72 = .ok (.lconst 0, 1) := by decide +kernel
theorem dX12_noRows_73 : decode cX12_noRows 73 = .ok (.putfield 444, 3) := by decide +kernel
theorem dX12_noRows_76 : decode cX12_noRows 76 = .ok (.aload_n 0, 1) := by decide +kernel
theorem dX12_noRows_77 : decode cX12_noRows 77 = .ok (.iconst 0, 1) := by decide +kernel
theorem dX12_noRows_78 : decode cX12_noRows 78 = .ok (.putfield 447, 3) := by decide +kernel
theorem dX12_noRows_81 : decode cX12_noRows 81 = .ok (.aload_n 0, 1) := by decide +kernel
theorem dX12_noRows_82 : decode cX12_noRows 82 = .ok (.iconst 0, 1) := by decide +kernel
theorem dX12_noRows_83 : decode cX12_noRows 83 = .ok (.putfield 450, 3) := by decide +kernel
theorem dX12_noRows_86 : decode cX12_noRows 86 = .ok (.aload_n 0, 1) := by decide +kernel
theorem dX12_noRows_87 : decode cX12_noRows 87 = .ok (.bipush 12, 2) := by decide +kernel
theorem dX12_noRows_89 : decode cX12_noRows 89 = .ok (.putfield 453, 3) := by decide +kernel
theorem dX12_noRows_92 : decode cX12_noRows 92 = .ok (.aload_n 0, 1) := by decide +kernel
theorem dX12_noRows_93 : decode cX12_noRows 93 = .ok (.iconst 0, 1) := by decide +kernel
theorem dX12_noRows_94 : decode cX12_noRows 94 = .ok (.putfield 456, 3) := by decide +kernel
theorem dX12_noRows_97 : decode cX12_noRows 97 = .ok (.aload_n 0, 1) := by decide +kernel
theorem dX12_noRows_98 : decode cX12_noRows 98 = .ok (.iconst 0, 1) := by decide +kernel
theorem dX12_noRows_99 : decode cX12_noRows 99 = .ok (.putfield 459, 3) := by decide +kernel
theorem dX12_noRows_102 : decode cX12_noRows 102 = .ok (.return_, 1) := by decide +kernel
theorem dX12_ending_0 : decode cX12_ending 0 = .ok (.aload_n 0, 1) := by decide +kernel
theorem dX12_ending_1 : decode cX12_ending 1 = .ok (.getfield 35, 3) := by decide +kernel
theorem dX12_ending_4 : decode cX12_ending 4 = .ok (.bipush 49, 2) := by decide +kernel
theorem dX12_ending_6 : decode cX12_ending 6 = .ok (.iload_n 1, 1) := by decide +kernel
theorem dX12_ending_7 : decode cX12_ending 7 = .ok (.iadd, 1) := by decide +kernel
theorem dX12_ending_8 : decode cX12_ending 8 = .ok (.iaload, 1) := by decide +kernel
theorem dX12_ending_9 : decode cX12_ending 9 = .ok (.ifCond .ge 8, 3) := by decide +kernel
theorem dX12_ending_12 : decode cX12_ending 12 = .ok (.bipush 9, 2) := by decide +kernel
theorem dX12_ending_14 : decode cX12_ending 14 = .ok (.goto 12, 3) := by decide +kernel
theorem dX12_ending_17 : decode cX12_ending 17 = .ok (.aload_n 0, 1) := by decide +kernel
theorem dX12_ending_18 : decode cX12_ending 18 = .ok (.getfield 35, 3) := by decide +kernel
theorem dX12_ending_21 : decode cX12_ending 21 = .ok (.bipush 49, 2) := by decide +kernel
theorem dX12_ending_23 : decode cX12_ending 23 = .ok (.iload_n 1, 1) := by decide +kernel
theorem dX12_ending_24 : decode cX12_ending 24 = .ok (.iadd, 1) := by decide +kernel
theorem dX12_ending_25 : decode cX12_ending 25 = .ok (.iaload, 1) := by decide +kernel
theorem dX12_ending_26 : decode cX12_ending 26 = .ok (.ireturn, 1) := by decide +kernel
theorem dX12_curtain_0 : decode cX12_curtain 0 = .ok (.aload_n 0, 1) := by decide +kernel
theorem dX12_curtain_1 : decode cX12_curtain 1 = .ok (.dup, 1) := by decide +kernel
theorem dX12_curtain_2 : decode cX12_curtain 2 = .ok (.getfield 447, 3) := by decide +kernel
theorem dX12_curtain_5 : decode cX12_curtain 5 = .ok (.iconst 1, 1) := by decide +kernel
theorem dX12_curtain_6 : decode cX12_curtain 6 = .ok (.iadd, 1) := by decide +kernel
theorem dX12_curtain_7 : decode cX12_curtain 7 = .ok (.putfield 447, 3) := by decide +kernel
theorem dX12_curtain_10 : decode cX12_curtain 10 = .ok (.aload_n 0, 1) := by decide +kernel
theorem dX12_curtain_11 : decode cX12_curtain 11 = .ok (.aload_n 0, 1) := by decide +kernel
theorem dX12_curtain_12 : decode cX12_curtain 12 = .ok (.getfield 450, 3) := by decide +kernel
theorem dX12_curtain_15 : decode cX12_curtain 15 = .ok (.iload_n 2, 1) := by decide +kernel
theorem dX12_curtain_16 : decode cX12_curtain 16 = .ok (.invokestatic 342, 3) := by decide +kernel
theorem dX12_curtain_19 : decode cX12_curtain 19 = .ok (.invokestatic 462, 3) := by decide +kernel
theorem dX12_curtain_22 : decode cX12_curtain 22 = .ok (.putfield 450, 3) := by decide +kernel
theorem dX12_curtain_25 : decode cX12_curtain 25 = .ok (.aload_n 0, 1) := by decide +kernel
theorem dX12_curtain_26 : decode cX12_curtain 26 = .ok (.aload_n 0, 1) := by decide +kernel
theorem dX12_curtain_27 : decode cX12_curtain 27 = .ok (.getfield 453, 3) := by decide +kernel
theorem dX12_curtain_30 : decode cX12_curtain 30 = .ok (.iload_n 2, 1) := by decide +kernel
theorem dX12_curtain_31 : decode cX12_curtain 31 = .ok (.invokestatic 342, 3) := by decide +kernel
theorem dX12_curtain_34 : decode cX12_curtain 34 = .ok (.invokestatic 391, 3) := by decide +kernel
theorem dX12_curtain_37 : decode cX12_curtain 37 = .ok (.putfield 453, 3) := by decide +kernel
theorem dX12_curtain_40 : decode cX12_curtain 40 = .ok (.aload_n 0, 1) := by decide +kernel
theorem dX12_curtain_41 : decode cX12_curtain 41 = .ok (.dup, 1) := by decide +kernel
theorem dX12_curtain_42 : decode cX12_curtain 42 = .ok (.getfield 456, 3) := by decide +kernel
theorem dX12_curtain_45 : decode cX12_curtain 45 = .ok (.iload_n 2, 1) := by decide +kernel
theorem dX12_curtain_46 : decode cX12_curtain 46 = .ok (.ior, 1) := by decide +kernel
theorem dX12_curtain_47 : decode cX12_curtain 47 = .ok (.putfield 456, 3) := by decide +kernel
theorem dX12_curtain_50 : decode cX12_curtain 50 = .ok (.aload_n 0, 1) := by decide +kernel
theorem dX12_curtain_51 : decode cX12_curtain 51 = .ok (.dup, 1) := by decide +kernel
theorem dX12_curtain_52 : decode cX12_curtain 52 = .ok (.getfield 459, 3) := by decide +kernel
theorem dX12_curtain_55 : decode cX12_curtain 55 = .ok (.iconst 1, 1) := by decide +kernel
theorem dX12_curtain_56 : decode cX12_curtain 56 = .ok (.aload_n 0, 1) := by decide +kernel
theorem dX12_curtain_57 : decode cX12_curtain 57 = .ok (.iload_n 1, 1) := by decide +kernel
theorem dX12_curtain_58 : decode cX12_curtain 58 = .ok (.invokevirtual 465, 3) := by decide +kernel
theorem dX12_curtain_61 : decode cX12_curtain 61 = .ok (.ishl, 1) := by decide +kernel
theorem dX12_curtain_62 : decode cX12_curtain 62 = .ok (.ior, 1) := by decide +kernel
theorem dX12_curtain_63 : decode cX12_curtain 63 = .ok (.putfield 459, 3) := by decide +kernel
theorem dX12_curtain_66 : decode cX12_curtain 66 = .ok (.aload_n 0, 1) := by decide +kernel
theorem dX12_curtain_67 : decode cX12_curtain 67 = .ok (.getfield 53, 3) := by decide +kernel
theorem dX12_curtain_70 : decode cX12_curtain 70 = .ok (.iload_n 2, 1) := by decide +kernel
theorem dX12_curtain_71 : decode cX12_curtain 71 = .ok (.iconst 1, 1) := by decide +kernel
theorem dX12_curtain_72 : decode cX12_curtain 72 = .ok (.bastore, 1) := by decide +kernel
theorem dX12_curtain_73 : decode cX12_curtain 73 = .ok (.aload_n 0, 1) := by decide +kernel
theorem dX12_curtain_74 : decode cX12_curtain 74 = .ok (.getfield 44, 3) := by decide +kernel
theorem dX12_curtain_77 : decode cX12_curtain 77 = .ok (.aload_n 0, 1) := by decide +kernel
theorem dX12_curtain_78 : decode cX12_curtain 78 = .ok (.iload_n 1, 1) := by decide +kernel
theorem dX12_curtain_79 : decode cX12_curtain 79 = .ok (.invokevirtual 465, 3) := by decide +kernel
theorem dX12_curtain_82 : decode cX12_curtain 82 = .ok (.dup2, 1) := by decide +kernel
theorem dX12_curtain_83 : decode cX12_curtain 83 = .ok (.laload, 1) := by decide +kernel
theorem dX12_curtain_84 : decode cX12_curtain 84 = .ok (.lload_n 3, 1) := by decide +kernel
theorem dX12_curtain_85 : decode cX12_curtain 85 = .ok (.ladd, 1) := by decide +kernel
theorem dX12_curtain_86 : decode cX12_curtain 86 = .ok (.lastore, 1) := by decide +kernel
theorem dX12_curtain_87 : decode cX12_curtain 87 = .ok (.iconst 0, 1) := by decide +kernel
theorem dX12_curtain_88 : decode cX12_curtain 88 = .ok (.istore 5, 2) := by decide +kernel
theorem dX12_curtain_90 : decode cX12_curtain 90 = .ok (.iload 5, 2) := by decide +kernel
theorem dX12_curtain_92 : decode cX12_curtain 92 = .ok (.aload_n 0, 1) := by decide +kernel
theorem dX12_curtain_93 : decode cX12_curtain 93 = .ok (.getfield 35, 3) := by decide +kernel
theorem dX12_curtain_96 : decode cX12_curtain 96 = .ok (.iconst 2, 1) := by decide +kernel
theorem dX12_curtain_97 : decode cX12_curtain 97 = .ok (.iaload, 1) := by decide +kernel
theorem dX12_curtain_98 : decode cX12_curtain 98 = .ok (.if_icmp .ge 67, 3) := by decide +kernel
theorem dX12_curtain_101 : decode cX12_curtain 101 = .ok (.iload_n 2, 1) := by decide +kernel
theorem dX12_curtain_102 : decode cX12_curtain 102 = .ok (.iload 5, 2) := by decide +kernel
theorem dX12_curtain_104 : decode cX12_curtain 104 = .ok (.invokestatic 373, 3) := by decide +kernel
theorem dX12_curtain_107 : decode cX12_curtain 107 = .ok (.ifCond .ne 6, 3) := by decide +kernel
theorem dX12_curtain_110 : decode cX12_curtain 110 = .ok (.goto 49, 3) := by decide +kernel
theorem dX12_curtain_113 : decode cX12_curtain 113 = .ok (.aload_n 0, 1) := by decide +kernel
theorem dX12_curtain_114 : decode cX12_curtain 114 = .ok (.getfield 50, 3) := by decide +kernel
theorem dX12_curtain_117 : decode cX12_curtain 117 = .ok (.iload 5, 2) := by decide +kernel
theorem dX12_curtain_119 : decode cX12_curtain 119 = .ok (.dup2, 1) := by decide +kernel
theorem dX12_curtain_120 : decode cX12_curtain 120 = .ok (.iaload, 1) := by decide +kernel
theorem dX12_curtain_121 : decode cX12_curtain 121 = .ok (.iconst 1, 1) := by decide +kernel
theorem dX12_curtain_122 : decode cX12_curtain 122 = .ok (.aload_n 0, 1) := by decide +kernel
theorem dX12_curtain_123 : decode cX12_curtain 123 = .ok (.iload_n 1, 1) := by decide +kernel
theorem dX12_curtain_124 : decode cX12_curtain 124 = .ok (.invokevirtual 465, 3) := by decide +kernel
theorem dX12_curtain_127 : decode cX12_curtain 127 = .ok (.ishl, 1) := by decide +kernel
theorem dX12_curtain_128 : decode cX12_curtain 128 = .ok (.ior, 1) := by decide +kernel
theorem dX12_curtain_129 : decode cX12_curtain 129 = .ok (.iastore, 1) := by decide +kernel
theorem dX12_curtain_130 : decode cX12_curtain 130 = .ok (.aload_n 0, 1) := by decide +kernel
theorem dX12_curtain_131 : decode cX12_curtain 131 = .ok (.getfield 47, 3) := by decide +kernel
theorem dX12_curtain_134 : decode cX12_curtain 134 = .ok (.iload 5, 2) := by decide +kernel
theorem dX12_curtain_136 : decode cX12_curtain 136 = .ok (.dup2, 1) := by decide +kernel
theorem dX12_curtain_137 : decode cX12_curtain 137 = .ok (.laload, 1) := by decide +kernel
theorem dX12_curtain_138 : decode cX12_curtain 138 = .ok (.lload_n 3, 1) := by decide +kernel
theorem dX12_curtain_139 : decode cX12_curtain 139 = .ok (.ladd, 1) := by decide +kernel
theorem dX12_curtain_140 : decode cX12_curtain 140 = .ok (.lastore, 1) := by decide +kernel
theorem dX12_curtain_141 : decode cX12_curtain 141 = .ok (.aload_n 0, 1) := by decide +kernel
theorem dX12_curtain_142 : decode cX12_curtain 142 = .ok (.dup, 1) := by decide +kernel
theorem dX12_curtain_143 : decode cX12_curtain 143 = .ok (.getfield 444, 3) := by decide +kernel
theorem dX12_curtain_146 : decode cX12_curtain 146 = .ok (.lload_n 3, 1) := by decide +kernel
theorem dX12_curtain_147 : decode cX12_curtain 147 = .ok (.aload_n 0, 1) := by decide +kernel
theorem dX12_curtain_148 : decode cX12_curtain 148 = .ok (.iload 5, 2) := by decide +kernel
theorem dX12_curtain_150 : decode cX12_curtain 150 = .ok (.invokevirtual 357, 3) := by decide +kernel
theorem dX12_curtain_153 : decode cX12_curtain 153 = .ok (.i2l, 1) := by decide +kernel
theorem dX12_curtain_154 : decode cX12_curtain 154 = .ok (.lmul, 1) := by decide +kernel
theorem dX12_curtain_155 : decode cX12_curtain 155 = .ok (.ladd, 1) := by decide +kernel
theorem dX12_curtain_156 : decode cX12_curtain 156 = .ok (.putfield 444, 3) := by decide +kernel
theorem dX12_curtain_159 : decode cX12_curtain 159 = .ok (.iinc 5 1, 3) := by decide +kernel
theorem dX12_curtain_162 : decode cX12_curtain 162 = .ok (.goto (-72), 3) := by decide +kernel
theorem dX12_curtain_165 : decode cX12_curtain 165 = .ok (.return_, 1) := by decide +kernel
theorem dX12_sixteenths_0 : decode cX12_sixteenths 0 = .ok (.iload_n 1, 1) := by decide +kernel
theorem dX12_sixteenths_1 : decode cX12_sixteenths 1 = .ok (.ifCond .ge 5, 3) := by decide +kernel
theorem dX12_sixteenths_4 : decode cX12_sixteenths 4 = .ok (.iconst 4, 1) := by decide +kernel
theorem dX12_sixteenths_5 : decode cX12_sixteenths 5 = .ok (.ireturn, 1) := by decide +kernel
theorem dX12_sixteenths_6 : decode cX12_sixteenths 6 = .ok (.bipush 16, 2) := by decide +kernel
theorem dX12_sixteenths_8 : decode cX12_sixteenths 8 = .ok (.aload_n 0, 1) := by decide +kernel
theorem dX12_sixteenths_9 : decode cX12_sixteenths 9 = .ok (.getfield 35, 3) := by decide +kernel
theorem dX12_sixteenths_12 : decode cX12_sixteenths 12 = .ok (.bipush 125, 2) := by decide +kernel
theorem dX12_sixteenths_14 : decode cX12_sixteenths 14 = .ok (.iload_n 1, 1) := by decide +kernel
theorem dX12_sixteenths_15 : decode cX12_sixteenths 15 = .ok (.iadd, 1) := by decide +kernel
theorem dX12_sixteenths_16 : decode cX12_sixteenths 16 = .ok (.iaload, 1) := by decide +kernel
theorem dX12_sixteenths_17 : decode cX12_sixteenths 17 = .ok (.isub, 1) := by decide +kernel
theorem dX12_sixteenths_18 : decode cX12_sixteenths 18 = .ok (.aload_n 0, 1) := by decide +kernel
theorem dX12_sixteenths_19 : decode cX12_sixteenths 19 = .ok (.getfield 35, 3) := by decide +kernel
theorem dX12_sixteenths_22 : decode cX12_sixteenths 22 = .ok (.sipush 129, 3) := by decide +kernel
theorem dX12_sixteenths_25 : decode cX12_sixteenths 25 = .ok (.iload_n 1, 1) := by decide +kernel
theorem dX12_sixteenths_26 : decode cX12_sixteenths 26 = .ok (.iadd, 1) := by decide +kernel
theorem dX12_sixteenths_27 : decode cX12_sixteenths 27 = .ok (.iaload, 1) := by decide +kernel
theorem dX12_sixteenths_28 : decode cX12_sixteenths 28 = .ok (.isub, 1) := by decide +kernel
theorem dX12_sixteenths_29 : decode cX12_sixteenths 29 = .ok (.aload_n 0, 1) := by decide +kernel
theorem dX12_sixteenths_30 : decode cX12_sixteenths 30 = .ok (.getfield 35, 3) := by decide +kernel
theorem dX12_sixteenths_33 : decode cX12_sixteenths 33 = .ok (.sipush 133, 3) := by decide +kernel
theorem dX12_sixteenths_36 : decode cX12_sixteenths 36 = .ok (.iload_n 1, 1) := by decide +kernel
theorem dX12_sixteenths_37 : decode cX12_sixteenths 37 = .ok (.iadd, 1) := by decide +kernel
theorem dX12_sixteenths_38 : decode cX12_sixteenths 38 = .ok (.iaload, 1) := by decide +kernel
theorem dX12_sixteenths_39 : decode cX12_sixteenths 39 = .ok (.isub, 1) := by decide +kernel
theorem dX12_sixteenths_40 : decode cX12_sixteenths 40 = .ok (.istore_n 3, 1) := by decide +kernel
theorem dX12_sixteenths_41 : decode cX12_sixteenths 41 = .ok (.iload_n 2, 1) := by decide +kernel
theorem dX12_sixteenths_42 : decode cX12_sixteenths 42 = .ok (.ifCond .ne 7, 3) := by decide +kernel
theorem dX12_sixteenths_45 : decode cX12_sixteenths 45 = .ok (.iload_n 3, 1) := by decide +kernel
theorem dX12_sixteenths_46 : decode cX12_sixteenths 46 = .ok (.goto 48, 3) := by decide +kernel
theorem dX12_sixteenths_49 : decode cX12_sixteenths 49 = .ok (.iload_n 2, 1) := by decide +kernel
theorem dX12_sixteenths_50 : decode cX12_sixteenths 50 = .ok (.iconst 1, 1) := by decide +kernel
theorem dX12_sixteenths_51 : decode cX12_sixteenths 51 = .ok (.if_icmp .ne 15, 3) := by decide +kernel
theorem dX12_sixteenths_54 : decode cX12_sixteenths 54 = .ok (.aload_n 0, 1) := by decide +kernel
theorem dX12_sixteenths_55 : decode cX12_sixteenths 55 = .ok (.getfield 35, 3) := by decide +kernel
theorem dX12_sixteenths_58 : decode cX12_sixteenths 58 = .ok (.bipush 125, 2) := by decide +kernel
theorem dX12_sixteenths_60 : decode cX12_sixteenths 60 = .ok (.iload_n 1, 1) := by decide +kernel
theorem dX12_sixteenths_61 : decode cX12_sixteenths 61 = .ok (.iadd, 1) := by decide +kernel
theorem dX12_sixteenths_62 : decode cX12_sixteenths 62 = .ok (.iaload, 1) := by decide +kernel
theorem dX12_sixteenths_63 : decode cX12_sixteenths 63 = .ok (.goto 31, 3) := by decide +kernel
theorem dX12_sixteenths_66 : decode cX12_sixteenths 66 = .ok (.iload_n 2, 1) := by decide +kernel
theorem dX12_sixteenths_67 : decode cX12_sixteenths 67 = .ok (.iconst 2, 1) := by decide +kernel
theorem dX12_sixteenths_68 : decode cX12_sixteenths 68 = .ok (.if_icmp .ne 16, 3) := by decide +kernel
theorem dX12_sixteenths_71 : decode cX12_sixteenths 71 = .ok (.aload_n 0, 1) := by decide +kernel
theorem dX12_sixteenths_72 : decode cX12_sixteenths 72 = .ok (.getfield 35, 3) := by decide +kernel
theorem dX12_sixteenths_75 : decode cX12_sixteenths 75 = .ok (.sipush 129, 3) := by decide +kernel
theorem dX12_sixteenths_78 : decode cX12_sixteenths 78 = .ok (.iload_n 1, 1) := by decide +kernel
theorem dX12_sixteenths_79 : decode cX12_sixteenths 79 = .ok (.iadd, 1) := by decide +kernel
theorem dX12_sixteenths_80 : decode cX12_sixteenths 80 = .ok (.iaload, 1) := by decide +kernel
theorem dX12_sixteenths_81 : decode cX12_sixteenths 81 = .ok (.goto 13, 3) := by decide +kernel
theorem dX12_sixteenths_84 : decode cX12_sixteenths 84 = .ok (.aload_n 0, 1) := by decide +kernel
theorem dX12_sixteenths_85 : decode cX12_sixteenths 85 = .ok (.getfield 35, 3) := by decide +kernel
theorem dX12_sixteenths_88 : decode cX12_sixteenths 88 = .ok (.sipush 133, 3) := by decide +kernel
theorem dX12_sixteenths_91 : decode cX12_sixteenths 91 = .ok (.iload_n 1, 1) := by decide +kernel
theorem dX12_sixteenths_92 : decode cX12_sixteenths 92 = .ok (.iadd, 1) := by decide +kernel
theorem dX12_sixteenths_93 : decode cX12_sixteenths 93 = .ok (.iaload, 1) := by decide +kernel
theorem dX12_sixteenths_94 : decode cX12_sixteenths 94 = .ok (.ireturn, 1) := by decide +kernel
theorem dX12_goThrough_0 : decode cX12_goThrough 0 = .ok (.iload_n 3, 1) := by decide +kernel
theorem dX12_goThrough_1 : decode cX12_goThrough 1 = .ok (.iconst 1, 1) := by decide +kernel
theorem dX12_goThrough_2 : decode cX12_goThrough 2 = .ok (.iload_n 1, 1) := by decide +kernel
theorem dX12_goThrough_3 : decode cX12_goThrough 3 = .ok (.ishl, 1) := by decide +kernel
theorem dX12_goThrough_4 : decode cX12_goThrough 4 = .ok (.ior, 1) := by decide +kernel
theorem dX12_goThrough_5 : decode cX12_goThrough 5 = .ok (.istore 7, 2) := by decide +kernel
theorem dX12_goThrough_7 : decode cX12_goThrough 7 = .ok (.iconst 0, 1) := by decide +kernel
theorem dX12_goThrough_8 : decode cX12_goThrough 8 = .ok (.istore 8, 2) := by decide +kernel
theorem dX12_goThrough_10 : decode cX12_goThrough 10 = .ok (.iconst 0, 1) := by decide +kernel
theorem dX12_goThrough_11 : decode cX12_goThrough 11 = .ok (.istore 9, 2) := by decide +kernel
theorem dX12_goThrough_13 : decode cX12_goThrough 13 = .ok (.iload 9, 2) := by decide +kernel
theorem dX12_goThrough_15 : decode cX12_goThrough 15 = .ok (.iconst 4, 1) := by decide +kernel
theorem dX12_goThrough_16 : decode cX12_goThrough 16 = .ok (.if_icmp .ge 30, 3) := by decide +kernel
theorem dX12_goThrough_19 : decode cX12_goThrough 19 = .ok (.iload 8, 2) := by decide +kernel
theorem dX12_goThrough_21 : decode cX12_goThrough 21 = .ok (.aload_n 0, 1) := by decide +kernel
theorem dX12_goThrough_22 : decode cX12_goThrough 22 = .ok (.iload_n 1, 1) := by decide +kernel
theorem dX12_goThrough_23 : decode cX12_goThrough 23 = .ok (.iload 9, 2) := by decide +kernel
theorem dX12_goThrough_25 : decode cX12_goThrough 25 = .ok (.iload_n 2, 1) := by decide +kernel
theorem dX12_goThrough_26 : decode cX12_goThrough 26 = .ok (.invokevirtual 412, 3) := by decide +kernel
theorem dX12_goThrough_29 : decode cX12_goThrough 29 = .ok (.ifCond .ge 7, 3) := by decide +kernel
theorem dX12_goThrough_32 : decode cX12_goThrough 32 = .ok (.iconst 1, 1) := by decide +kernel
theorem dX12_goThrough_33 : decode cX12_goThrough 33 = .ok (.goto 4, 3) := by decide +kernel
theorem dX12_goThrough_36 : decode cX12_goThrough 36 = .ok (.iconst 0, 1) := by decide +kernel
theorem dX12_goThrough_37 : decode cX12_goThrough 37 = .ok (.iadd, 1) := by decide +kernel
theorem dX12_goThrough_38 : decode cX12_goThrough 38 = .ok (.istore 8, 2) := by decide +kernel
theorem dX12_goThrough_40 : decode cX12_goThrough 40 = .ok (.iinc 9 1, 3) := by decide +kernel
theorem dX12_goThrough_43 : decode cX12_goThrough 43 = .ok (.goto (-30), 3) := by decide +kernel
theorem dX12_goThrough_46 : decode cX12_goThrough 46 = .ok (.iload 8, 2) := by decide +kernel
theorem dX12_goThrough_48 : decode cX12_goThrough 48 = .ok (.iconst 4, 1) := by decide +kernel
theorem dX12_goThrough_49 : decode cX12_goThrough 49 = .ok (.if_icmp .ne 13, 3) := by decide +kernel
theorem dX12_goThrough_52 : decode cX12_goThrough 52 = .ok (.aload_n 0, 1) := by decide +kernel
theorem dX12_goThrough_53 : decode cX12_goThrough 53 = .ok (.iload_n 1, 1) := by decide +kernel
theorem dX12_goThrough_54 : decode cX12_goThrough 54 = .ok (.iload 7, 2) := by decide +kernel
theorem dX12_goThrough_56 : decode cX12_goThrough 56 = .ok (.lload 4, 2) := by decide +kernel
theorem dX12_goThrough_58 : decode cX12_goThrough 58 = .ok (.invokevirtual 468, 3) := by decide +kernel
theorem dX12_goThrough_61 : decode cX12_goThrough 61 = .ok (.return_, 1) := by decide +kernel
theorem dX12_goThrough_62 : decode cX12_goThrough 62 = .ok (.iconst 0, 1) := by decide +kernel
theorem dX12_goThrough_63 : decode cX12_goThrough 63 = .ok (.istore 9, 2) := by decide +kernel
theorem dX12_goThrough_65 : decode cX12_goThrough 65 = .ok (.iload 9, 2) := by decide +kernel
theorem dX12_goThrough_67 : decode cX12_goThrough 67 = .ok (.iconst 4, 1) := by decide +kernel
theorem dX12_goThrough_68 : decode cX12_goThrough 68 = .ok (.if_icmp .ge 143, 3) := by decide +kernel
theorem dX12_goThrough_71 : decode cX12_goThrough 71 = .ok (.aload_n 0, 1) := by decide +kernel
theorem dX12_goThrough_72 : decode cX12_goThrough 72 = .ok (.iload_n 1, 1) := by decide +kernel
theorem dX12_goThrough_73 : decode cX12_goThrough 73 = .ok (.iload 9, 2) := by decide +kernel
theorem dX12_goThrough_75 : decode cX12_goThrough 75 = .ok (.iload_n 2, 1) := by decide +kernel
theorem dX12_goThrough_76 : decode cX12_goThrough 76 = .ok (.invokevirtual 412, 3) := by decide +kernel
theorem dX12_goThrough_79 : decode cX12_goThrough 79 = .ok (.istore 10, 2) := by decide +kernel
theorem dX12_goThrough_81 : decode cX12_goThrough 81 = .ok (.iconst 0, 1) := by decide +kernel
theorem dX12_goThrough_82 : decode cX12_goThrough 82 = .ok (.istore 11, 2) := by decide +kernel
theorem dX12_goThrough_84 : decode cX12_goThrough 84 = .ok (.iconst 0, 1) := by decide +kernel
theorem dX12_goThrough_85 : decode cX12_goThrough 85 = .ok (.istore 12, 2) := by decide +kernel
theorem dX12_goThrough_87 : decode cX12_goThrough 87 = .ok (.iconst 0, 1) := by decide +kernel
theorem dX12_goThrough_88 : decode cX12_goThrough 88 = .ok (.istore 13, 2) := by decide +kernel
theorem dX12_goThrough_90 : decode cX12_goThrough 90 = .ok (.iload 13, 2) := by decide +kernel
theorem dX12_goThrough_92 : decode cX12_goThrough 92 = .ok (.iconst 4, 1) := by decide +kernel
theorem dX12_goThrough_93 : decode cX12_goThrough 93 = .ok (.if_icmp .ge 57, 3) := by decide +kernel
theorem dX12_goThrough_96 : decode cX12_goThrough 96 = .ok (.aload_n 0, 1) := by decide +kernel
theorem dX12_goThrough_97 : decode cX12_goThrough 97 = .ok (.iload_n 1, 1) := by decide +kernel
theorem dX12_goThrough_98 : decode cX12_goThrough 98 = .ok (.iload 13, 2) := by decide +kernel
theorem dX12_goThrough_100 : decode cX12_goThrough 100 = .ok (.iload_n 2, 1) := by decide +kernel
theorem dX12_goThrough_101 : decode cX12_goThrough 101 = .ok (.invokevirtual 412, 3) := by decide +kernel
theorem dX12_goThrough_104 : decode cX12_goThrough 104 = .ok (.iload 10, 2) := by decide +kernel
theorem dX12_goThrough_106 : decode cX12_goThrough 106 = .ok (.if_icmp .eq 6, 3) := by decide +kernel
theorem dX12_goThrough_109 : decode cX12_goThrough 109 = .ok (.goto 35, 3) := by decide +kernel
theorem dX12_goThrough_112 : decode cX12_goThrough 112 = .ok (.iload 11, 2) := by decide +kernel
theorem dX12_goThrough_114 : decode cX12_goThrough 114 = .ok (.ifCond .ne 10, 3) := by decide +kernel
theorem dX12_goThrough_117 : decode cX12_goThrough 117 = .ok (.iload 13, 2) := by decide +kernel
theorem dX12_goThrough_119 : decode cX12_goThrough 119 = .ok (.iload 9, 2) := by decide +kernel
theorem dX12_goThrough_121 : decode cX12_goThrough 121 = .ok (.if_icmp .ge 7, 3) := by decide +kernel
theorem dX12_goThrough_124 : decode cX12_goThrough 124 = .ok (.iconst 1, 1) := by decide +kernel
theorem dX12_goThrough_125 : decode cX12_goThrough 125 = .ok (.goto 4, 3) := by decide +kernel
theorem dX12_goThrough_128 : decode cX12_goThrough 128 = .ok (.iconst 0, 1) := by decide +kernel
theorem dX12_goThrough_129 : decode cX12_goThrough 129 = .ok (.istore 11, 2) := by decide +kernel
theorem dX12_goThrough_131 : decode cX12_goThrough 131 = .ok (.iload 12, 2) := by decide +kernel
theorem dX12_goThrough_133 : decode cX12_goThrough 133 = .ok (.aload_n 0, 1) := by decide +kernel
theorem dX12_goThrough_134 : decode cX12_goThrough 134 = .ok (.iload 6, 2) := by decide +kernel
theorem dX12_goThrough_136 : decode cX12_goThrough 136 = .ok (.iload 13, 2) := by decide +kernel
theorem dX12_goThrough_138 : decode cX12_goThrough 138 = .ok (.invokevirtual 472, 3) := by decide +kernel
theorem dX12_goThrough_141 : decode cX12_goThrough 141 = .ok (.iadd, 1) := by decide +kernel
theorem dX12_goThrough_142 : decode cX12_goThrough 142 = .ok (.istore 12, 2) := by decide +kernel
theorem dX12_goThrough_144 : decode cX12_goThrough 144 = .ok (.iinc 13 1, 3) := by decide +kernel
theorem dX12_goThrough_147 : decode cX12_goThrough 147 = .ok (.goto (-57), 3) := by decide +kernel
theorem dX12_goThrough_150 : decode cX12_goThrough 150 = .ok (.iload 11, 2) := by decide +kernel
theorem dX12_goThrough_152 : decode cX12_goThrough 152 = .ok (.ifCond .eq 6, 3) := by decide +kernel
theorem dX12_goThrough_155 : decode cX12_goThrough 155 = .ok (.goto 50, 3) := by decide +kernel
theorem dX12_goThrough_158 : decode cX12_goThrough 158 = .ok (.lload 4, 2) := by decide +kernel
theorem dX12_goThrough_160 : decode cX12_goThrough 160 = .ok (.ldc2_w 475, 3) := by decide +kernel
theorem dX12_goThrough_163 : decode cX12_goThrough 163 = .ok (.ldiv, 1) := by decide +kernel
theorem dX12_goThrough_164 : decode cX12_goThrough 164 = .ok (.iload 12, 2) := by decide +kernel
theorem dX12_goThrough_166 : decode cX12_goThrough 166 = .ok (.i2l, 1) := by decide +kernel
theorem dX12_goThrough_167 : decode cX12_goThrough 167 = .ok (.lmul, 1) := by decide +kernel
theorem dX12_goThrough_168 : decode cX12_goThrough 168 = .ok (.lstore 13, 2) := by decide +kernel
theorem dX12_goThrough_170 : decode cX12_goThrough 170 = .ok (.iload 10, 2) := by decide +kernel
theorem dX12_goThrough_172 : decode cX12_goThrough 172 = .ok (.ifCond .ge 15, 3) := by decide +kernel
theorem dX12_goThrough_175 : decode cX12_goThrough 175 = .ok (.aload_n 0, 1) := by decide +kernel
theorem dX12_goThrough_176 : decode cX12_goThrough 176 = .ok (.iload_n 1, 1) := by decide +kernel
theorem dX12_goThrough_177 : decode cX12_goThrough 177 = .ok (.iload 7, 2) := by decide +kernel
theorem dX12_goThrough_179 : decode cX12_goThrough 179 = .ok (.lload 13, 2) := by decide +kernel
theorem dX12_goThrough_181 : decode cX12_goThrough 181 = .ok (.invokevirtual 468, 3) := by decide +kernel
theorem dX12_goThrough_184 : decode cX12_goThrough 184 = .ok (.goto 21, 3) := by decide +kernel
theorem dX12_goThrough_187 : decode cX12_goThrough 187 = .ok (.aload_n 0, 1) := by decide +kernel
theorem dX12_goThrough_188 : decode cX12_goThrough 188 = .ok (.iload 10, 2) := by decide +kernel
theorem dX12_goThrough_190 : decode cX12_goThrough 190 = .ok (.aload_n 0, 1) := by decide +kernel
theorem dX12_goThrough_191 : decode cX12_goThrough 191 = .ok (.iload_n 1, 1) := by decide +kernel
theorem dX12_goThrough_192 : decode cX12_goThrough 192 = .ok (.iload_n 2, 1) := by decide +kernel
theorem dX12_goThrough_193 : decode cX12_goThrough 193 = .ok (.invokevirtual 379, 3) := by decide +kernel
theorem dX12_goThrough_196 : decode cX12_goThrough 196 = .ok (.iload 7, 2) := by decide +kernel
theorem dX12_goThrough_198 : decode cX12_goThrough 198 = .ok (.lload 13, 2) := by decide +kernel
theorem dX12_goThrough_200 : decode cX12_goThrough 200 = .ok (.iload 6, 2) := by decide +kernel
theorem dX12_goThrough_202 : decode cX12_goThrough 202 = .ok (.invokevirtual 477, 3) := by decide +kernel
theorem dX12_goThrough_205 : decode cX12_goThrough 205 = .ok (.iinc 9 1, 3) := by decide +kernel
theorem dX12_goThrough_208 : decode cX12_goThrough 208 = .ok (.goto (-143), 3) := by decide +kernel
theorem dX12_goThrough_211 : decode cX12_goThrough 211 = .ok (.return_, 1) := by decide +kernel
theorem dX12_goAll_0 : decode cX12_goAll 0 = .ok (.aload_n 0, 1) := by decide +kernel
theorem dX12_goAll_1 : decode cX12_goAll 1 = .ok (.invokevirtual 481, 3) := by decide +kernel
theorem dX12_goAll_4 : decode cX12_goAll 4 = .ok (.aload_n 0, 1) := by decide +kernel
theorem dX12_goAll_5 : decode cX12_goAll 5 = .ok (.invokevirtual 403, 3) := by decide +kernel
theorem dX12_goAll_8 : decode cX12_goAll 8 = .ok (.ifCond .ne 21, 3) := by decide +kernel
theorem dX12_goAll_11 : decode cX12_goAll 11 = .ok (.aload_n 0, 1) := by decide +kernel
theorem dX12_goAll_12 : decode cX12_goAll 12 = .ok (.aload_n 0, 1) := by decide +kernel
theorem dX12_goAll_13 : decode cX12_goAll 13 = .ok (.getfield 35, 3) := by decide +kernel
theorem dX12_goAll_16 : decode cX12_goAll 16 = .ok (.iconst 2, 1) := by decide +kernel
theorem dX12_goAll_17 : decode cX12_goAll 17 = .ok (.iaload, 1) := by decide +kernel
theorem dX12_goAll_18 : decode cX12_goAll 18 = .ok (.iconst 1, 1) := by decide +kernel
theorem dX12_goAll_19 : decode cX12_goAll 19 = .ok (.isub, 1) := by decide +kernel
theorem dX12_goAll_20 : decode cX12_goAll 20 = .ok (.iconst 0, 1) := by decide +kernel
theorem dX12_goAll_21 : decode cX12_goAll 21 = .ok (.iconst 0, 1) := by decide +kernel
theorem dX12_goAll_22 : decode cX12_goAll 22 = .ok (.ldc2_w 484, 3) := by decide +kernel
theorem dX12_goAll_25 : decode cX12_goAll 25 = .ok (.iload_n 1, 1) := by decide +kernel
theorem dX12_goAll_26 : decode cX12_goAll 26 = .ok (.invokevirtual 477, 3) := by decide +kernel
theorem dX12_goAll_29 : decode cX12_goAll 29 = .ok (.return_, 1) := by decide +kernel
theorem dX12_sums_0 : decode cX12_sums 0 = .ok (.iconst 0, 1) := by decide +kernel
theorem dX12_sums_1 : decode cX12_sums 1 = .ok (.istore_n 2, 1) := by decide +kernel
theorem dX12_sums_2 : decode cX12_sums 2 = .ok (.iload_n 2, 1) := by decide +kernel
theorem dX12_sums_3 : decode cX12_sums 3 = .ok (.bipush 10, 2) := by decide +kernel
theorem dX12_sums_5 : decode cX12_sums 5 = .ok (.if_icmp .ge 16, 3) := by decide +kernel
theorem dX12_sums_8 : decode cX12_sums 8 = .ok (.aload_n 0, 1) := by decide +kernel
theorem dX12_sums_9 : decode cX12_sums 9 = .ok (.getfield 57, 3) := by decide +kernel
theorem dX12_sums_12 : decode cX12_sums 12 = .ok (.iload_n 2, 1) := by decide +kernel
theorem dX12_sums_13 : decode cX12_sums 13 = .ok (.lconst 0, 1) := by decide +kernel
theorem dX12_sums_14 : decode cX12_sums 14 = .ok (.lastore, 1) := by decide +kernel
theorem dX12_sums_15 : decode cX12_sums 15 = .ok (.iinc 2 1, 3) := by decide +kernel
theorem dX12_sums_18 : decode cX12_sums 18 = .ok (.goto (-16), 3) := by decide +kernel
theorem dX12_sums_21 : decode cX12_sums 21 = .ok (.iconst 0, 1) := by decide +kernel
theorem dX12_sums_22 : decode cX12_sums 22 = .ok (.istore_n 2, 1) := by decide +kernel
theorem dX12_sums_23 : decode cX12_sums 23 = .ok (.iload_n 2, 1) := by decide +kernel
theorem dX12_sums_24 : decode cX12_sums 24 = .ok (.bipush 12, 2) := by decide +kernel
theorem dX12_sums_26 : decode cX12_sums 26 = .ok (.if_icmp .ge 16, 3) := by decide +kernel
theorem dX12_sums_29 : decode cX12_sums 29 = .ok (.aload_n 0, 1) := by decide +kernel
theorem dX12_sums_30 : decode cX12_sums 30 = .ok (.getfield 60, 3) := by decide +kernel
theorem dX12_sums_33 : decode cX12_sums 33 = .ok (.iload_n 2, 1) := by decide +kernel
theorem dX12_sums_34 : decode cX12_sums 34 = .ok (.lconst 0, 1) := by decide +kernel
theorem dX12_sums_35 : decode cX12_sums 35 = .ok (.lastore, 1) := by decide +kernel
theorem dX12_sums_36 : decode cX12_sums 36 = .ok (.iinc 2 1, 3) := by decide +kernel
theorem dX12_sums_39 : decode cX12_sums 39 = .ok (.goto (-16), 3) := by decide +kernel
theorem dX12_sums_42 : decode cX12_sums 42 = .ok (.aload_n 0, 1) := by decide +kernel
theorem dX12_sums_43 : decode cX12_sums 43 = .ok (.lconst 0, 1) := by decide +kernel
theorem dX12_sums_44 : decode cX12_sums 44 = .ok (.putfield 486, 3) := by decide +kernel
theorem dX12_sums_47 : decode cX12_sums 47 = .ok (.aload_n 0, 1) := by decide +kernel
theorem dX12_sums_48 : decode cX12_sums 48 = .ok (.lconst 0, 1) := by decide +kernel
theorem dX12_sums_49 : decode cX12_sums 49 = .ok (.putfield 489, 3) := by decide +kernel
theorem dX12_sums_52 : decode cX12_sums 52 = .ok (.iconst 0, 1) := by decide +kernel
theorem dX12_sums_53 : decode cX12_sums 53 = .ok (.istore_n 2, 1) := by decide +kernel
theorem dX12_sums_54 : decode cX12_sums 54 = .ok (.iload_n 2, 1) := by decide +kernel
theorem dX12_sums_55 : decode cX12_sums 55 = .ok (.aload_n 0, 1) := by decide +kernel
theorem dX12_sums_56 : decode cX12_sums 56 = .ok (.getfield 35, 3) := by decide +kernel
theorem dX12_sums_59 : decode cX12_sums 59 = .ok (.iconst 3, 1) := by decide +kernel
theorem dX12_sums_60 : decode cX12_sums 60 = .ok (.iaload, 1) := by decide +kernel
theorem dX12_sums_61 : decode cX12_sums 61 = .ok (.if_icmp .ge 147, 3) := by decide +kernel
theorem dX12_sums_64 : decode cX12_sums 64 = .ok (.iload_n 1, 1) := by decide +kernel
theorem dX12_sums_65 : decode cX12_sums 65 = .ok (.ifCond .lt 11, 3) := by decide +kernel
theorem dX12_sums_68 : decode cX12_sums 68 = .ok (.iload_n 2, 1) := by decide +kernel
theorem dX12_sums_69 : decode cX12_sums 69 = .ok (.iload_n 1, 1) := by decide +kernel
theorem dX12_sums_70 : decode cX12_sums 70 = .ok (.if_icmp .eq 6, 3) := by decide +kernel
theorem dX12_sums_73 : decode cX12_sums 73 = .ok (.goto 129, 3) := by decide +kernel
theorem dX12_sums_76 : decode cX12_sums 76 = .ok (.aload_n 0, 1) := by decide +kernel
theorem dX12_sums_77 : decode cX12_sums 77 = .ok (.iload_n 2, 1) := by decide +kernel
theorem dX12_sums_78 : decode cX12_sums 78 = .ok (.invokevirtual 492, 3) := by decide +kernel
theorem dX12_sums_81 : decode cX12_sums 81 = .ok (.iload_n 1, 1) := by decide +kernel
theorem dX12_sums_82 : decode cX12_sums 82 = .ok (.ifCond .ge 15, 3) := by decide +kernel
theorem dX12_sums_85 : decode cX12_sums 85 = .ok (.aload_n 0, 1) := by decide +kernel
theorem dX12_sums_86 : decode cX12_sums 86 = .ok (.getfield 35, 3) := by decide +kernel
theorem dX12_sums_89 : decode cX12_sums 89 = .ok (.bipush 121, 2) := by decide +kernel
theorem dX12_sums_91 : decode cX12_sums 91 = .ok (.iload_n 2, 1) := by decide +kernel
theorem dX12_sums_92 : decode cX12_sums 92 = .ok (.iadd, 1) := by decide +kernel
theorem dX12_sums_93 : decode cX12_sums 93 = .ok (.iaload, 1) := by decide +kernel
theorem dX12_sums_94 : decode cX12_sums 94 = .ok (.goto 4, 3) := by decide +kernel
theorem dX12_sums_97 : decode cX12_sums 97 = .ok (.iconst 1, 1) := by decide +kernel
theorem dX12_sums_98 : decode cX12_sums 98 = .ok (.istore_n 3, 1) := by decide +kernel
theorem dX12_sums_99 : decode cX12_sums 99 = .ok (.iconst 0, 1) := by decide +kernel
theorem dX12_sums_100 : decode cX12_sums 100 = .ok (.istore 4, 2) := by decide +kernel
theorem dX12_sums_102 : decode cX12_sums 102 = .ok (.iload 4, 2) := by decide +kernel
theorem dX12_sums_104 : decode cX12_sums 104 = .ok (.bipush 10, 2) := by decide +kernel
theorem dX12_sums_106 : decode cX12_sums 106 = .ok (.if_icmp .ge 29, 3) := by decide +kernel
theorem dX12_sums_109 : decode cX12_sums 109 = .ok (.aload_n 0, 1) := by decide +kernel
theorem dX12_sums_110 : decode cX12_sums 110 = .ok (.getfield 57, 3) := by decide +kernel
theorem dX12_sums_113 : decode cX12_sums 113 = .ok (.iload 4, 2) := by decide +kernel
theorem dX12_sums_115 : decode cX12_sums 115 = .ok (.dup2, 1) := by decide +kernel
theorem dX12_sums_116 : decode cX12_sums 116 = .ok (.laload, 1) := by decide +kernel
theorem dX12_sums_117 : decode cX12_sums 117 = .ok (.iload_n 3, 1) := by decide +kernel
theorem dX12_sums_118 : decode cX12_sums 118 = .ok (.i2l, 1) := by decide +kernel
theorem dX12_sums_119 : decode cX12_sums 119 = .ok (.aload_n 0, 1) := by decide +kernel
theorem dX12_sums_120 : decode cX12_sums 120 = .ok (.getfield 44, 3) := by decide +kernel
theorem dX12_sums_123 : decode cX12_sums 123 = .ok (.iload 4, 2) := by decide +kernel
theorem dX12_sums_125 : decode cX12_sums 125 = .ok (.laload, 1) := by decide +kernel
theorem dX12_sums_126 : decode cX12_sums 126 = .ok (.lmul, 1) := by decide +kernel
theorem dX12_sums_127 : decode cX12_sums 127 = .ok (.ladd, 1) := by decide +kernel
theorem dX12_sums_128 : decode cX12_sums 128 = .ok (.lastore, 1) := by decide +kernel
theorem dX12_sums_129 : decode cX12_sums 129 = .ok (.iinc 4 1, 3) := by decide +kernel
theorem dX12_sums_132 : decode cX12_sums 132 = .ok (.goto (-30), 3) := by decide +kernel
theorem dX12_sums_135 : decode cX12_sums 135 = .ok (.iconst 0, 1) := by decide +kernel
theorem dX12_sums_136 : decode cX12_sums 136 = .ok (.istore 4, 2) := by decide +kernel
theorem dX12_sums_138 : decode cX12_sums 138 = .ok (.iload 4, 2) := by decide +kernel
theorem dX12_sums_140 : decode cX12_sums 140 = .ok (.bipush 12, 2) := by decide +kernel
theorem dX12_sums_142 : decode cX12_sums 142 = .ok (.if_icmp .ge 29, 3) := by decide +kernel
theorem dX12_sums_145 : decode cX12_sums 145 = .ok (.aload_n 0, 1) := by decide +kernel
theorem dX12_sums_146 : decode cX12_sums 146 = .ok (.getfield 60, 3) := by decide +kernel
theorem dX12_sums_149 : decode cX12_sums 149 = .ok (.iload 4, 2) := by decide +kernel
theorem dX12_sums_151 : decode cX12_sums 151 = .ok (.dup2, 1) := by decide +kernel
theorem dX12_sums_152 : decode cX12_sums 152 = .ok (.laload, 1) := by decide +kernel
theorem dX12_sums_153 : decode cX12_sums 153 = .ok (.iload_n 3, 1) := by decide +kernel
theorem dX12_sums_154 : decode cX12_sums 154 = .ok (.i2l, 1) := by decide +kernel
theorem dX12_sums_155 : decode cX12_sums 155 = .ok (.aload_n 0, 1) := by decide +kernel
theorem dX12_sums_156 : decode cX12_sums 156 = .ok (.getfield 47, 3) := by decide +kernel
theorem dX12_sums_159 : decode cX12_sums 159 = .ok (.iload 4, 2) := by decide +kernel
theorem dX12_sums_161 : decode cX12_sums 161 = .ok (.laload, 1) := by decide +kernel
theorem dX12_sums_162 : decode cX12_sums 162 = .ok (.lmul, 1) := by decide +kernel
theorem dX12_sums_163 : decode cX12_sums 163 = .ok (.ladd, 1) := by decide +kernel
theorem dX12_sums_164 : decode cX12_sums 164 = .ok (.lastore, 1) := by decide +kernel
theorem dX12_sums_165 : decode cX12_sums 165 = .ok (.iinc 4 1, 3) := by decide +kernel
theorem dX12_sums_168 : decode cX12_sums 168 = .ok (.goto (-30), 3) := by decide +kernel
theorem dX12_sums_171 : decode cX12_sums 171 = .ok (.aload_n 0, 1) := by decide +kernel
theorem dX12_sums_172 : decode cX12_sums 172 = .ok (.dup, 1) := by decide +kernel
theorem dX12_sums_173 : decode cX12_sums 173 = .ok (.getfield 486, 3) := by decide +kernel
theorem dX12_sums_176 : decode cX12_sums 176 = .ok (.iload_n 3, 1) := by decide +kernel
theorem dX12_sums_177 : decode cX12_sums 177 = .ok (.i2l, 1) := by decide +kernel
theorem dX12_sums_178 : decode cX12_sums 178 = .ok (.aload_n 0, 1) := by decide +kernel
theorem dX12_sums_179 : decode cX12_sums 179 = .ok (.getfield 444, 3) := by decide +kernel
theorem dX12_sums_182 : decode cX12_sums 182 = .ok (.lmul, 1) := by decide +kernel
theorem dX12_sums_183 : decode cX12_sums 183 = .ok (.ladd, 1) := by decide +kernel
theorem dX12_sums_184 : decode cX12_sums 184 = .ok (.putfield 486, 3) := by decide +kernel
theorem dX12_sums_187 : decode cX12_sums 187 = .ok (.aload_n 0, 1) := by decide +kernel
theorem dX12_sums_188 : decode cX12_sums 188 = .ok (.dup, 1) := by decide +kernel
theorem dX12_sums_189 : decode cX12_sums 189 = .ok (.getfield 489, 3) := by decide +kernel
theorem dX12_sums_192 : decode cX12_sums 192 = .ok (.iload_n 3, 1) := by decide +kernel
theorem dX12_sums_193 : decode cX12_sums 193 = .ok (.i2l, 1) := by decide +kernel
theorem dX12_sums_194 : decode cX12_sums 194 = .ok (.ldc2_w 484, 3) := by decide +kernel
theorem dX12_sums_197 : decode cX12_sums 197 = .ok (.lmul, 1) := by decide +kernel
theorem dX12_sums_198 : decode cX12_sums 198 = .ok (.ladd, 1) := by decide +kernel
theorem dX12_sums_199 : decode cX12_sums 199 = .ok (.putfield 489, 3) := by decide +kernel
theorem dX12_sums_202 : decode cX12_sums 202 = .ok (.iinc 2 1, 3) := by decide +kernel
theorem dX12_sums_205 : decode cX12_sums 205 = .ok (.goto (-151), 3) := by decide +kernel
theorem dX12_sums_208 : decode cX12_sums 208 = .ok (.return_, 1) := by decide +kernel
theorem dX12_isKindOrLot_0 : decode cX12_isKindOrLot 0 = .ok (.iload_n 1, 1) := by decide +kernel
theorem dX12_isKindOrLot_1 : decode cX12_isKindOrLot 1 = .ok (.iconst (-1), 1) := by decide +kernel
theorem dX12_isKindOrLot_2 : decode cX12_isKindOrLot 2 = .ok (.if_icmp .eq 11, 3) := by decide +kernel
theorem dX12_isKindOrLot_5 : decode cX12_isKindOrLot 5 = .ok (.aload_n 0, 1) := by decide +kernel
theorem dX12_isKindOrLot_6 : decode cX12_isKindOrLot 6 = .ok (.iload_n 1, 1) := by decide +kernel
theorem dX12_isKindOrLot_7 : decode cX12_isKindOrLot 7 = .ok (.invokevirtual 360, 3) := by decide +kernel
theorem dX12_isKindOrLot_10 : decode cX12_isKindOrLot 10 = .ok (.ifCond .eq 7, 3) := by decide +kernel
theorem dX12_isKindOrLot_13 : decode cX12_isKindOrLot 13 = .ok (.iconst 1, 1) := by decide +kernel
theorem dX12_isKindOrLot_14 : decode cX12_isKindOrLot 14 = .ok (.goto 4, 3) := by decide +kernel
theorem dX12_isKindOrLot_17 : decode cX12_isKindOrLot 17 = .ok (.iconst 0, 1) := by decide +kernel
theorem dX12_isKindOrLot_18 : decode cX12_isKindOrLot 18 = .ok (.ireturn, 1) := by decide +kernel
theorem dX12_whyNoOdds_0 : decode cX12_whyNoOdds 0 = .ok (.iload_n 1, 1) := by decide +kernel
theorem dX12_whyNoOdds_1 : decode cX12_whyNoOdds 1 = .ok (.iconst (-1), 1) := by decide +kernel
theorem dX12_whyNoOdds_2 : decode cX12_whyNoOdds 2 = .ok (.if_icmp .ne 17, 3) := by decide +kernel
theorem dX12_whyNoOdds_5 : decode cX12_whyNoOdds 5 = .ok (.aload_n 0, 1) := by decide +kernel
theorem dX12_whyNoOdds_6 : decode cX12_whyNoOdds 6 = .ok (.getfield 35, 3) := by decide +kernel
theorem dX12_whyNoOdds_9 : decode cX12_whyNoOdds 9 = .ok (.iconst 3, 1) := by decide +kernel
theorem dX12_whyNoOdds_10 : decode cX12_whyNoOdds 10 = .ok (.iaload, 1) := by decide +kernel
theorem dX12_whyNoOdds_11 : decode cX12_whyNoOdds 11 = .ok (.ifCond .ne 8, 3) := by decide +kernel
theorem dX12_whyNoOdds_14 : decode cX12_whyNoOdds 14 = .ok (.bipush 8, 2) := by decide +kernel
theorem dX12_whyNoOdds_16 : decode cX12_whyNoOdds 16 = .ok (.goto 16, 3) := by decide +kernel
theorem dX12_whyNoOdds_19 : decode cX12_whyNoOdds 19 = .ok (.aload_n 0, 1) := by decide +kernel
theorem dX12_whyNoOdds_20 : decode cX12_whyNoOdds 20 = .ok (.invokevirtual 403, 3) := by decide +kernel
theorem dX12_whyNoOdds_23 : decode cX12_whyNoOdds 23 = .ok (.ifCond .eq 8, 3) := by decide +kernel
theorem dX12_whyNoOdds_26 : decode cX12_whyNoOdds 26 = .ok (.bipush 9, 2) := by decide +kernel
theorem dX12_whyNoOdds_28 : decode cX12_whyNoOdds 28 = .ok (.goto 4, 3) := by decide +kernel
theorem dX12_whyNoOdds_31 : decode cX12_whyNoOdds 31 = .ok (.iconst 0, 1) := by decide +kernel
theorem dX12_whyNoOdds_32 : decode cX12_whyNoOdds 32 = .ok (.ireturn, 1) := by decide +kernel
theorem dX12_odds_0 : decode cX12_odds 0 = .ok (.aload_n 0, 1) := by decide +kernel
theorem dX12_odds_1 : decode cX12_odds 1 = .ok (.iconst 0, 1) := by decide +kernel
theorem dX12_odds_2 : decode cX12_odds 2 = .ok (.putfield 90, 3) := by decide +kernel
theorem dX12_odds_5 : decode cX12_odds 5 = .ok (.aload_n 0, 1) := by decide +kernel
theorem dX12_odds_6 : decode cX12_odds 6 = .ok (.iconst 0, 1) := by decide +kernel
theorem dX12_odds_7 : decode cX12_odds 7 = .ok (.putfield 93, 3) := by decide +kernel
theorem dX12_odds_10 : decode cX12_odds 10 = .ok (.aload_n 0, 1) := by decide +kernel
theorem dX12_odds_11 : decode cX12_odds 11 = .ok (.iload_n 2, 1) := by decide +kernel
theorem dX12_odds_12 : decode cX12_odds 12 = .ok (.invokevirtual 495, 3) := by decide +kernel
theorem dX12_odds_15 : decode cX12_odds 15 = .ok (.ifCond .ne 9, 3) := by decide +kernel
theorem dX12_odds_18 : decode cX12_odds 18 = .ok (.aload_n 0, 1) := by decide +kernel
theorem dX12_odds_19 : decode cX12_odds 19 = .ok (.iconst 2, 1) := by decide +kernel
theorem dX12_odds_20 : decode cX12_odds 20 = .ok (.invokevirtual 109, 3) := by decide +kernel
theorem dX12_odds_23 : decode cX12_odds 23 = .ok (.ireturn, 1) := by decide +kernel
theorem dX12_odds_24 : decode cX12_odds 24 = .ok (.iload_n 1, 1) := by decide +kernel
theorem dX12_odds_25 : decode cX12_odds 25 = .ok (.i2l, 1) := by decide +kernel
theorem dX12_odds_26 : decode cX12_odds 26 = .ok (.lconst 0, 1) := by decide +kernel
theorem dX12_odds_27 : decode cX12_odds 27 = .ok (.ldc2_w 498, 3) := by decide +kernel
theorem dX12_odds_30 : decode cX12_odds 30 = .ok (.invokestatic 129, 3) := by decide +kernel
theorem dX12_odds_33 : decode cX12_odds 33 = .ok (.ifCond .ne 9, 3) := by decide +kernel
theorem dX12_odds_36 : decode cX12_odds 36 = .ok (.aload_n 0, 1) := by decide +kernel
theorem dX12_odds_37 : decode cX12_odds 37 = .ok (.iconst 5, 1) := by decide +kernel
theorem dX12_odds_38 : decode cX12_odds 38 = .ok (.invokevirtual 109, 3) := by decide +kernel
theorem dX12_odds_41 : decode cX12_odds 41 = .ok (.ireturn, 1) := by decide +kernel
theorem dX12_odds_42 : decode cX12_odds 42 = .ok (.aload_n 0, 1) := by decide +kernel
theorem dX12_odds_43 : decode cX12_odds 43 = .ok (.aload_n 0, 1) := by decide +kernel
theorem dX12_odds_44 : decode cX12_odds 44 = .ok (.iload_n 2, 1) := by decide +kernel
theorem dX12_odds_45 : decode cX12_odds 45 = .ok (.invokevirtual 500, 3) := by decide +kernel
theorem dX12_odds_48 : decode cX12_odds 48 = .ok (.putfield 93, 3) := by decide +kernel
theorem dX12_odds_51 : decode cX12_odds 51 = .ok (.aload_n 0, 1) := by decide +kernel
theorem dX12_odds_52 : decode cX12_odds 52 = .ok (.getfield 93, 3) := by decide +kernel
theorem dX12_odds_55 : decode cX12_odds 55 = .ok (.ifCond .le 5, 3) := by decide +kernel
theorem dX12_odds_58 : decode cX12_odds 58 = .ok (.iconst 0, 1) := by decide +kernel
theorem dX12_odds_59 : decode cX12_odds 59 = .ok (.ireturn, 1) := by decide +kernel
theorem dX12_odds_60 : decode cX12_odds 60 = .ok (.aload_n 0, 1) := by decide +kernel
theorem dX12_odds_61 : decode cX12_odds 61 = .ok (.iload_n 2, 1) := by decide +kernel
theorem dX12_odds_62 : decode cX12_odds 62 = .ok (.invokevirtual 503, 3) := by decide +kernel
theorem dX12_odds_65 : decode cX12_odds 65 = .ok (.aload_n 0, 1) := by decide +kernel
theorem dX12_odds_66 : decode cX12_odds 66 = .ok (.aload_n 0, 1) := by decide +kernel
theorem dX12_odds_67 : decode cX12_odds 67 = .ok (.getfield 57, 3) := by decide +kernel
theorem dX12_odds_70 : decode cX12_odds 70 = .ok (.iload_n 1, 1) := by decide +kernel
theorem dX12_odds_71 : decode cX12_odds 71 = .ok (.laload, 1) := by decide +kernel
theorem dX12_odds_72 : decode cX12_odds 72 = .ok (.aload_n 0, 1) := by decide +kernel
theorem dX12_odds_73 : decode cX12_odds 73 = .ok (.getfield 489, 3) := by decide +kernel
theorem dX12_odds_76 : decode cX12_odds 76 = .ok (.invokevirtual 506, 3) := by decide +kernel
theorem dX12_odds_79 : decode cX12_odds 79 = .ok (.ireturn, 1) := by decide +kernel
theorem dX12_seen_0 : decode cX12_seen 0 = .ok (.aload_n 0, 1) := by decide +kernel
theorem dX12_seen_1 : decode cX12_seen 1 = .ok (.iconst 0, 1) := by decide +kernel
theorem dX12_seen_2 : decode cX12_seen 2 = .ok (.putfield 90, 3) := by decide +kernel
theorem dX12_seen_5 : decode cX12_seen 5 = .ok (.aload_n 0, 1) := by decide +kernel
theorem dX12_seen_6 : decode cX12_seen 6 = .ok (.iconst 0, 1) := by decide +kernel
theorem dX12_seen_7 : decode cX12_seen 7 = .ok (.putfield 93, 3) := by decide +kernel
theorem dX12_seen_10 : decode cX12_seen 10 = .ok (.aload_n 0, 1) := by decide +kernel
theorem dX12_seen_11 : decode cX12_seen 11 = .ok (.iload_n 1, 1) := by decide +kernel
theorem dX12_seen_12 : decode cX12_seen 12 = .ok (.invokevirtual 351, 3) := by decide +kernel
theorem dX12_seen_15 : decode cX12_seen 15 = .ok (.ifCond .eq 11, 3) := by decide +kernel
theorem dX12_seen_18 : decode cX12_seen 18 = .ok (.aload_n 0, 1) := by decide +kernel
theorem dX12_seen_19 : decode cX12_seen 19 = .ok (.iload_n 2, 1) := by decide +kernel
theorem dX12_seen_20 : decode cX12_seen 20 = .ok (.invokevirtual 495, 3) := by decide +kernel
theorem dX12_seen_23 : decode cX12_seen 23 = .ok (.ifCond .ne 9, 3) := by decide +kernel
theorem dX12_seen_26 : decode cX12_seen 26 = .ok (.aload_n 0, 1) := by decide +kernel
theorem dX12_seen_27 : decode cX12_seen 27 = .ok (.iconst 2, 1) := by decide +kernel
theorem dX12_seen_28 : decode cX12_seen 28 = .ok (.invokevirtual 109, 3) := by decide +kernel
theorem dX12_seen_31 : decode cX12_seen 31 = .ok (.ireturn, 1) := by decide +kernel
theorem dX12_seen_32 : decode cX12_seen 32 = .ok (.aload_n 0, 1) := by decide +kernel
theorem dX12_seen_33 : decode cX12_seen 33 = .ok (.aload_n 0, 1) := by decide +kernel
theorem dX12_seen_34 : decode cX12_seen 34 = .ok (.iload_n 2, 1) := by decide +kernel
theorem dX12_seen_35 : decode cX12_seen 35 = .ok (.invokevirtual 500, 3) := by decide +kernel
theorem dX12_seen_38 : decode cX12_seen 38 = .ok (.putfield 93, 3) := by decide +kernel
theorem dX12_seen_41 : decode cX12_seen 41 = .ok (.aload_n 0, 1) := by decide +kernel
theorem dX12_seen_42 : decode cX12_seen 42 = .ok (.getfield 93, 3) := by decide +kernel
theorem dX12_seen_45 : decode cX12_seen 45 = .ok (.ifCond .le 5, 3) := by decide +kernel
theorem dX12_seen_48 : decode cX12_seen 48 = .ok (.iconst 0, 1) := by decide +kernel
theorem dX12_seen_49 : decode cX12_seen 49 = .ok (.ireturn, 1) := by decide +kernel
theorem dX12_seen_50 : decode cX12_seen 50 = .ok (.aload_n 0, 1) := by decide +kernel
theorem dX12_seen_51 : decode cX12_seen 51 = .ok (.iload_n 2, 1) := by decide +kernel
theorem dX12_seen_52 : decode cX12_seen 52 = .ok (.invokevirtual 503, 3) := by decide +kernel
theorem dX12_seen_55 : decode cX12_seen 55 = .ok (.aload_n 0, 1) := by decide +kernel
theorem dX12_seen_56 : decode cX12_seen 56 = .ok (.aload_n 0, 1) := by decide +kernel
theorem dX12_seen_57 : decode cX12_seen 57 = .ok (.getfield 60, 3) := by decide +kernel
theorem dX12_seen_60 : decode cX12_seen 60 = .ok (.iload_n 1, 1) := by decide +kernel
theorem dX12_seen_61 : decode cX12_seen 61 = .ok (.laload, 1) := by decide +kernel
theorem dX12_seen_62 : decode cX12_seen 62 = .ok (.aload_n 0, 1) := by decide +kernel
theorem dX12_seen_63 : decode cX12_seen 63 = .ok (.getfield 489, 3) := by decide +kernel
theorem dX12_seen_66 : decode cX12_seen 66 = .ok (.invokevirtual 506, 3) := by decide +kernel
theorem dX12_seen_69 : decode cX12_seen 69 = .ok (.ireturn, 1) := by decide +kernel
theorem dX12_who_0 : decode cX12_who 0 = .ok (.aload_n 0, 1) := by decide +kernel
theorem dX12_who_1 : decode cX12_who 1 = .ok (.iconst 0, 1) := by decide +kernel
theorem dX12_who_2 : decode cX12_who 2 = .ok (.putfield 90, 3) := by decide +kernel
theorem dX12_who_5 : decode cX12_who 5 = .ok (.aload_n 0, 1) := by decide +kernel
theorem dX12_who_6 : decode cX12_who 6 = .ok (.iconst 0, 1) := by decide +kernel
theorem dX12_who_7 : decode cX12_who 7 = .ok (.putfield 93, 3) := by decide +kernel
theorem dX12_who_10 : decode cX12_who 10 = .ok (.aload_n 0, 1) := by decide +kernel
theorem dX12_who_11 : decode cX12_who 11 = .ok (.iload_n 1, 1) := by decide +kernel
theorem dX12_who_12 : decode cX12_who 12 = .ok (.invokevirtual 360, 3) := by decide +kernel
theorem dX12_who_15 : decode cX12_who 15 = .ok (.ifCond .ne 9, 3) := by decide +kernel
theorem dX12_who_18 : decode cX12_who 18 = .ok (.aload_n 0, 1) := by decide +kernel
theorem dX12_who_19 : decode cX12_who 19 = .ok (.iconst 2, 1) := by decide +kernel
theorem dX12_who_20 : decode cX12_who 20 = .ok (.invokevirtual 109, 3) := by decide +kernel
theorem dX12_who_23 : decode cX12_who 23 = .ok (.ireturn, 1) := by decide +kernel
theorem dX12_who_24 : decode cX12_who 24 = .ok (.iload_n 2, 1) := by decide +kernel
theorem dX12_who_25 : decode cX12_who 25 = .ok (.i2l, 1) := by decide +kernel
theorem dX12_who_26 : decode cX12_who 26 = .ok (.lconst 0, 1) := by decide +kernel
theorem dX12_who_27 : decode cX12_who 27 = .ok (.ldc2_w 498, 3) := by decide +kernel
theorem dX12_who_30 : decode cX12_who 30 = .ok (.invokestatic 129, 3) := by decide +kernel
theorem dX12_who_33 : decode cX12_who 33 = .ok (.ifCond .ne 9, 3) := by decide +kernel
theorem dX12_who_36 : decode cX12_who 36 = .ok (.aload_n 0, 1) := by decide +kernel
theorem dX12_who_37 : decode cX12_who 37 = .ok (.iconst 5, 1) := by decide +kernel
theorem dX12_who_38 : decode cX12_who 38 = .ok (.invokevirtual 109, 3) := by decide +kernel
theorem dX12_who_41 : decode cX12_who 41 = .ok (.ireturn, 1) := by decide +kernel
theorem dX12_who_42 : decode cX12_who 42 = .ok (.aload_n 0, 1) := by decide +kernel
theorem dX12_who_43 : decode cX12_who 43 = .ok (.iconst (-1), 1) := by decide +kernel
theorem dX12_who_44 : decode cX12_who 44 = .ok (.invokevirtual 503, 3) := by decide +kernel
theorem dX12_who_47 : decode cX12_who 47 = .ok (.aload_n 0, 1) := by decide +kernel
theorem dX12_who_48 : decode cX12_who 48 = .ok (.getfield 57, 3) := by decide +kernel
theorem dX12_who_51 : decode cX12_who 51 = .ok (.iload_n 2, 1) := by decide +kernel
theorem dX12_who_52 : decode cX12_who 52 = .ok (.laload, 1) := by decide +kernel
theorem dX12_who_53 : decode cX12_who 53 = .ok (.lstore_n 3, 1) := by decide +kernel
theorem dX12_who_54 : decode cX12_who 54 = .ok (.lload_n 3, 1) := by decide +kernel
theorem dX12_who_55 : decode cX12_who 55 = .ok (.lconst 0, 1) := by decide +kernel
theorem dX12_who_56 : decode cX12_who 56 = .ok (.lcmp, 1) := by decide +kernel
theorem dX12_who_57 : decode cX12_who 57 = .ok (.ifCond .ne 10, 3) := by decide +kernel
theorem dX12_who_60 : decode cX12_who 60 = .ok (.aload_n 0, 1) := by decide +kernel
theorem dX12_who_61 : decode cX12_who 61 = .ok (.bipush 8, 2) := by decide +kernel
theorem dX12_who_63 : decode cX12_who 63 = .ok (.invokevirtual 109, 3) := by decide +kernel
theorem dX12_who_66 : decode cX12_who 66 = .ok (.ireturn, 1) := by decide +kernel
theorem dX12_who_67 : decode cX12_who 67 = .ok (.aload_n 0, 1) := by decide +kernel
theorem dX12_who_68 : decode cX12_who 68 = .ok (.iload_n 1, 1) := by decide +kernel
theorem dX12_who_69 : decode cX12_who 69 = .ok (.invokevirtual 503, 3) := by decide +kernel
theorem dX12_who_72 : decode cX12_who 72 = .ok (.aload_n 0, 1) := by decide +kernel
theorem dX12_who_73 : decode cX12_who 73 = .ok (.aload_n 0, 1) := by decide +kernel
theorem dX12_who_74 : decode cX12_who 74 = .ok (.getfield 35, 3) := by decide +kernel
theorem dX12_who_77 : decode cX12_who 77 = .ok (.bipush 121, 2) := by decide +kernel
theorem dX12_who_79 : decode cX12_who 79 = .ok (.iload_n 1, 1) := by decide +kernel
theorem dX12_who_80 : decode cX12_who 80 = .ok (.iadd, 1) := by decide +kernel
theorem dX12_who_81 : decode cX12_who 81 = .ok (.iaload, 1) := by decide +kernel
theorem dX12_who_82 : decode cX12_who 82 = .ok (.i2l, 1) := by decide +kernel
theorem dX12_who_83 : decode cX12_who 83 = .ok (.aload_n 0, 1) := by decide +kernel
theorem dX12_who_84 : decode cX12_who 84 = .ok (.getfield 57, 3) := by decide +kernel
theorem dX12_who_87 : decode cX12_who 87 = .ok (.iload_n 2, 1) := by decide +kernel
theorem dX12_who_88 : decode cX12_who 88 = .ok (.laload, 1) := by decide +kernel
theorem dX12_who_89 : decode cX12_who 89 = .ok (.lmul, 1) := by decide +kernel
theorem dX12_who_90 : decode cX12_who 90 = .ok (.lload_n 3, 1) := by decide +kernel
theorem dX12_who_91 : decode cX12_who 91 = .ok (.invokevirtual 506, 3) := by decide +kernel
theorem dX12_who_94 : decode cX12_who 94 = .ok (.ireturn, 1) := by decide +kernel
theorem dX12_mean_0 : decode cX12_mean 0 = .ok (.aload_n 0, 1) := by decide +kernel
theorem dX12_mean_1 : decode cX12_mean 1 = .ok (.iconst 0, 1) := by decide +kernel
theorem dX12_mean_2 : decode cX12_mean 2 = .ok (.putfield 90, 3) := by decide +kernel
theorem dX12_mean_5 : decode cX12_mean 5 = .ok (.aload_n 0, 1) := by decide +kernel
theorem dX12_mean_6 : decode cX12_mean 6 = .ok (.iconst 0, 1) := by decide +kernel
theorem dX12_mean_7 : decode cX12_mean 7 = .ok (.putfield 93, 3) := by decide +kernel
theorem dX12_mean_10 : decode cX12_mean 10 = .ok (.aload_n 0, 1) := by decide +kernel
theorem dX12_mean_11 : decode cX12_mean 11 = .ok (.iload_n 1, 1) := by decide +kernel
theorem dX12_mean_12 : decode cX12_mean 12 = .ok (.invokevirtual 495, 3) := by decide +kernel
theorem dX12_mean_15 : decode cX12_mean 15 = .ok (.ifCond .ne 9, 3) := by decide +kernel
theorem dX12_mean_18 : decode cX12_mean 18 = .ok (.aload_n 0, 1) := by decide +kernel
theorem dX12_mean_19 : decode cX12_mean 19 = .ok (.iconst 2, 1) := by decide +kernel
theorem dX12_mean_20 : decode cX12_mean 20 = .ok (.invokevirtual 109, 3) := by decide +kernel
theorem dX12_mean_23 : decode cX12_mean 23 = .ok (.ireturn, 1) := by decide +kernel
theorem dX12_mean_24 : decode cX12_mean 24 = .ok (.aload_n 0, 1) := by decide +kernel
theorem dX12_mean_25 : decode cX12_mean 25 = .ok (.aload_n 0, 1) := by decide +kernel
theorem dX12_mean_26 : decode cX12_mean 26 = .ok (.iload_n 1, 1) := by decide +kernel
theorem dX12_mean_27 : decode cX12_mean 27 = .ok (.invokevirtual 500, 3) := by decide +kernel
theorem dX12_mean_30 : decode cX12_mean 30 = .ok (.putfield 93, 3) := by decide +kernel
theorem dX12_mean_33 : decode cX12_mean 33 = .ok (.aload_n 0, 1) := by decide +kernel
theorem dX12_mean_34 : decode cX12_mean 34 = .ok (.getfield 93, 3) := by decide +kernel
theorem dX12_mean_37 : decode cX12_mean 37 = .ok (.ifCond .le 5, 3) := by decide +kernel
theorem dX12_mean_40 : decode cX12_mean 40 = .ok (.iconst 0, 1) := by decide +kernel
theorem dX12_mean_41 : decode cX12_mean 41 = .ok (.ireturn, 1) := by decide +kernel
theorem dX12_mean_42 : decode cX12_mean 42 = .ok (.aload_n 0, 1) := by decide +kernel
theorem dX12_mean_43 : decode cX12_mean 43 = .ok (.iload_n 1, 1) := by decide +kernel
theorem dX12_mean_44 : decode cX12_mean 44 = .ok (.invokevirtual 503, 3) := by decide +kernel
theorem dX12_mean_47 : decode cX12_mean 47 = .ok (.aload_n 0, 1) := by decide +kernel
theorem dX12_mean_48 : decode cX12_mean 48 = .ok (.aload_n 0, 1) := by decide +kernel
theorem dX12_mean_49 : decode cX12_mean 49 = .ok (.getfield 486, 3) := by decide +kernel
theorem dX12_mean_52 : decode cX12_mean 52 = .ok (.aload_n 0, 1) := by decide +kernel
theorem dX12_mean_53 : decode cX12_mean 53 = .ok (.getfield 489, 3) := by decide +kernel
theorem dX12_mean_56 : decode cX12_mean 56 = .ok (.invokevirtual 506, 3) := by decide +kernel
theorem dX12_mean_59 : decode cX12_mean 59 = .ok (.ireturn, 1) := by decide +kernel
theorem dX12_ways_0 : decode cX12_ways 0 = .ok (.aload_n 0, 1) := by decide +kernel
theorem dX12_ways_1 : decode cX12_ways 1 = .ok (.iconst 0, 1) := by decide +kernel
theorem dX12_ways_2 : decode cX12_ways 2 = .ok (.putfield 90, 3) := by decide +kernel
theorem dX12_ways_5 : decode cX12_ways 5 = .ok (.aload_n 0, 1) := by decide +kernel
theorem dX12_ways_6 : decode cX12_ways 6 = .ok (.iconst 0, 1) := by decide +kernel
theorem dX12_ways_7 : decode cX12_ways 7 = .ok (.putfield 93, 3) := by decide +kernel
theorem dX12_ways_10 : decode cX12_ways 10 = .ok (.aload_n 0, 1) := by decide +kernel
theorem dX12_ways_11 : decode cX12_ways 11 = .ok (.invokevirtual 403, 3) := by decide +kernel
theorem dX12_ways_14 : decode cX12_ways 14 = .ok (.ifCond .eq 10, 3) := by decide +kernel
theorem dX12_ways_17 : decode cX12_ways 17 = .ok (.aload_n 0, 1) := by decide +kernel
theorem dX12_ways_18 : decode cX12_ways 18 = .ok (.bipush 9, 2) := by decide +kernel
theorem dX12_ways_20 : decode cX12_ways 20 = .ok (.invokevirtual 348, 3) := by decide +kernel
theorem dX12_ways_23 : decode cX12_ways 23 = .ok (.ireturn, 1) := by decide +kernel
theorem dX12_ways_24 : decode cX12_ways 24 = .ok (.aload_n 0, 1) := by decide +kernel
theorem dX12_ways_25 : decode cX12_ways 25 = .ok (.iconst (-1), 1) := by decide +kernel
theorem dX12_ways_26 : decode cX12_ways 26 = .ok (.invokevirtual 492, 3) := by decide +kernel
theorem dX12_ways_29 : decode cX12_ways 29 = .ok (.aload_n 0, 1) := by decide +kernel
theorem dX12_ways_30 : decode cX12_ways 30 = .ok (.getfield 447, 3) := by decide +kernel
theorem dX12_ways_33 : decode cX12_ways 33 = .ok (.ireturn, 1) := by decide +kernel
theorem dX12_length_0 : decode cX12_length 0 = .ok (.aload_n 0, 1) := by decide +kernel
theorem dX12_length_1 : decode cX12_length 1 = .ok (.iconst 0, 1) := by decide +kernel
theorem dX12_length_2 : decode cX12_length 2 = .ok (.putfield 90, 3) := by decide +kernel
theorem dX12_length_5 : decode cX12_length 5 = .ok (.aload_n 0, 1) := by decide +kernel
theorem dX12_length_6 : decode cX12_length 6 = .ok (.iconst 0, 1) := by decide +kernel
theorem dX12_length_7 : decode cX12_length 7 = .ok (.putfield 93, 3) := by decide +kernel
theorem dX12_length_10 : decode cX12_length 10 = .ok (.iload_n 1, 1) := by decide +kernel
theorem dX12_length_11 : decode cX12_length 11 = .ok (.i2l, 1) := by decide +kernel
theorem dX12_length_12 : decode cX12_length 12 = .ok (.lconst 0, 1) := by decide +kernel
theorem dX12_length_13 : decode cX12_length 13 = .ok (.lconst 1, 1) := by decide +kernel
theorem dX12_length_14 : decode cX12_length 14 = .ok (.invokestatic 129, 3) := by decide +kernel
theorem dX12_length_17 : decode cX12_length 17 = .ok (.ifCond .ne 9, 3) := by decide +kernel
theorem dX12_length_20 : decode cX12_length 20 = .ok (.aload_n 0, 1) := by decide +kernel
theorem dX12_length_21 : decode cX12_length 21 = .ok (.iconst 5, 1) := by decide +kernel
theorem dX12_length_22 : decode cX12_length 22 = .ok (.invokevirtual 348, 3) := by decide +kernel
theorem dX12_length_25 : decode cX12_length 25 = .ok (.ireturn, 1) := by decide +kernel
theorem dX12_length_26 : decode cX12_length 26 = .ok (.aload_n 0, 1) := by decide +kernel
theorem dX12_length_27 : decode cX12_length 27 = .ok (.invokevirtual 403, 3) := by decide +kernel
theorem dX12_length_30 : decode cX12_length 30 = .ok (.ifCond .eq 10, 3) := by decide +kernel
theorem dX12_length_33 : decode cX12_length 33 = .ok (.aload_n 0, 1) := by decide +kernel
theorem dX12_length_34 : decode cX12_length 34 = .ok (.bipush 9, 2) := by decide +kernel
theorem dX12_length_36 : decode cX12_length 36 = .ok (.invokevirtual 348, 3) := by decide +kernel
theorem dX12_length_39 : decode cX12_length 39 = .ok (.ireturn, 1) := by decide +kernel
theorem dX12_length_40 : decode cX12_length 40 = .ok (.aload_n 0, 1) := by decide +kernel
theorem dX12_length_41 : decode cX12_length 41 = .ok (.iconst (-1), 1) := by decide +kernel
theorem dX12_length_42 : decode cX12_length 42 = .ok (.invokevirtual 492, 3) := by decide +kernel
theorem dX12_length_45 : decode cX12_length 45 = .ok (.iload_n 1, 1) := by decide +kernel
theorem dX12_length_46 : decode cX12_length 46 = .ok (.ifCond .ne 10, 3) := by decide +kernel
theorem dX12_length_49 : decode cX12_length 49 = .ok (.aload_n 0, 1) := by decide +kernel
theorem dX12_length_50 : decode cX12_length 50 = .ok (.getfield 450, 3) := by decide +kernel
theorem dX12_length_53 : decode cX12_length 53 = .ok (.goto 7, 3) := by decide +kernel
theorem dX12_length_56 : decode cX12_length 56 = .ok (.aload_n 0, 1) := by decide +kernel
theorem dX12_length_57 : decode cX12_length 57 = .ok (.getfield 453, 3) := by decide +kernel
theorem dX12_length_60 : decode cX12_length 60 = .ok (.ireturn, 1) := by decide +kernel
theorem dX12_can_0 : decode cX12_can 0 = .ok (.aload_n 0, 1) := by decide +kernel
theorem dX12_can_1 : decode cX12_can 1 = .ok (.iconst 0, 1) := by decide +kernel
theorem dX12_can_2 : decode cX12_can 2 = .ok (.putfield 90, 3) := by decide +kernel
theorem dX12_can_5 : decode cX12_can 5 = .ok (.aload_n 0, 1) := by decide +kernel
theorem dX12_can_6 : decode cX12_can 6 = .ok (.iconst 0, 1) := by decide +kernel
theorem dX12_can_7 : decode cX12_can 7 = .ok (.putfield 93, 3) := by decide +kernel
theorem dX12_can_10 : decode cX12_can 10 = .ok (.iload_n 1, 1) := by decide +kernel
theorem dX12_can_11 : decode cX12_can 11 = .ok (.i2l, 1) := by decide +kernel
theorem dX12_can_12 : decode cX12_can 12 = .ok (.lconst 0, 1) := by decide +kernel
theorem dX12_can_13 : decode cX12_can 13 = .ok (.lconst 1, 1) := by decide +kernel
theorem dX12_can_14 : decode cX12_can 14 = .ok (.invokestatic 129, 3) := by decide +kernel
theorem dX12_can_17 : decode cX12_can 17 = .ok (.ifCond .ne 9, 3) := by decide +kernel
theorem dX12_can_20 : decode cX12_can 20 = .ok (.aload_n 0, 1) := by decide +kernel
theorem dX12_can_21 : decode cX12_can 21 = .ok (.iconst 5, 1) := by decide +kernel
theorem dX12_can_22 : decode cX12_can 22 = .ok (.invokevirtual 348, 3) := by decide +kernel
theorem dX12_can_25 : decode cX12_can 25 = .ok (.ireturn, 1) := by decide +kernel
theorem dX12_can_26 : decode cX12_can 26 = .ok (.aload_n 0, 1) := by decide +kernel
theorem dX12_can_27 : decode cX12_can 27 = .ok (.iconst (-1), 1) := by decide +kernel
theorem dX12_can_28 : decode cX12_can 28 = .ok (.invokevirtual 492, 3) := by decide +kernel
theorem dX12_can_31 : decode cX12_can 31 = .ok (.iload_n 1, 1) := by decide +kernel
theorem dX12_can_32 : decode cX12_can 32 = .ok (.ifCond .ne 10, 3) := by decide +kernel
theorem dX12_can_35 : decode cX12_can 35 = .ok (.aload_n 0, 1) := by decide +kernel
theorem dX12_can_36 : decode cX12_can 36 = .ok (.getfield 456, 3) := by decide +kernel
theorem dX12_can_39 : decode cX12_can 39 = .ok (.goto 7, 3) := by decide +kernel
theorem dX12_can_42 : decode cX12_can 42 = .ok (.aload_n 0, 1) := by decide +kernel
theorem dX12_can_43 : decode cX12_can 43 = .ok (.getfield 459, 3) := by decide +kernel
theorem dX12_can_46 : decode cX12_can 46 = .ok (.ireturn, 1) := by decide +kernel
theorem dX12_by_0 : decode cX12_by 0 = .ok (.aload_n 0, 1) := by decide +kernel
theorem dX12_by_1 : decode cX12_by 1 = .ok (.iconst 0, 1) := by decide +kernel
theorem dX12_by_2 : decode cX12_by 2 = .ok (.putfield 90, 3) := by decide +kernel
theorem dX12_by_5 : decode cX12_by 5 = .ok (.aload_n 0, 1) := by decide +kernel
theorem dX12_by_6 : decode cX12_by 6 = .ok (.iconst 0, 1) := by decide +kernel
theorem dX12_by_7 : decode cX12_by 7 = .ok (.putfield 93, 3) := by decide +kernel
theorem dX12_by_10 : decode cX12_by 10 = .ok (.aload_n 0, 1) := by decide +kernel
theorem dX12_by_11 : decode cX12_by 11 = .ok (.iload_n 1, 1) := by decide +kernel
theorem dX12_by_12 : decode cX12_by 12 = .ok (.invokevirtual 351, 3) := by decide +kernel
theorem dX12_by_15 : decode cX12_by 15 = .ok (.ifCond .ne 9, 3) := by decide +kernel
theorem dX12_by_18 : decode cX12_by 18 = .ok (.aload_n 0, 1) := by decide +kernel
theorem dX12_by_19 : decode cX12_by 19 = .ok (.iconst 2, 1) := by decide +kernel
theorem dX12_by_20 : decode cX12_by 20 = .ok (.invokevirtual 348, 3) := by decide +kernel
theorem dX12_by_23 : decode cX12_by 23 = .ok (.ireturn, 1) := by decide +kernel
theorem dX12_by_24 : decode cX12_by 24 = .ok (.aload_n 0, 1) := by decide +kernel
theorem dX12_by_25 : decode cX12_by 25 = .ok (.iconst (-1), 1) := by decide +kernel
theorem dX12_by_26 : decode cX12_by 26 = .ok (.invokevirtual 492, 3) := by decide +kernel
theorem dX12_by_29 : decode cX12_by 29 = .ok (.aload_n 0, 1) := by decide +kernel
theorem dX12_by_30 : decode cX12_by 30 = .ok (.getfield 50, 3) := by decide +kernel
theorem dX12_by_33 : decode cX12_by 33 = .ok (.iload_n 1, 1) := by decide +kernel
theorem dX12_by_34 : decode cX12_by 34 = .ok (.iaload, 1) := by decide +kernel
theorem dX12_by_35 : decode cX12_by 35 = .ok (.ireturn, 1) := by decide +kernel
theorem dX12_fewest_0 : decode cX12_fewest 0 = .ok (.aload_n 0, 1) := by decide +kernel
theorem dX12_fewest_1 : decode cX12_fewest 1 = .ok (.iconst 0, 1) := by decide +kernel
theorem dX12_fewest_2 : decode cX12_fewest 2 = .ok (.putfield 90, 3) := by decide +kernel
theorem dX12_fewest_5 : decode cX12_fewest 5 = .ok (.aload_n 0, 1) := by decide +kernel
theorem dX12_fewest_6 : decode cX12_fewest 6 = .ok (.iconst 0, 1) := by decide +kernel
theorem dX12_fewest_7 : decode cX12_fewest 7 = .ok (.putfield 93, 3) := by decide +kernel
theorem dX12_fewest_10 : decode cX12_fewest 10 = .ok (.aload_n 0, 1) := by decide +kernel
theorem dX12_fewest_11 : decode cX12_fewest 11 = .ok (.invokevirtual 403, 3) := by decide +kernel
theorem dX12_fewest_14 : decode cX12_fewest 14 = .ok (.ifCond .eq 10, 3) := by decide +kernel
theorem dX12_fewest_17 : decode cX12_fewest 17 = .ok (.aload_n 0, 1) := by decide +kernel
theorem dX12_fewest_18 : decode cX12_fewest 18 = .ok (.bipush 9, 2) := by decide +kernel
theorem dX12_fewest_20 : decode cX12_fewest 20 = .ok (.invokevirtual 348, 3) := by decide +kernel
theorem dX12_fewest_23 : decode cX12_fewest 23 = .ok (.ireturn, 1) := by decide +kernel
theorem dX12_fewest_24 : decode cX12_fewest 24 = .ok (.aload_n 0, 1) := by decide +kernel
theorem dX12_fewest_25 : decode cX12_fewest 25 = .ok (.iconst (-1), 1) := by decide +kernel
theorem dX12_fewest_26 : decode cX12_fewest 26 = .ok (.invokevirtual 492, 3) := by decide +kernel
theorem dX12_fewest_29 : decode cX12_fewest 29 = .ok (.iconst 0, 1) := by decide +kernel
theorem dX12_fewest_30 : decode cX12_fewest 30 = .ok (.istore_n 1, 1) := by decide +kernel
theorem dX12_fewest_31 : decode cX12_fewest 31 = .ok (.iload_n 1, 1) := by decide +kernel
theorem dX12_fewest_32 : decode cX12_fewest 32 = .ok (.sipush 4096, 3) := by decide +kernel
theorem dX12_fewest_35 : decode cX12_fewest 35 = .ok (.if_icmp .ge 25, 3) := by decide +kernel
theorem dX12_fewest_38 : decode cX12_fewest 38 = .ok (.aload_n 0, 1) := by decide +kernel
theorem dX12_fewest_39 : decode cX12_fewest 39 = .ok (.getfield 63, 3) := by decide +kernel
theorem dX12_fewest_42 : decode cX12_fewest 42 = .ok (.iload_n 1, 1) := by decide +kernel
theorem dX12_fewest_43 : decode cX12_fewest 43 = .ok (.iload_n 1, 1) := by decide +kernel
theorem dX12_fewest_44 : decode cX12_fewest 44 = .ok (.ifCond .ne 7, 3) := by decide +kernel
theorem dX12_fewest_47 : decode cX12_fewest 47 = .ok (.iconst 0, 1) := by decide +kernel
theorem dX12_fewest_48 : decode cX12_fewest 48 = .ok (.goto 5, 3) := by decide +kernel
theorem dX12_fewest_51 : decode cX12_fewest 51 = .ok (.bipush 99, 2) := by decide +kernel
theorem dX12_fewest_53 : decode cX12_fewest 53 = .ok (.iastore, 1) := by decide +kernel
theorem dX12_fewest_54 : decode cX12_fewest 54 = .ok (.iinc 1 1, 3) := by decide +kernel
theorem dX12_fewest_57 : decode cX12_fewest 57 = .ok (.goto (-26), 3) := by decide +kernel
theorem dX12_fewest_60 : decode cX12_fewest 60 = .ok (.iconst 0, 1) := by decide +kernel
theorem dX12_fewest_61 : decode cX12_fewest 61 = .ok (.istore_n 1, 1) := by decide +kernel
theorem dX12_fewest_62 : decode cX12_fewest 62 = .ok (.aload_n 0, 1) := by decide +kernel
theorem dX12_fewest_63 : decode cX12_fewest 63 = .ok (.getfield 63, 3) := by decide +kernel
theorem dX12_fewest_66 : decode cX12_fewest 66 = .ok (.aload_n 0, 1) := by decide +kernel
theorem dX12_fewest_67 : decode cX12_fewest 67 = .ok (.getfield 456, 3) := by decide +kernel
theorem dX12_fewest_70 : decode cX12_fewest 70 = .ok (.iaload, 1) := by decide +kernel
theorem dX12_fewest_71 : decode cX12_fewest 71 = .ok (.bipush 99, 2) := by decide +kernel
theorem dX12_fewest_73 : decode cX12_fewest 73 = .ok (.if_icmp .ne 83, 3) := by decide +kernel
theorem dX12_fewest_76 : decode cX12_fewest 76 = .ok (.iconst 0, 1) := by decide +kernel
theorem dX12_fewest_77 : decode cX12_fewest 77 = .ok (.istore_n 2, 1) := by decide +kernel
theorem dX12_fewest_78 : decode cX12_fewest 78 = .ok (.iload_n 2, 1) := by decide +kernel
theorem dX12_fewest_79 : decode cX12_fewest 79 = .ok (.sipush 4096, 3) := by decide +kernel
theorem dX12_fewest_82 : decode cX12_fewest 82 = .ok (.if_icmp .ge 68, 3) := by decide +kernel
theorem dX12_fewest_85 : decode cX12_fewest 85 = .ok (.aload_n 0, 1) := by decide +kernel
theorem dX12_fewest_86 : decode cX12_fewest 86 = .ok (.getfield 63, 3) := by decide +kernel
theorem dX12_fewest_89 : decode cX12_fewest 89 = .ok (.iload_n 2, 1) := by decide +kernel
theorem dX12_fewest_90 : decode cX12_fewest 90 = .ok (.iaload, 1) := by decide +kernel
theorem dX12_fewest_91 : decode cX12_fewest 91 = .ok (.iload_n 1, 1) := by decide +kernel
theorem dX12_fewest_92 : decode cX12_fewest 92 = .ok (.if_icmp .eq 6, 3) := by decide +kernel
theorem dX12_fewest_95 : decode cX12_fewest 95 = .ok (.goto 49, 3) := by decide +kernel
theorem dX12_fewest_98 : decode cX12_fewest 98 = .ok (.iconst 0, 1) := by decide +kernel
theorem dX12_fewest_99 : decode cX12_fewest 99 = .ok (.istore_n 3, 1) := by decide +kernel
theorem dX12_fewest_100 : decode cX12_fewest 100 = .ok (.iload_n 3, 1) := by decide +kernel
theorem dX12_fewest_101 : decode cX12_fewest 101 = .ok (.sipush 4096, 3) := by decide +kernel
theorem dX12_fewest_104 : decode cX12_fewest 104 = .ok (.if_icmp .ge 40, 3) := by decide +kernel
theorem dX12_fewest_107 : decode cX12_fewest 107 = .ok (.aload_n 0, 1) := by decide +kernel
theorem dX12_fewest_108 : decode cX12_fewest 108 = .ok (.getfield 53, 3) := by decide +kernel
theorem dX12_fewest_111 : decode cX12_fewest 111 = .ok (.iload_n 3, 1) := by decide +kernel
theorem dX12_fewest_112 : decode cX12_fewest 112 = .ok (.baload, 1) := by decide +kernel
theorem dX12_fewest_113 : decode cX12_fewest 113 = .ok (.ifCond .eq 25, 3) := by decide +kernel
theorem dX12_fewest_116 : decode cX12_fewest 116 = .ok (.aload_n 0, 1) := by decide +kernel
theorem dX12_fewest_117 : decode cX12_fewest 117 = .ok (.getfield 63, 3) := by decide +kernel
theorem dX12_fewest_120 : decode cX12_fewest 120 = .ok (.iload_n 2, 1) := by decide +kernel
theorem dX12_fewest_121 : decode cX12_fewest 121 = .ok (.iload_n 3, 1) := by decide +kernel
theorem dX12_fewest_122 : decode cX12_fewest 122 = .ok (.ior, 1) := by decide +kernel
theorem dX12_fewest_123 : decode cX12_fewest 123 = .ok (.aload_n 0, 1) := by decide +kernel
theorem dX12_fewest_124 : decode cX12_fewest 124 = .ok (.getfield 63, 3) := by decide +kernel
theorem dX12_fewest_127 : decode cX12_fewest 127 = .ok (.iload_n 2, 1) := by decide +kernel
theorem dX12_fewest_128 : decode cX12_fewest 128 = .ok (.iload_n 3, 1) := by decide +kernel
theorem dX12_fewest_129 : decode cX12_fewest 129 = .ok (.ior, 1) := by decide +kernel
theorem dX12_fewest_130 : decode cX12_fewest 130 = .ok (.iaload, 1) := by decide +kernel
theorem dX12_fewest_131 : decode cX12_fewest 131 = .ok (.iload_n 1, 1) := by decide +kernel
theorem dX12_fewest_132 : decode cX12_fewest 132 = .ok (.iconst 1, 1) := by decide +kernel
theorem dX12_fewest_133 : decode cX12_fewest 133 = .ok (.iadd, 1) := by decide +kernel
theorem dX12_fewest_134 : decode cX12_fewest 134 = .ok (.invokestatic 391, 3) := by decide +kernel
theorem dX12_fewest_137 : decode cX12_fewest 137 = .ok (.iastore, 1) := by decide +kernel
theorem dX12_fewest_138 : decode cX12_fewest 138 = .ok (.iinc 3 1, 3) := by decide +kernel
theorem dX12_fewest_141 : decode cX12_fewest 141 = .ok (.goto (-41), 3) := by decide +kernel
theorem dX12_fewest_144 : decode cX12_fewest 144 = .ok (.iinc 2 1, 3) := by decide +kernel
theorem dX12_fewest_147 : decode cX12_fewest 147 = .ok (.goto (-69), 3) := by decide +kernel
theorem dX12_fewest_150 : decode cX12_fewest 150 = .ok (.iinc 1 1, 3) := by decide +kernel
theorem dX12_fewest_153 : decode cX12_fewest 153 = .ok (.goto (-91), 3) := by decide +kernel
theorem dX12_fewest_156 : decode cX12_fewest 156 = .ok (.aload_n 0, 1) := by decide +kernel
theorem dX12_fewest_157 : decode cX12_fewest 157 = .ok (.getfield 63, 3) := by decide +kernel
theorem dX12_fewest_160 : decode cX12_fewest 160 = .ok (.aload_n 0, 1) := by decide +kernel
theorem dX12_fewest_161 : decode cX12_fewest 161 = .ok (.getfield 456, 3) := by decide +kernel
theorem dX12_fewest_164 : decode cX12_fewest 164 = .ok (.iaload, 1) := by decide +kernel
theorem dX12_fewest_165 : decode cX12_fewest 165 = .ok (.ireturn, 1) := by decide +kernel
theorem dX12_steerFrom_0 : decode cX12_steerFrom 0 = .ok (.aload_n 0, 1) := by decide +kernel
theorem dX12_steerFrom_1 : decode cX12_steerFrom 1 = .ok (.getfield 510, 3) := by decide +kernel
theorem dX12_steerFrom_4 : decode cX12_steerFrom 4 = .ok (.ifCond .lt 14, 3) := by decide +kernel
theorem dX12_steerFrom_7 : decode cX12_steerFrom 7 = .ok (.iload_n 3, 1) := by decide +kernel
theorem dX12_steerFrom_8 : decode cX12_steerFrom 8 = .ok (.iconst 1, 1) := by decide +kernel
theorem dX12_steerFrom_9 : decode cX12_steerFrom 9 = .ok (.iadd, 1) := by decide +kernel
theorem dX12_steerFrom_10 : decode cX12_steerFrom 10 = .ok (.aload_n 0, 1) := by decide +kernel
theorem dX12_steerFrom_11 : decode cX12_steerFrom 11 = .ok (.getfield 510, 3) := by decide +kernel
theorem dX12_steerFrom_14 : decode cX12_steerFrom 14 = .ok (.if_icmp .lt 4, 3) := by decide +kernel
theorem dX12_steerFrom_17 : decode cX12_steerFrom 17 = .ok (.return_, 1) := by decide +kernel
theorem dX12_steerFrom_18 : decode cX12_steerFrom 18 = .ok (.iconst 0, 1) := by decide +kernel
theorem dX12_steerFrom_19 : decode cX12_steerFrom 19 = .ok (.istore 5, 2) := by decide +kernel
theorem dX12_steerFrom_21 : decode cX12_steerFrom 21 = .ok (.iload 5, 2) := by decide +kernel
theorem dX12_steerFrom_23 : decode cX12_steerFrom 23 = .ok (.iconst 4, 1) := by decide +kernel
theorem dX12_steerFrom_24 : decode cX12_steerFrom 24 = .ok (.if_icmp .ge 115, 3) := by decide +kernel
theorem dX12_steerFrom_27 : decode cX12_steerFrom 27 = .ok (.aload_n 0, 1) := by decide +kernel
theorem dX12_steerFrom_28 : decode cX12_steerFrom 28 = .ok (.getfield 66, 3) := by decide +kernel
theorem dX12_steerFrom_31 : decode cX12_steerFrom 31 = .ok (.iload_n 3, 1) := by decide +kernel
theorem dX12_steerFrom_32 : decode cX12_steerFrom 32 = .ok (.iload 5, 2) := by decide +kernel
theorem dX12_steerFrom_34 : decode cX12_steerFrom 34 = .ok (.iastore, 1) := by decide +kernel
theorem dX12_steerFrom_35 : decode cX12_steerFrom 35 = .ok (.aload_n 0, 1) := by decide +kernel
theorem dX12_steerFrom_36 : decode cX12_steerFrom 36 = .ok (.iload_n 1, 1) := by decide +kernel
theorem dX12_steerFrom_37 : decode cX12_steerFrom 37 = .ok (.iload 5, 2) := by decide +kernel
theorem dX12_steerFrom_39 : decode cX12_steerFrom 39 = .ok (.iload_n 2, 1) := by decide +kernel
theorem dX12_steerFrom_40 : decode cX12_steerFrom 40 = .ok (.invokevirtual 412, 3) := by decide +kernel
theorem dX12_steerFrom_43 : decode cX12_steerFrom 43 = .ok (.istore 6, 2) := by decide +kernel
theorem dX12_steerFrom_45 : decode cX12_steerFrom 45 = .ok (.iload 6, 2) := by decide +kernel
theorem dX12_steerFrom_47 : decode cX12_steerFrom 47 = .ok (.ifCond .lt 23, 3) := by decide +kernel
theorem dX12_steerFrom_50 : decode cX12_steerFrom 50 = .ok (.aload_n 0, 1) := by decide +kernel
theorem dX12_steerFrom_51 : decode cX12_steerFrom 51 = .ok (.iload 6, 2) := by decide +kernel
theorem dX12_steerFrom_53 : decode cX12_steerFrom 53 = .ok (.aload_n 0, 1) := by decide +kernel
theorem dX12_steerFrom_54 : decode cX12_steerFrom 54 = .ok (.iload_n 1, 1) := by decide +kernel
theorem dX12_steerFrom_55 : decode cX12_steerFrom 55 = .ok (.iload_n 2, 1) := by decide +kernel
theorem dX12_steerFrom_56 : decode cX12_steerFrom 56 = .ok (.invokevirtual 379, 3) := by decide +kernel
theorem dX12_steerFrom_59 : decode cX12_steerFrom 59 = .ok (.iload_n 3, 1) := by decide +kernel
theorem dX12_steerFrom_60 : decode cX12_steerFrom 60 = .ok (.iconst 1, 1) := by decide +kernel
theorem dX12_steerFrom_61 : decode cX12_steerFrom 61 = .ok (.iadd, 1) := by decide +kernel
theorem dX12_steerFrom_62 : decode cX12_steerFrom 62 = .ok (.iload 4, 2) := by decide +kernel
theorem dX12_steerFrom_64 : decode cX12_steerFrom 64 = .ok (.invokevirtual 513, 3) := by decide +kernel
theorem dX12_steerFrom_67 : decode cX12_steerFrom 67 = .ok (.goto 66, 3) := by decide +kernel
theorem dX12_steerFrom_70 : decode cX12_steerFrom 70 = .ok (.aload_n 0, 1) := by decide +kernel
theorem dX12_steerFrom_71 : decode cX12_steerFrom 71 = .ok (.iload_n 1, 1) := by decide +kernel
theorem dX12_steerFrom_72 : decode cX12_steerFrom 72 = .ok (.invokevirtual 465, 3) := by decide +kernel
theorem dX12_steerFrom_75 : decode cX12_steerFrom 75 = .ok (.iload 4, 2) := by decide +kernel
theorem dX12_steerFrom_77 : decode cX12_steerFrom 77 = .ok (.if_icmp .ne 56, 3) := by decide +kernel
theorem dX12_steerFrom_80 : decode cX12_steerFrom 80 = .ok (.aload_n 0, 1) := by decide +kernel
theorem dX12_steerFrom_81 : decode cX12_steerFrom 81 = .ok (.getfield 510, 3) := by decide +kernel
theorem dX12_steerFrom_84 : decode cX12_steerFrom 84 = .ok (.ifCond .lt 13, 3) := by decide +kernel
theorem dX12_steerFrom_87 : decode cX12_steerFrom 87 = .ok (.iload_n 3, 1) := by decide +kernel
theorem dX12_steerFrom_88 : decode cX12_steerFrom 88 = .ok (.iconst 1, 1) := by decide +kernel
theorem dX12_steerFrom_89 : decode cX12_steerFrom 89 = .ok (.iadd, 1) := by decide +kernel
theorem dX12_steerFrom_90 : decode cX12_steerFrom 90 = .ok (.aload_n 0, 1) := by decide +kernel
theorem dX12_steerFrom_91 : decode cX12_steerFrom 91 = .ok (.getfield 510, 3) := by decide +kernel
theorem dX12_steerFrom_94 : decode cX12_steerFrom 94 = .ok (.if_icmp .ge 39, 3) := by decide +kernel
theorem dX12_steerFrom_97 : decode cX12_steerFrom 97 = .ok (.aload_n 0, 1) := by decide +kernel
theorem dX12_steerFrom_98 : decode cX12_steerFrom 98 = .ok (.iload_n 3, 1) := by decide +kernel
theorem dX12_steerFrom_99 : decode cX12_steerFrom 99 = .ok (.iconst 1, 1) := by decide +kernel
theorem dX12_steerFrom_100 : decode cX12_steerFrom 100 = .ok (.iadd, 1) := by decide +kernel
theorem dX12_steerFrom_101 : decode cX12_steerFrom 101 = .ok (.putfield 510, 3) := by decide +kernel
theorem dX12_steerFrom_104 : decode cX12_steerFrom 104 = .ok (.iconst 0, 1) := by decide +kernel
theorem dX12_steerFrom_105 : decode cX12_steerFrom 105 = .ok (.istore 7, 2) := by decide +kernel
theorem dX12_steerFrom_107 : decode cX12_steerFrom 107 = .ok (.iload 7, 2) := by decide +kernel
theorem dX12_steerFrom_109 : decode cX12_steerFrom 109 = .ok (.iload_n 3, 1) := by decide +kernel
theorem dX12_steerFrom_110 : decode cX12_steerFrom 110 = .ok (.if_icmp .gt 23, 3) := by decide +kernel
theorem dX12_steerFrom_113 : decode cX12_steerFrom 113 = .ok (.aload_n 0, 1) := by decide +kernel
theorem dX12_steerFrom_114 : decode cX12_steerFrom 114 = .ok (.getfield 72, 3) := by decide +kernel
theorem dX12_steerFrom_117 : decode cX12_steerFrom 117 = .ok (.iload 7, 2) := by decide +kernel
theorem dX12_steerFrom_119 : decode cX12_steerFrom 119 = .ok (.aload_n 0, 1) := by decide +kernel
theorem dX12_steerFrom_120 : decode cX12_steerFrom 120 = .ok (.getfield 66, 3) := by decide +kernel
theorem dX12_steerFrom_123 : decode cX12_steerFrom 123 = .ok (.iload 7, 2) := by decide +kernel
theorem dX12_steerFrom_125 : decode cX12_steerFrom 125 = .ok (.iaload, 1) := by decide +kernel
theorem dX12_steerFrom_126 : decode cX12_steerFrom 126 = .ok (.iastore, 1) := by decide +kernel
theorem dX12_steerFrom_127 : decode cX12_steerFrom 127 = .ok (.iinc 7 1, 3) := by decide +kernel
theorem dX12_steerFrom_130 : decode cX12_steerFrom 130 = .ok (.goto (-23), 3) := by decide +kernel
theorem dX12_steerFrom_133 : decode cX12_steerFrom 133 = .ok (.iinc 5 1, 3) := by decide +kernel
theorem dX12_steerFrom_136 : decode cX12_steerFrom 136 = .ok (.goto (-115), 3) := by decide +kernel
theorem dX12_steerFrom_139 : decode cX12_steerFrom 139 = .ok (.return_, 1) := by decide +kernel
theorem dX12_steer_0 : decode cX12_steer 0 = .ok (.aload_n 0, 1) := by decide +kernel
theorem dX12_steer_1 : decode cX12_steer 1 = .ok (.iconst 0, 1) := by decide +kernel
theorem dX12_steer_2 : decode cX12_steer 2 = .ok (.putfield 90, 3) := by decide +kernel
theorem dX12_steer_5 : decode cX12_steer 5 = .ok (.aload_n 0, 1) := by decide +kernel
theorem dX12_steer_6 : decode cX12_steer 6 = .ok (.iconst 0, 1) := by decide +kernel
theorem dX12_steer_7 : decode cX12_steer 7 = .ok (.putfield 93, 3) := by decide +kernel
theorem dX12_steer_10 : decode cX12_steer 10 = .ok (.iload_n 1, 1) := by decide +kernel
theorem dX12_steer_11 : decode cX12_steer 11 = .ok (.i2l, 1) := by decide +kernel
theorem dX12_steer_12 : decode cX12_steer 12 = .ok (.lconst 0, 1) := by decide +kernel
theorem dX12_steer_13 : decode cX12_steer 13 = .ok (.ldc2_w 498, 3) := by decide +kernel
theorem dX12_steer_16 : decode cX12_steer 16 = .ok (.invokestatic 129, 3) := by decide +kernel
theorem dX12_steer_19 : decode cX12_steer 19 = .ok (.ifCond .ne 9, 3) := by decide +kernel
theorem dX12_steer_22 : decode cX12_steer 22 = .ok (.aload_n 0, 1) := by decide +kernel
theorem dX12_steer_23 : decode cX12_steer 23 = .ok (.iconst 5, 1) := by decide +kernel
theorem dX12_steer_24 : decode cX12_steer 24 = .ok (.invokevirtual 348, 3) := by decide +kernel
theorem dX12_steer_27 : decode cX12_steer 27 = .ok (.ireturn, 1) := by decide +kernel
theorem dX12_steer_28 : decode cX12_steer 28 = .ok (.aload_n 0, 1) := by decide +kernel
theorem dX12_steer_29 : decode cX12_steer 29 = .ok (.iconst (-1), 1) := by decide +kernel
theorem dX12_steer_30 : decode cX12_steer 30 = .ok (.putfield 510, 3) := by decide +kernel
theorem dX12_steer_33 : decode cX12_steer 33 = .ok (.aload_n 0, 1) := by decide +kernel
theorem dX12_steer_34 : decode cX12_steer 34 = .ok (.invokevirtual 403, 3) := by decide +kernel
theorem dX12_steer_37 : decode cX12_steer 37 = .ok (.ifCond .ne 18, 3) := by decide +kernel
theorem dX12_steer_40 : decode cX12_steer 40 = .ok (.aload_n 0, 1) := by decide +kernel
theorem dX12_steer_41 : decode cX12_steer 41 = .ok (.aload_n 0, 1) := by decide +kernel
theorem dX12_steer_42 : decode cX12_steer 42 = .ok (.getfield 35, 3) := by decide +kernel
theorem dX12_steer_45 : decode cX12_steer 45 = .ok (.iconst 2, 1) := by decide +kernel
theorem dX12_steer_46 : decode cX12_steer 46 = .ok (.iaload, 1) := by decide +kernel
theorem dX12_steer_47 : decode cX12_steer 47 = .ok (.iconst 1, 1) := by decide +kernel
theorem dX12_steer_48 : decode cX12_steer 48 = .ok (.isub, 1) := by decide +kernel
theorem dX12_steer_49 : decode cX12_steer 49 = .ok (.iconst 0, 1) := by decide +kernel
theorem dX12_steer_50 : decode cX12_steer 50 = .ok (.iconst 0, 1) := by decide +kernel
theorem dX12_steer_51 : decode cX12_steer 51 = .ok (.iload_n 1, 1) := by decide +kernel
theorem dX12_steer_52 : decode cX12_steer 52 = .ok (.invokevirtual 513, 3) := by decide +kernel
theorem dX12_steer_55 : decode cX12_steer 55 = .ok (.aload_n 0, 1) := by decide +kernel
theorem dX12_steer_56 : decode cX12_steer 56 = .ok (.getfield 510, 3) := by decide +kernel
theorem dX12_steer_59 : decode cX12_steer 59 = .ok (.ifCond .ge 10, 3) := by decide +kernel
theorem dX12_steer_62 : decode cX12_steer 62 = .ok (.aload_n 0, 1) := by decide +kernel
theorem dX12_steer_63 : decode cX12_steer 63 = .ok (.bipush 8, 2) := by decide +kernel
theorem dX12_steer_65 : decode cX12_steer 65 = .ok (.invokevirtual 348, 3) := by decide +kernel
theorem dX12_steer_68 : decode cX12_steer 68 = .ok (.ireturn, 1) := by decide +kernel
theorem dX12_steer_69 : decode cX12_steer 69 = .ok (.aload_n 0, 1) := by decide +kernel
theorem dX12_steer_70 : decode cX12_steer 70 = .ok (.aload_n 0, 1) := by decide +kernel
theorem dX12_steer_71 : decode cX12_steer 71 = .ok (.getfield 510, 3) := by decide +kernel
theorem dX12_steer_74 : decode cX12_steer 74 = .ok (.putfield 517, 3) := by decide +kernel
theorem dX12_steer_77 : decode cX12_steer 77 = .ok (.iconst 0, 1) := by decide +kernel
theorem dX12_steer_78 : decode cX12_steer 78 = .ok (.istore_n 2, 1) := by decide +kernel
theorem dX12_steer_79 : decode cX12_steer 79 = .ok (.iload_n 2, 1) := by decide +kernel
theorem dX12_steer_80 : decode cX12_steer 80 = .ok (.aload_n 0, 1) := by decide +kernel
theorem dX12_steer_81 : decode cX12_steer 81 = .ok (.getfield 510, 3) := by decide +kernel
theorem dX12_steer_84 : decode cX12_steer 84 = .ok (.if_icmp .ge 21, 3) := by decide +kernel
theorem dX12_steer_87 : decode cX12_steer 87 = .ok (.aload_n 0, 1) := by decide +kernel
theorem dX12_steer_88 : decode cX12_steer 88 = .ok (.getfield 69, 3) := by decide +kernel
theorem dX12_steer_91 : decode cX12_steer 91 = .ok (.iload_n 2, 1) := by decide +kernel
theorem dX12_steer_92 : decode cX12_steer 92 = .ok (.aload_n 0, 1) := by decide +kernel
theorem dX12_steer_93 : decode cX12_steer 93 = .ok (.getfield 72, 3) := by decide +kernel
theorem dX12_steer_96 : decode cX12_steer 96 = .ok (.iload_n 2, 1) := by decide +kernel
theorem dX12_steer_97 : decode cX12_steer 97 = .ok (.iaload, 1) := by decide +kernel
theorem dX12_steer_98 : decode cX12_steer 98 = .ok (.iastore, 1) := by decide +kernel
theorem dX12_steer_99 : decode cX12_steer 99 = .ok (.iinc 2 1, 3) := by decide +kernel
theorem dX12_steer_102 : decode cX12_steer 102 = .ok (.goto (-23), 3) := by decide +kernel
theorem dX12_steer_105 : decode cX12_steer 105 = .ok (.aload_n 0, 1) := by decide +kernel
theorem dX12_steer_106 : decode cX12_steer 106 = .ok (.getfield 510, 3) := by decide +kernel
theorem dX12_steer_109 : decode cX12_steer 109 = .ok (.ireturn, 1) := by decide +kernel
theorem dX12_steerAt_0 : decode cX12_steerAt 0 = .ok (.aload_n 0, 1) := by decide +kernel
theorem dX12_steerAt_1 : decode cX12_steerAt 1 = .ok (.iconst 0, 1) := by decide +kernel
theorem dX12_steerAt_2 : decode cX12_steerAt 2 = .ok (.putfield 90, 3) := by decide +kernel
theorem dX12_steerAt_5 : decode cX12_steerAt 5 = .ok (.aload_n 0, 1) := by decide +kernel
theorem dX12_steerAt_6 : decode cX12_steerAt 6 = .ok (.iconst 0, 1) := by decide +kernel
theorem dX12_steerAt_7 : decode cX12_steerAt 7 = .ok (.putfield 93, 3) := by decide +kernel
theorem dX12_steerAt_10 : decode cX12_steerAt 10 = .ok (.iload_n 1, 1) := by decide +kernel
theorem dX12_steerAt_11 : decode cX12_steerAt 11 = .ok (.i2l, 1) := by decide +kernel
theorem dX12_steerAt_12 : decode cX12_steerAt 12 = .ok (.lconst 0, 1) := by decide +kernel
theorem dX12_steerAt_13 : decode cX12_steerAt 13 = .ok (.aload_n 0, 1) := by decide +kernel
theorem dX12_steerAt_14 : decode cX12_steerAt 14 = .ok (.getfield 517, 3) := by decide +kernel
theorem dX12_steerAt_17 : decode cX12_steerAt 17 = .ok (.iconst 1, 1) := by decide +kernel
theorem dX12_steerAt_18 : decode cX12_steerAt 18 = .ok (.isub, 1) := by decide +kernel
theorem dX12_steerAt_19 : decode cX12_steerAt 19 = .ok (.i2l, 1) := by decide +kernel
theorem dX12_steerAt_20 : decode cX12_steerAt 20 = .ok (.invokestatic 129, 3) := by decide +kernel
theorem dX12_steerAt_23 : decode cX12_steerAt 23 = .ok (.ifCond .eq 12, 3) := by decide +kernel
theorem dX12_steerAt_26 : decode cX12_steerAt 26 = .ok (.aload_n 0, 1) := by decide +kernel
theorem dX12_steerAt_27 : decode cX12_steerAt 27 = .ok (.getfield 69, 3) := by decide +kernel
theorem dX12_steerAt_30 : decode cX12_steerAt 30 = .ok (.iload_n 1, 1) := by decide +kernel
theorem dX12_steerAt_31 : decode cX12_steerAt 31 = .ok (.iaload, 1) := by decide +kernel
theorem dX12_steerAt_32 : decode cX12_steerAt 32 = .ok (.goto 9, 3) := by decide +kernel
theorem dX12_steerAt_35 : decode cX12_steerAt 35 = .ok (.aload_n 0, 1) := by decide +kernel
theorem dX12_steerAt_36 : decode cX12_steerAt 36 = .ok (.bipush 8, 2) := by decide +kernel
theorem dX12_steerAt_38 : decode cX12_steerAt 38 = .ok (.invokevirtual 348, 3) := by decide +kernel
theorem dX12_steerAt_41 : decode cX12_steerAt 41 = .ok (.ireturn, 1) := by decide +kernel
theorem dX12_death_0 : decode cX12_death 0 = .ok (.aload_n 0, 1) := by decide +kernel
theorem dX12_death_1 : decode cX12_death 1 = .ok (.iconst 0, 1) := by decide +kernel
theorem dX12_death_2 : decode cX12_death 2 = .ok (.putfield 90, 3) := by decide +kernel
theorem dX12_death_5 : decode cX12_death 5 = .ok (.aload_n 0, 1) := by decide +kernel
theorem dX12_death_6 : decode cX12_death 6 = .ok (.iconst 0, 1) := by decide +kernel
theorem dX12_death_7 : decode cX12_death 7 = .ok (.putfield 93, 3) := by decide +kernel
theorem dX12_death_10 : decode cX12_death 10 = .ok (.iload_n 1, 1) := by decide +kernel
theorem dX12_death_11 : decode cX12_death 11 = .ok (.i2l, 1) := by decide +kernel
theorem dX12_death_12 : decode cX12_death 12 = .ok (.lconst 0, 1) := by decide +kernel
theorem dX12_death_13 : decode cX12_death 13 = .ok (.ldc2_w 498, 3) := by decide +kernel
theorem dX12_death_16 : decode cX12_death 16 = .ok (.invokestatic 129, 3) := by decide +kernel
theorem dX12_death_19 : decode cX12_death 19 = .ok (.ifCond .ne 9, 3) := by decide +kernel
theorem dX12_death_22 : decode cX12_death 22 = .ok (.aload_n 0, 1) := by decide +kernel
theorem dX12_death_23 : decode cX12_death 23 = .ok (.iconst 5, 1) := by decide +kernel
theorem dX12_death_24 : decode cX12_death 24 = .ok (.invokevirtual 348, 3) := by decide +kernel
theorem dX12_death_27 : decode cX12_death 27 = .ok (.ireturn, 1) := by decide +kernel
theorem dX12_death_28 : decode cX12_death 28 = .ok (.aload_n 0, 1) := by decide +kernel
theorem dX12_death_29 : decode cX12_death 29 = .ok (.iconst (-1), 1) := by decide +kernel
theorem dX12_death_30 : decode cX12_death 30 = .ok (.invokevirtual 503, 3) := by decide +kernel
theorem dX12_death_33 : decode cX12_death 33 = .ok (.aload_n 0, 1) := by decide +kernel
theorem dX12_death_34 : decode cX12_death 34 = .ok (.getfield 57, 3) := by decide +kernel
theorem dX12_death_37 : decode cX12_death 37 = .ok (.iload_n 1, 1) := by decide +kernel
theorem dX12_death_38 : decode cX12_death 38 = .ok (.laload, 1) := by decide +kernel
theorem dX12_death_39 : decode cX12_death 39 = .ok (.lstore_n 2, 1) := by decide +kernel
theorem dX12_death_40 : decode cX12_death 40 = .ok (.aload_n 0, 1) := by decide +kernel
theorem dX12_death_41 : decode cX12_death 41 = .ok (.getfield 489, 3) := by decide +kernel
theorem dX12_death_44 : decode cX12_death 44 = .ok (.lstore 4, 2) := by decide +kernel
theorem dX12_death_46 : decode cX12_death 46 = .ok (.iconst (-1), 1) := by decide +kernel
theorem dX12_death_47 : decode cX12_death 47 = .ok (.istore 6, 2) := by decide +kernel
theorem dX12_death_49 : decode cX12_death 49 = .ok (.lconst 0, 1) := by decide +kernel
theorem dX12_death_50 : decode cX12_death 50 = .ok (.lstore 7, 2) := by decide +kernel
theorem dX12_death_52 : decode cX12_death 52 = .ok (.iconst 0, 1) := by decide +kernel
theorem dX12_death_53 : decode cX12_death 53 = .ok (.istore 9, 2) := by decide +kernel
theorem dX12_death_55 : decode cX12_death 55 = .ok (.iload 9, 2) := by decide +kernel
theorem dX12_death_57 : decode cX12_death 57 = .ok (.aload_n 0, 1) := by decide +kernel
theorem dX12_death_58 : decode cX12_death 58 = .ok (.getfield 35, 3) := by decide +kernel
theorem dX12_death_61 : decode cX12_death 61 = .ok (.iconst 0, 1) := by decide +kernel
theorem dX12_death_62 : decode cX12_death 62 = .ok (.iaload, 1) := by decide +kernel
theorem dX12_death_63 : decode cX12_death 63 = .ok (.if_icmp .ge 96, 3) := by decide +kernel
theorem dX12_death_66 : decode cX12_death 66 = .ok (.aload_n 0, 1) := by decide +kernel
theorem dX12_death_67 : decode cX12_death 67 = .ok (.getfield 35, 3) := by decide +kernel
theorem dX12_death_70 : decode cX12_death 70 = .ok (.iconst 5, 1) := by decide +kernel
theorem dX12_death_71 : decode cX12_death 71 = .ok (.iaload, 1) := by decide +kernel
theorem dX12_death_72 : decode cX12_death 72 = .ok (.iload 9, 2) := by decide +kernel
theorem dX12_death_74 : decode cX12_death 74 = .ok (.invokestatic 373, 3) := by decide +kernel
theorem dX12_death_77 : decode cX12_death 77 = .ok (.ifCond .eq 6, 3) := by decide +kernel
theorem dX12_death_80 : decode cX12_death 80 = .ok (.goto 73, 3) := by decide +kernel
theorem dX12_death_83 : decode cX12_death 83 = .ok (.aload_n 0, 1) := by decide +kernel
theorem dX12_death_84 : decode cX12_death 84 = .ok (.getfield 35, 3) := by decide +kernel
theorem dX12_death_87 : decode cX12_death 87 = .ok (.iconst 5, 1) := by decide +kernel
theorem dX12_death_88 : decode cX12_death 88 = .ok (.dup2, 1) := by decide +kernel
theorem dX12_death_89 : decode cX12_death 89 = .ok (.iaload, 1) := by decide +kernel
theorem dX12_death_90 : decode cX12_death 90 = .ok (.iconst 1, 1) := by decide +kernel
theorem dX12_death_91 : decode cX12_death 91 = .ok (.iload 9, 2) := by decide +kernel
theorem dX12_death_93 : decode cX12_death 93 = .ok (.ishl, 1) := by decide +kernel
theorem dX12_death_94 : decode cX12_death 94 = .ok (.ior, 1) := by decide +kernel
theorem dX12_death_95 : decode cX12_death 95 = .ok (.iastore, 1) := by decide +kernel
theorem dX12_death_96 : decode cX12_death 96 = .ok (.aload_n 0, 1) := by decide +kernel
theorem dX12_death_97 : decode cX12_death 97 = .ok (.iconst (-1), 1) := by decide +kernel
theorem dX12_death_98 : decode cX12_death 98 = .ok (.invokevirtual 503, 3) := by decide +kernel
theorem dX12_death_101 : decode cX12_death 101 = .ok (.aload_n 0, 1) := by decide +kernel
theorem dX12_death_102 : decode cX12_death 102 = .ok (.getfield 35, 3) := by decide +kernel
theorem dX12_death_105 : decode cX12_death 105 = .ok (.iconst 5, 1) := by decide +kernel
theorem dX12_death_106 : decode cX12_death 106 = .ok (.dup2, 1) := by decide +kernel
theorem dX12_death_107 : decode cX12_death 107 = .ok (.iaload, 1) := by decide +kernel
theorem dX12_death_108 : decode cX12_death 108 = .ok (.iconst 1, 1) := by decide +kernel
theorem dX12_death_109 : decode cX12_death 109 = .ok (.iload 9, 2) := by decide +kernel
theorem dX12_death_111 : decode cX12_death 111 = .ok (.ishl, 1) := by decide +kernel
theorem dX12_death_112 : decode cX12_death 112 = .ok (.iconst (-1), 1) := by decide +kernel
theorem dX12_death_113 : decode cX12_death 113 = .ok (.ixor, 1) := by decide +kernel
theorem dX12_death_114 : decode cX12_death 114 = .ok (.iand, 1) := by decide +kernel
theorem dX12_death_115 : decode cX12_death 115 = .ok (.iastore, 1) := by decide +kernel
theorem dX12_death_116 : decode cX12_death 116 = .ok (.aload_n 0, 1) := by decide +kernel
theorem dX12_death_117 : decode cX12_death 117 = .ok (.getfield 57, 3) := by decide +kernel
theorem dX12_death_120 : decode cX12_death 120 = .ok (.iload_n 1, 1) := by decide +kernel
theorem dX12_death_121 : decode cX12_death 121 = .ok (.laload, 1) := by decide +kernel
theorem dX12_death_122 : decode cX12_death 122 = .ok (.lload_n 2, 1) := by decide +kernel
theorem dX12_death_123 : decode cX12_death 123 = .ok (.lsub, 1) := by decide +kernel
theorem dX12_death_124 : decode cX12_death 124 = .ok (.invokestatic 99, 3) := by decide +kernel
theorem dX12_death_127 : decode cX12_death 127 = .ok (.lload 7, 2) := by decide +kernel
theorem dX12_death_129 : decode cX12_death 129 = .ok (.lcmp, 1) := by decide +kernel
theorem dX12_death_130 : decode cX12_death 130 = .ok (.ifCond .gt 6, 3) := by decide +kernel
theorem dX12_death_133 : decode cX12_death 133 = .ok (.goto 20, 3) := by decide +kernel
theorem dX12_death_136 : decode cX12_death 136 = .ok (.aload_n 0, 1) := by decide +kernel
theorem dX12_death_137 : decode cX12_death 137 = .ok (.getfield 57, 3) := by decide +kernel
theorem dX12_death_140 : decode cX12_death 140 = .ok (.iload_n 1, 1) := by decide +kernel
theorem dX12_death_141 : decode cX12_death 141 = .ok (.laload, 1) := by decide +kernel
theorem dX12_death_142 : decode cX12_death 142 = .ok (.lload_n 2, 1) := by decide +kernel
theorem dX12_death_143 : decode cX12_death 143 = .ok (.lsub, 1) := by decide +kernel
theorem dX12_death_144 : decode cX12_death 144 = .ok (.invokestatic 99, 3) := by decide +kernel
theorem dX12_death_147 : decode cX12_death 147 = .ok (.lstore 7, 2) := by decide +kernel
theorem dX12_death_149 : decode cX12_death 149 = .ok (.iload 9, 2) := by decide +kernel
theorem dX12_death_151 : decode cX12_death 151 = .ok (.istore 6, 2) := by decide +kernel
theorem dX12_death_153 : decode cX12_death 153 = .ok (.iinc 9 1, 3) := by decide +kernel
theorem dX12_death_156 : decode cX12_death 156 = .ok (.goto (-101), 3) := by decide +kernel
theorem dX12_death_159 : decode cX12_death 159 = .ok (.iload 6, 2) := by decide +kernel
theorem dX12_death_161 : decode cX12_death 161 = .ok (.ifCond .ge 10, 3) := by decide +kernel
theorem dX12_death_164 : decode cX12_death 164 = .ok (.aload_n 0, 1) := by decide +kernel
theorem dX12_death_165 : decode cX12_death 165 = .ok (.bipush 8, 2) := by decide +kernel
theorem dX12_death_167 : decode cX12_death 167 = .ok (.invokevirtual 348, 3) := by decide +kernel
theorem dX12_death_170 : decode cX12_death 170 = .ok (.ireturn, 1) := by decide +kernel
theorem dX12_death_171 : decode cX12_death 171 = .ok (.aload_n 0, 1) := by decide +kernel
theorem dX12_death_172 : decode cX12_death 172 = .ok (.lload 7, 2) := by decide +kernel
theorem dX12_death_174 : decode cX12_death 174 = .ok (.lload 4, 2) := by decide +kernel
theorem dX12_death_176 : decode cX12_death 176 = .ok (.invokevirtual 506, 3) := by decide +kernel
theorem dX12_death_179 : decode cX12_death 179 = .ok (.pop, 1) := by decide +kernel
theorem dX12_death_180 : decode cX12_death 180 = .ok (.iload 6, 2) := by decide +kernel
theorem dX12_death_182 : decode cX12_death 182 = .ok (.ireturn, 1) := by decide +kernel
theorem dX12_breathsFor_0 : decode cX12_breathsFor 0 = .ok (.iconst 0, 1) := by decide +kernel
theorem dX12_breathsFor_1 : decode cX12_breathsFor 1 = .ok (.istore_n 3, 1) := by decide +kernel
theorem dX12_breathsFor_2 : decode cX12_breathsFor 2 = .ok (.iconst 0, 1) := by decide +kernel
theorem dX12_breathsFor_3 : decode cX12_breathsFor 3 = .ok (.istore 4, 2) := by decide +kernel
theorem dX12_breathsFor_5 : decode cX12_breathsFor 5 = .ok (.iload 4, 2) := by decide +kernel
theorem dX12_breathsFor_7 : decode cX12_breathsFor 7 = .ok (.aload_n 0, 1) := by decide +kernel
theorem dX12_breathsFor_8 : decode cX12_breathsFor 8 = .ok (.getfield 35, 3) := by decide +kernel
theorem dX12_breathsFor_11 : decode cX12_breathsFor 11 = .ok (.iconst 2, 1) := by decide +kernel
theorem dX12_breathsFor_12 : decode cX12_breathsFor 12 = .ok (.iaload, 1) := by decide +kernel
theorem dX12_breathsFor_13 : decode cX12_breathsFor 13 = .ok (.if_icmp .ge 43, 3) := by decide +kernel
theorem dX12_breathsFor_16 : decode cX12_breathsFor 16 = .ok (.iload_n 3, 1) := by decide +kernel
theorem dX12_breathsFor_17 : decode cX12_breathsFor 17 = .ok (.aload_n 0, 1) := by decide +kernel
theorem dX12_breathsFor_18 : decode cX12_breathsFor 18 = .ok (.getfield 35, 3) := by decide +kernel
theorem dX12_breathsFor_21 : decode cX12_breathsFor 21 = .ok (.bipush 37, 2) := by decide +kernel
theorem dX12_breathsFor_23 : decode cX12_breathsFor 23 = .ok (.iload 4, 2) := by decide +kernel
theorem dX12_breathsFor_25 : decode cX12_breathsFor 25 = .ok (.iadd, 1) := by decide +kernel
theorem dX12_breathsFor_26 : decode cX12_breathsFor 26 = .ok (.iaload, 1) := by decide +kernel
theorem dX12_breathsFor_27 : decode cX12_breathsFor 27 = .ok (.iload_n 1, 1) := by decide +kernel
theorem dX12_breathsFor_28 : decode cX12_breathsFor 28 = .ok (.invokestatic 373, 3) := by decide +kernel
theorem dX12_breathsFor_31 : decode cX12_breathsFor 31 = .ok (.ifCond .eq 16, 3) := by decide +kernel
theorem dX12_breathsFor_34 : decode cX12_breathsFor 34 = .ok (.aload_n 0, 1) := by decide +kernel
theorem dX12_breathsFor_35 : decode cX12_breathsFor 35 = .ok (.getfield 35, 3) := by decide +kernel
theorem dX12_breathsFor_38 : decode cX12_breathsFor 38 = .ok (.bipush 25, 2) := by decide +kernel
theorem dX12_breathsFor_40 : decode cX12_breathsFor 40 = .ok (.iload 4, 2) := by decide +kernel
theorem dX12_breathsFor_42 : decode cX12_breathsFor 42 = .ok (.iadd, 1) := by decide +kernel
theorem dX12_breathsFor_43 : decode cX12_breathsFor 43 = .ok (.iaload, 1) := by decide +kernel
theorem dX12_breathsFor_44 : decode cX12_breathsFor 44 = .ok (.goto 4, 3) := by decide +kernel
theorem dX12_breathsFor_47 : decode cX12_breathsFor 47 = .ok (.iconst 0, 1) := by decide +kernel
theorem dX12_breathsFor_48 : decode cX12_breathsFor 48 = .ok (.iadd, 1) := by decide +kernel
theorem dX12_breathsFor_49 : decode cX12_breathsFor 49 = .ok (.istore_n 3, 1) := by decide +kernel
theorem dX12_breathsFor_50 : decode cX12_breathsFor 50 = .ok (.iinc 4 1, 3) := by decide +kernel
theorem dX12_breathsFor_53 : decode cX12_breathsFor 53 = .ok (.goto (-48), 3) := by decide +kernel
theorem dX12_breathsFor_56 : decode cX12_breathsFor 56 = .ok (.iload_n 3, 1) := by decide +kernel
theorem dX12_breathsFor_57 : decode cX12_breathsFor 57 = .ok (.iload_n 2, 1) := by decide +kernel
theorem dX12_breathsFor_58 : decode cX12_breathsFor 58 = .ok (.imul, 1) := by decide +kernel
theorem dX12_breathsFor_59 : decode cX12_breathsFor 59 = .ok (.ireturn, 1) := by decide +kernel
theorem dX12_isInScene_0 : decode cX12_isInScene 0 = .ok (.iconst 0, 1) := by decide +kernel
theorem dX12_isInScene_1 : decode cX12_isInScene 1 = .ok (.istore_n 2, 1) := by decide +kernel
theorem dX12_isInScene_2 : decode cX12_isInScene 2 = .ok (.iload_n 2, 1) := by decide +kernel
theorem dX12_isInScene_3 : decode cX12_isInScene 3 = .ok (.aload_n 0, 1) := by decide +kernel
theorem dX12_isInScene_4 : decode cX12_isInScene 4 = .ok (.getfield 35, 3) := by decide +kernel
theorem dX12_isInScene_7 : decode cX12_isInScene 7 = .ok (.iconst 2, 1) := by decide +kernel
theorem dX12_isInScene_8 : decode cX12_isInScene 8 = .ok (.iaload, 1) := by decide +kernel
theorem dX12_isInScene_9 : decode cX12_isInScene 9 = .ok (.if_icmp .ge 27, 3) := by decide +kernel
theorem dX12_isInScene_12 : decode cX12_isInScene 12 = .ok (.aload_n 0, 1) := by decide +kernel
theorem dX12_isInScene_13 : decode cX12_isInScene 13 = .ok (.getfield 35, 3) := by decide +kernel
theorem dX12_isInScene_16 : decode cX12_isInScene 16 = .ok (.bipush 37, 2) := by decide +kernel
theorem dX12_isInScene_18 : decode cX12_isInScene 18 = .ok (.iload_n 2, 1) := by decide +kernel
theorem dX12_isInScene_19 : decode cX12_isInScene 19 = .ok (.iadd, 1) := by decide +kernel
theorem dX12_isInScene_20 : decode cX12_isInScene 20 = .ok (.iaload, 1) := by decide +kernel
theorem dX12_isInScene_21 : decode cX12_isInScene 21 = .ok (.iload_n 1, 1) := by decide +kernel
theorem dX12_isInScene_22 : decode cX12_isInScene 22 = .ok (.invokestatic 373, 3) := by decide +kernel
theorem dX12_isInScene_25 : decode cX12_isInScene 25 = .ok (.ifCond .eq 5, 3) := by decide +kernel
theorem dX12_isInScene_28 : decode cX12_isInScene 28 = .ok (.iconst 1, 1) := by decide +kernel
theorem dX12_isInScene_29 : decode cX12_isInScene 29 = .ok (.ireturn, 1) := by decide +kernel
theorem dX12_isInScene_30 : decode cX12_isInScene 30 = .ok (.iinc 2 1, 3) := by decide +kernel
theorem dX12_isInScene_33 : decode cX12_isInScene 33 = .ok (.goto (-31), 3) := by decide +kernel
theorem dX12_isInScene_36 : decode cX12_isInScene 36 = .ok (.iconst 0, 1) := by decide +kernel
theorem dX12_isInScene_37 : decode cX12_isInScene 37 = .ok (.ireturn, 1) := by decide +kernel
theorem dX12_areTogether_0 : decode cX12_areTogether 0 = .ok (.iconst 0, 1) := by decide +kernel
theorem dX12_areTogether_1 : decode cX12_areTogether 1 = .ok (.istore_n 3, 1) := by decide +kernel
theorem dX12_areTogether_2 : decode cX12_areTogether 2 = .ok (.iload_n 3, 1) := by decide +kernel
theorem dX12_areTogether_3 : decode cX12_areTogether 3 = .ok (.aload_n 0, 1) := by decide +kernel
theorem dX12_areTogether_4 : decode cX12_areTogether 4 = .ok (.getfield 35, 3) := by decide +kernel
theorem dX12_areTogether_7 : decode cX12_areTogether 7 = .ok (.iconst 2, 1) := by decide +kernel
theorem dX12_areTogether_8 : decode cX12_areTogether 8 = .ok (.iaload, 1) := by decide +kernel
theorem dX12_areTogether_9 : decode cX12_areTogether 9 = .ok (.if_icmp .ge 43, 3) := by decide +kernel
theorem dX12_areTogether_12 : decode cX12_areTogether 12 = .ok (.aload_n 0, 1) := by decide +kernel
theorem dX12_areTogether_13 : decode cX12_areTogether 13 = .ok (.getfield 35, 3) := by decide +kernel
theorem dX12_areTogether_16 : decode cX12_areTogether 16 = .ok (.bipush 37, 2) := by decide +kernel
theorem dX12_areTogether_18 : decode cX12_areTogether 18 = .ok (.iload_n 3, 1) := by decide +kernel
theorem dX12_areTogether_19 : decode cX12_areTogether 19 = .ok (.iadd, 1) := by decide +kernel
theorem dX12_areTogether_20 : decode cX12_areTogether 20 = .ok (.iaload, 1) := by decide +kernel
theorem dX12_areTogether_21 : decode cX12_areTogether 21 = .ok (.iload_n 1, 1) := by decide +kernel
theorem dX12_areTogether_22 : decode cX12_areTogether 22 = .ok (.invokestatic 373, 3) := by decide +kernel
theorem dX12_areTogether_25 : decode cX12_areTogether 25 = .ok (.ifCond .eq 21, 3) := by decide +kernel
theorem dX12_areTogether_28 : decode cX12_areTogether 28 = .ok (.aload_n 0, 1) := by decide +kernel
theorem dX12_areTogether_29 : decode cX12_areTogether 29 = .ok (.getfield 35, 3) := by decide +kernel
theorem dX12_areTogether_32 : decode cX12_areTogether 32 = .ok (.bipush 37, 2) := by decide +kernel
theorem dX12_areTogether_34 : decode cX12_areTogether 34 = .ok (.iload_n 3, 1) := by decide +kernel
theorem dX12_areTogether_35 : decode cX12_areTogether 35 = .ok (.iadd, 1) := by decide +kernel
theorem dX12_areTogether_36 : decode cX12_areTogether 36 = .ok (.iaload, 1) := by decide +kernel
theorem dX12_areTogether_37 : decode cX12_areTogether 37 = .ok (.iload_n 2, 1) := by decide +kernel
theorem dX12_areTogether_38 : decode cX12_areTogether 38 = .ok (.invokestatic 373, 3) := by decide +kernel
theorem dX12_areTogether_41 : decode cX12_areTogether 41 = .ok (.ifCond .eq 5, 3) := by decide +kernel
theorem dX12_areTogether_44 : decode cX12_areTogether 44 = .ok (.iconst 1, 1) := by decide +kernel
theorem dX12_areTogether_45 : decode cX12_areTogether 45 = .ok (.ireturn, 1) := by decide +kernel
theorem dX12_areTogether_46 : decode cX12_areTogether 46 = .ok (.iinc 3 1, 3) := by decide +kernel
theorem dX12_areTogether_49 : decode cX12_areTogether 49 = .ok (.goto (-47), 3) := by decide +kernel
theorem dX12_areTogether_52 : decode cX12_areTogether 52 = .ok (.iconst 0, 1) := by decide +kernel
theorem dX12_areTogether_53 : decode cX12_areTogether 53 = .ok (.ireturn, 1) := by decide +kernel
theorem dX12_canTake_0 : decode cX12_canTake 0 = .ok (.aload_n 0, 1) := by decide +kernel
theorem dX12_canTake_1 : decode cX12_canTake 1 = .ok (.getfield 35, 3) := by decide +kernel
theorem dX12_canTake_4 : decode cX12_canTake 4 = .ok (.bipush 19, 2) := by decide +kernel
theorem dX12_canTake_6 : decode cX12_canTake 6 = .ok (.iload_n 1, 1) := by decide +kernel
theorem dX12_canTake_7 : decode cX12_canTake 7 = .ok (.iadd, 1) := by decide +kernel
theorem dX12_canTake_8 : decode cX12_canTake 8 = .ok (.iaload, 1) := by decide +kernel
theorem dX12_canTake_9 : decode cX12_canTake 9 = .ok (.iload_n 2, 1) := by decide +kernel
theorem dX12_canTake_10 : decode cX12_canTake 10 = .ok (.invokestatic 373, 3) := by decide +kernel
theorem dX12_canTake_13 : decode cX12_canTake 13 = .ok (.ifCond .eq 5, 3) := by decide +kernel
theorem dX12_canTake_16 : decode cX12_canTake 16 = .ok (.iconst 0, 1) := by decide +kernel
theorem dX12_canTake_17 : decode cX12_canTake 17 = .ok (.ireturn, 1) := by decide +kernel
theorem dX12_canTake_18 : decode cX12_canTake 18 = .ok (.aload_n 0, 1) := by decide +kernel
theorem dX12_canTake_19 : decode cX12_canTake 19 = .ok (.getfield 84, 3) := by decide +kernel
theorem dX12_canTake_22 : decode cX12_canTake 22 = .ok (.iload_n 2, 1) := by decide +kernel
theorem dX12_canTake_23 : decode cX12_canTake 23 = .ok (.iaload, 1) := by decide +kernel
theorem dX12_canTake_24 : decode cX12_canTake 24 = .ok (.istore_n 3, 1) := by decide +kernel
theorem dX12_canTake_25 : decode cX12_canTake 25 = .ok (.iconst 0, 1) := by decide +kernel
theorem dX12_canTake_26 : decode cX12_canTake 26 = .ok (.istore 4, 2) := by decide +kernel
theorem dX12_canTake_28 : decode cX12_canTake 28 = .ok (.iload 4, 2) := by decide +kernel
theorem dX12_canTake_30 : decode cX12_canTake 30 = .ok (.iload_n 2, 1) := by decide +kernel
theorem dX12_canTake_31 : decode cX12_canTake 31 = .ok (.if_icmp .ge 45, 3) := by decide +kernel
theorem dX12_canTake_34 : decode cX12_canTake 34 = .ok (.aload_n 0, 1) := by decide +kernel
theorem dX12_canTake_35 : decode cX12_canTake 35 = .ok (.getfield 75, 3) := by decide +kernel
theorem dX12_canTake_38 : decode cX12_canTake 38 = .ok (.iload 4, 2) := by decide +kernel
theorem dX12_canTake_40 : decode cX12_canTake 40 = .ok (.iaload, 1) := by decide +kernel
theorem dX12_canTake_41 : decode cX12_canTake 41 = .ok (.iload_n 1, 1) := by decide +kernel
theorem dX12_canTake_42 : decode cX12_canTake 42 = .ok (.if_icmp .eq 6, 3) := by decide +kernel
theorem dX12_canTake_45 : decode cX12_canTake 45 = .ok (.goto 25, 3) := by decide +kernel
theorem dX12_canTake_48 : decode cX12_canTake 48 = .ok (.aload_n 0, 1) := by decide +kernel
theorem dX12_canTake_49 : decode cX12_canTake 49 = .ok (.iload 4, 2) := by decide +kernel
theorem dX12_canTake_51 : decode cX12_canTake 51 = .ok (.iload_n 2, 1) := by decide +kernel
theorem dX12_canTake_52 : decode cX12_canTake 52 = .ok (.invokevirtual 520, 3) := by decide +kernel
theorem dX12_canTake_55 : decode cX12_canTake 55 = .ok (.ifCond .eq 5, 3) := by decide +kernel
theorem dX12_canTake_58 : decode cX12_canTake 58 = .ok (.iconst 0, 1) := by decide +kernel
theorem dX12_canTake_59 : decode cX12_canTake 59 = .ok (.ireturn, 1) := by decide +kernel
theorem dX12_canTake_60 : decode cX12_canTake 60 = .ok (.iload_n 3, 1) := by decide +kernel
theorem dX12_canTake_61 : decode cX12_canTake 61 = .ok (.aload_n 0, 1) := by decide +kernel
theorem dX12_canTake_62 : decode cX12_canTake 62 = .ok (.getfield 84, 3) := by decide +kernel
theorem dX12_canTake_65 : decode cX12_canTake 65 = .ok (.iload 4, 2) := by decide +kernel
theorem dX12_canTake_67 : decode cX12_canTake 67 = .ok (.iaload, 1) := by decide +kernel
theorem dX12_canTake_68 : decode cX12_canTake 68 = .ok (.iadd, 1) := by decide +kernel
theorem dX12_canTake_69 : decode cX12_canTake 69 = .ok (.istore_n 3, 1) := by decide +kernel
theorem dX12_canTake_70 : decode cX12_canTake 70 = .ok (.iinc 4 1, 3) := by decide +kernel
theorem dX12_canTake_73 : decode cX12_canTake 73 = .ok (.goto (-45), 3) := by decide +kernel
theorem dX12_canTake_76 : decode cX12_canTake 76 = .ok (.iload_n 3, 1) := by decide +kernel
theorem dX12_canTake_77 : decode cX12_canTake 77 = .ok (.aload_n 0, 1) := by decide +kernel
theorem dX12_canTake_78 : decode cX12_canTake 78 = .ok (.getfield 35, 3) := by decide +kernel
theorem dX12_canTake_81 : decode cX12_canTake 81 = .ok (.bipush 13, 2) := by decide +kernel
theorem dX12_canTake_83 : decode cX12_canTake 83 = .ok (.iload_n 1, 1) := by decide +kernel
theorem dX12_canTake_84 : decode cX12_canTake 84 = .ok (.iadd, 1) := by decide +kernel
theorem dX12_canTake_85 : decode cX12_canTake 85 = .ok (.iaload, 1) := by decide +kernel
theorem dX12_canTake_86 : decode cX12_canTake 86 = .ok (.if_icmp .gt 7, 3) := by decide +kernel
theorem dX12_canTake_89 : decode cX12_canTake 89 = .ok (.iconst 1, 1) := by decide +kernel
theorem dX12_canTake_90 : decode cX12_canTake 90 = .ok (.goto 4, 3) := by decide +kernel
theorem dX12_canTake_93 : decode cX12_canTake 93 = .ok (.iconst 0, 1) := by decide +kernel
theorem dX12_canTake_94 : decode cX12_canTake 94 = .ok (.ireturn, 1) := by decide +kernel
theorem dX12_casts_0 : decode cX12_casts 0 = .ok (.aload_n 0, 1) := by decide +kernel
theorem dX12_casts_1 : decode cX12_casts 1 = .ok (.getfield 523, 3) := by decide +kernel
theorem dX12_casts_4 : decode cX12_casts 4 = .ok (.ifCond .lt 12, 3) := by decide +kernel
theorem dX12_casts_7 : decode cX12_casts 7 = .ok (.iload_n 2, 1) := by decide +kernel
theorem dX12_casts_8 : decode cX12_casts 8 = .ok (.aload_n 0, 1) := by decide +kernel
theorem dX12_casts_9 : decode cX12_casts 9 = .ok (.getfield 523, 3) := by decide +kernel
theorem dX12_casts_12 : decode cX12_casts 12 = .ok (.if_icmp .lt 4, 3) := by decide +kernel
theorem dX12_casts_15 : decode cX12_casts 15 = .ok (.return_, 1) := by decide +kernel
theorem dX12_casts_16 : decode cX12_casts 16 = .ok (.iload_n 1, 1) := by decide +kernel
theorem dX12_casts_17 : decode cX12_casts 17 = .ok (.aload_n 0, 1) := by decide +kernel
theorem dX12_casts_18 : decode cX12_casts 18 = .ok (.getfield 35, 3) := by decide +kernel
theorem dX12_casts_21 : decode cX12_casts 21 = .ok (.iconst 0, 1) := by decide +kernel
theorem dX12_casts_22 : decode cX12_casts 22 = .ok (.iaload, 1) := by decide +kernel
theorem dX12_casts_23 : decode cX12_casts 23 = .ok (.if_icmp .ne 44, 3) := by decide +kernel
theorem dX12_casts_26 : decode cX12_casts 26 = .ok (.aload_n 0, 1) := by decide +kernel
theorem dX12_casts_27 : decode cX12_casts 27 = .ok (.iload_n 2, 1) := by decide +kernel
theorem dX12_casts_28 : decode cX12_casts 28 = .ok (.putfield 523, 3) := by decide +kernel
theorem dX12_casts_31 : decode cX12_casts 31 = .ok (.iconst 0, 1) := by decide +kernel
theorem dX12_casts_32 : decode cX12_casts 32 = .ok (.istore_n 3, 1) := by decide +kernel
theorem dX12_casts_33 : decode cX12_casts 33 = .ok (.iload_n 3, 1) := by decide +kernel
theorem dX12_casts_34 : decode cX12_casts 34 = .ok (.bipush 6, 2) := by decide +kernel
theorem dX12_casts_36 : decode cX12_casts 36 = .ok (.if_icmp .ge 30, 3) := by decide +kernel
theorem dX12_casts_39 : decode cX12_casts 39 = .ok (.aload_n 0, 1) := by decide +kernel
theorem dX12_casts_40 : decode cX12_casts 40 = .ok (.getfield 78, 3) := by decide +kernel
theorem dX12_casts_43 : decode cX12_casts 43 = .ok (.iload_n 3, 1) := by decide +kernel
theorem dX12_casts_44 : decode cX12_casts 44 = .ok (.iload_n 3, 1) := by decide +kernel
theorem dX12_casts_45 : decode cX12_casts 45 = .ok (.iload_n 1, 1) := by decide +kernel
theorem dX12_casts_46 : decode cX12_casts 46 = .ok (.if_icmp .ge 12, 3) := by decide +kernel
theorem dX12_casts_49 : decode cX12_casts 49 = .ok (.aload_n 0, 1) := by decide +kernel
theorem dX12_casts_50 : decode cX12_casts 50 = .ok (.getfield 75, 3) := by decide +kernel
theorem dX12_casts_53 : decode cX12_casts 53 = .ok (.iload_n 3, 1) := by decide +kernel
theorem dX12_casts_54 : decode cX12_casts 54 = .ok (.iaload, 1) := by decide +kernel
theorem dX12_casts_55 : decode cX12_casts 55 = .ok (.goto 4, 3) := by decide +kernel
theorem dX12_casts_58 : decode cX12_casts 58 = .ok (.iconst (-1), 1) := by decide +kernel
theorem dX12_casts_59 : decode cX12_casts 59 = .ok (.iastore, 1) := by decide +kernel
theorem dX12_casts_60 : decode cX12_casts 60 = .ok (.iinc 3 1, 3) := by decide +kernel
theorem dX12_casts_63 : decode cX12_casts 63 = .ok (.goto (-30), 3) := by decide +kernel
theorem dX12_casts_66 : decode cX12_casts 66 = .ok (.return_, 1) := by decide +kernel
theorem dX12_casts_67 : decode cX12_casts 67 = .ok (.aload_n 0, 1) := by decide +kernel
theorem dX12_casts_68 : decode cX12_casts 68 = .ok (.getfield 75, 3) := by decide +kernel
theorem dX12_casts_71 : decode cX12_casts 71 = .ok (.iload_n 1, 1) := by decide +kernel
theorem dX12_casts_72 : decode cX12_casts 72 = .ok (.iconst (-1), 1) := by decide +kernel
theorem dX12_casts_73 : decode cX12_casts 73 = .ok (.iastore, 1) := by decide +kernel
theorem dX12_casts_74 : decode cX12_casts 74 = .ok (.aload_n 0, 1) := by decide +kernel
theorem dX12_casts_75 : decode cX12_casts 75 = .ok (.iload_n 1, 1) := by decide +kernel
theorem dX12_casts_76 : decode cX12_casts 76 = .ok (.invokevirtual 526, 3) := by decide +kernel
theorem dX12_casts_79 : decode cX12_casts 79 = .ok (.ifCond .ne 12, 3) := by decide +kernel
theorem dX12_casts_82 : decode cX12_casts 82 = .ok (.aload_n 0, 1) := by decide +kernel
theorem dX12_casts_83 : decode cX12_casts 83 = .ok (.iload_n 1, 1) := by decide +kernel
theorem dX12_casts_84 : decode cX12_casts 84 = .ok (.iconst 1, 1) := by decide +kernel
theorem dX12_casts_85 : decode cX12_casts 85 = .ok (.iadd, 1) := by decide +kernel
theorem dX12_casts_86 : decode cX12_casts 86 = .ok (.iload_n 2, 1) := by decide +kernel
theorem dX12_casts_87 : decode cX12_casts 87 = .ok (.invokevirtual 529, 3) := by decide +kernel
theorem dX12_casts_90 : decode cX12_casts 90 = .ok (.return_, 1) := by decide +kernel
theorem dX12_casts_91 : decode cX12_casts 91 = .ok (.iconst 0, 1) := by decide +kernel
theorem dX12_casts_92 : decode cX12_casts 92 = .ok (.istore_n 3, 1) := by decide +kernel
theorem dX12_casts_93 : decode cX12_casts 93 = .ok (.iload_n 3, 1) := by decide +kernel
theorem dX12_casts_94 : decode cX12_casts 94 = .ok (.aload_n 0, 1) := by decide +kernel
theorem dX12_casts_95 : decode cX12_casts 95 = .ok (.getfield 35, 3) := by decide +kernel
theorem dX12_casts_98 : decode cX12_casts 98 = .ok (.iconst 1, 1) := by decide +kernel
theorem dX12_casts_99 : decode cX12_casts 99 = .ok (.iaload, 1) := by decide +kernel
theorem dX12_casts_100 : decode cX12_casts 100 = .ok (.if_icmp .ge 60, 3) := by decide +kernel
theorem dX12_casts_103 : decode cX12_casts 103 = .ok (.aload_n 0, 1) := by decide +kernel
theorem dX12_casts_104 : decode cX12_casts 104 = .ok (.getfield 75, 3) := by decide +kernel
theorem dX12_casts_107 : decode cX12_casts 107 = .ok (.iload_n 1, 1) := by decide +kernel
theorem dX12_casts_108 : decode cX12_casts 108 = .ok (.iconst (-1), 1) := by decide +kernel
theorem dX12_casts_109 : decode cX12_casts 109 = .ok (.iastore, 1) := by decide +kernel
theorem dX12_casts_110 : decode cX12_casts 110 = .ok (.aload_n 0, 1) := by decide +kernel
theorem dX12_casts_111 : decode cX12_casts 111 = .ok (.iload_n 3, 1) := by decide +kernel
theorem dX12_casts_112 : decode cX12_casts 112 = .ok (.iload_n 1, 1) := by decide +kernel
theorem dX12_casts_113 : decode cX12_casts 113 = .ok (.invokevirtual 532, 3) := by decide +kernel
theorem dX12_casts_116 : decode cX12_casts 116 = .ok (.ifCond .ne 6, 3) := by decide +kernel
theorem dX12_casts_119 : decode cX12_casts 119 = .ok (.goto 35, 3) := by decide +kernel
theorem dX12_casts_122 : decode cX12_casts 122 = .ok (.aload_n 0, 1) := by decide +kernel
theorem dX12_casts_123 : decode cX12_casts 123 = .ok (.getfield 75, 3) := by decide +kernel
theorem dX12_casts_126 : decode cX12_casts 126 = .ok (.iload_n 1, 1) := by decide +kernel
theorem dX12_casts_127 : decode cX12_casts 127 = .ok (.iload_n 3, 1) := by decide +kernel
theorem dX12_casts_128 : decode cX12_casts 128 = .ok (.iastore, 1) := by decide +kernel
theorem dX12_casts_129 : decode cX12_casts 129 = .ok (.aload_n 0, 1) := by decide +kernel
theorem dX12_casts_130 : decode cX12_casts 130 = .ok (.iload_n 1, 1) := by decide +kernel
theorem dX12_casts_131 : decode cX12_casts 131 = .ok (.iconst 1, 1) := by decide +kernel
theorem dX12_casts_132 : decode cX12_casts 132 = .ok (.iadd, 1) := by decide +kernel
theorem dX12_casts_133 : decode cX12_casts 133 = .ok (.iload_n 2, 1) := by decide +kernel
theorem dX12_casts_134 : decode cX12_casts 134 = .ok (.aload_n 0, 1) := by decide +kernel
theorem dX12_casts_135 : decode cX12_casts 135 = .ok (.getfield 84, 3) := by decide +kernel
theorem dX12_casts_138 : decode cX12_casts 138 = .ok (.iload_n 1, 1) := by decide +kernel
theorem dX12_casts_139 : decode cX12_casts 139 = .ok (.iaload, 1) := by decide +kernel
theorem dX12_casts_140 : decode cX12_casts 140 = .ok (.aload_n 0, 1) := by decide +kernel
theorem dX12_casts_141 : decode cX12_casts 141 = .ok (.getfield 35, 3) := by decide +kernel
theorem dX12_casts_144 : decode cX12_casts 144 = .ok (.bipush 7, 2) := by decide +kernel
theorem dX12_casts_146 : decode cX12_casts 146 = .ok (.iload_n 3, 1) := by decide +kernel
theorem dX12_casts_147 : decode cX12_casts 147 = .ok (.iadd, 1) := by decide +kernel
theorem dX12_casts_148 : decode cX12_casts 148 = .ok (.iaload, 1) := by decide +kernel
theorem dX12_casts_149 : decode cX12_casts 149 = .ok (.imul, 1) := by decide +kernel
theorem dX12_casts_150 : decode cX12_casts 150 = .ok (.iadd, 1) := by decide +kernel
theorem dX12_casts_151 : decode cX12_casts 151 = .ok (.invokevirtual 529, 3) := by decide +kernel
theorem dX12_casts_154 : decode cX12_casts 154 = .ok (.iinc 3 1, 3) := by decide +kernel
theorem dX12_casts_157 : decode cX12_casts 157 = .ok (.goto (-64), 3) := by decide +kernel
theorem dX12_casts_160 : decode cX12_casts 160 = .ok (.aload_n 0, 1) := by decide +kernel
theorem dX12_casts_161 : decode cX12_casts 161 = .ok (.getfield 75, 3) := by decide +kernel
theorem dX12_casts_164 : decode cX12_casts 164 = .ok (.iload_n 1, 1) := by decide +kernel
theorem dX12_casts_165 : decode cX12_casts 165 = .ok (.iconst (-1), 1) := by decide +kernel
theorem dX12_casts_166 : decode cX12_casts 166 = .ok (.iastore, 1) := by decide +kernel
theorem dX12_casts_167 : decode cX12_casts 167 = .ok (.return_, 1) := by decide +kernel
theorem dX12_cast_0 : decode cX12_cast 0 = .ok (.aload_n 0, 1) := by decide +kernel
theorem dX12_cast_1 : decode cX12_cast 1 = .ok (.iconst 0, 1) := by decide +kernel
theorem dX12_cast_2 : decode cX12_cast 2 = .ok (.putfield 90, 3) := by decide +kernel
theorem dX12_cast_5 : decode cX12_cast 5 = .ok (.aload_n 0, 1) := by decide +kernel
theorem dX12_cast_6 : decode cX12_cast 6 = .ok (.iconst 0, 1) := by decide +kernel
theorem dX12_cast_7 : decode cX12_cast 7 = .ok (.putfield 93, 3) := by decide +kernel
theorem dX12_cast_10 : decode cX12_cast 10 = .ok (.iload_n 1, 1) := by decide +kernel
theorem dX12_cast_11 : decode cX12_cast 11 = .ok (.i2l, 1) := by decide +kernel
theorem dX12_cast_12 : decode cX12_cast 12 = .ok (.lconst 1, 1) := by decide +kernel
theorem dX12_cast_13 : decode cX12_cast 13 = .ok (.ldc2_w 535, 3) := by decide +kernel
theorem dX12_cast_16 : decode cX12_cast 16 = .ok (.invokestatic 129, 3) := by decide +kernel
theorem dX12_cast_19 : decode cX12_cast 19 = .ok (.ifCond .ne 9, 3) := by decide +kernel
theorem dX12_cast_22 : decode cX12_cast 22 = .ok (.aload_n 0, 1) := by decide +kernel
theorem dX12_cast_23 : decode cX12_cast 23 = .ok (.iconst 5, 1) := by decide +kernel
theorem dX12_cast_24 : decode cX12_cast 24 = .ok (.invokevirtual 348, 3) := by decide +kernel
theorem dX12_cast_27 : decode cX12_cast 27 = .ok (.ireturn, 1) := by decide +kernel
theorem dX12_cast_28 : decode cX12_cast 28 = .ok (.iconst 0, 1) := by decide +kernel
theorem dX12_cast_29 : decode cX12_cast 29 = .ok (.istore_n 2, 1) := by decide +kernel
theorem dX12_cast_30 : decode cX12_cast 30 = .ok (.iconst 0, 1) := by decide +kernel
theorem dX12_cast_31 : decode cX12_cast 31 = .ok (.istore_n 3, 1) := by decide +kernel
theorem dX12_cast_32 : decode cX12_cast 32 = .ok (.iload_n 3, 1) := by decide +kernel
theorem dX12_cast_33 : decode cX12_cast 33 = .ok (.aload_n 0, 1) := by decide +kernel
theorem dX12_cast_34 : decode cX12_cast 34 = .ok (.getfield 35, 3) := by decide +kernel
theorem dX12_cast_37 : decode cX12_cast 37 = .ok (.iconst 0, 1) := by decide +kernel
theorem dX12_cast_38 : decode cX12_cast 38 = .ok (.iaload, 1) := by decide +kernel
theorem dX12_cast_39 : decode cX12_cast 39 = .ok (.if_icmp .ge 39, 3) := by decide +kernel
theorem dX12_cast_42 : decode cX12_cast 42 = .ok (.iload_n 2, 1) := by decide +kernel
theorem dX12_cast_43 : decode cX12_cast 43 = .ok (.ifCond .ne 11, 3) := by decide +kernel
theorem dX12_cast_46 : decode cX12_cast 46 = .ok (.aload_n 0, 1) := by decide +kernel
theorem dX12_cast_47 : decode cX12_cast 47 = .ok (.iload_n 3, 1) := by decide +kernel
theorem dX12_cast_48 : decode cX12_cast 48 = .ok (.invokevirtual 526, 3) := by decide +kernel
theorem dX12_cast_51 : decode cX12_cast 51 = .ok (.ifCond .eq 7, 3) := by decide +kernel
theorem dX12_cast_54 : decode cX12_cast 54 = .ok (.iconst 1, 1) := by decide +kernel
theorem dX12_cast_55 : decode cX12_cast 55 = .ok (.goto 4, 3) := by decide +kernel
theorem dX12_cast_58 : decode cX12_cast 58 = .ok (.iconst 0, 1) := by decide +kernel
theorem dX12_cast_59 : decode cX12_cast 59 = .ok (.istore_n 2, 1) := by decide +kernel
theorem dX12_cast_60 : decode cX12_cast 60 = .ok (.aload_n 0, 1) := by decide +kernel
theorem dX12_cast_61 : decode cX12_cast 61 = .ok (.getfield 84, 3) := by decide +kernel
theorem dX12_cast_64 : decode cX12_cast 64 = .ok (.iload_n 3, 1) := by decide +kernel
theorem dX12_cast_65 : decode cX12_cast 65 = .ok (.aload_n 0, 1) := by decide +kernel
theorem dX12_cast_66 : decode cX12_cast 66 = .ok (.iload_n 3, 1) := by decide +kernel
theorem dX12_cast_67 : decode cX12_cast 67 = .ok (.iload_n 1, 1) := by decide +kernel
theorem dX12_cast_68 : decode cX12_cast 68 = .ok (.invokevirtual 537, 3) := by decide +kernel
theorem dX12_cast_71 : decode cX12_cast 71 = .ok (.iastore, 1) := by decide +kernel
theorem dX12_cast_72 : decode cX12_cast 72 = .ok (.iinc 3 1, 3) := by decide +kernel
theorem dX12_cast_75 : decode cX12_cast 75 = .ok (.goto (-43), 3) := by decide +kernel
theorem dX12_cast_78 : decode cX12_cast 78 = .ok (.iload_n 2, 1) := by decide +kernel
theorem dX12_cast_79 : decode cX12_cast 79 = .ok (.ifCond .ne 10, 3) := by decide +kernel
theorem dX12_cast_82 : decode cX12_cast 82 = .ok (.aload_n 0, 1) := by decide +kernel
theorem dX12_cast_83 : decode cX12_cast 83 = .ok (.bipush 8, 2) := by decide +kernel
theorem dX12_cast_85 : decode cX12_cast 85 = .ok (.invokevirtual 348, 3) := by decide +kernel
theorem dX12_cast_88 : decode cX12_cast 88 = .ok (.ireturn, 1) := by decide +kernel
theorem dX12_cast_89 : decode cX12_cast 89 = .ok (.aload_n 0, 1) := by decide +kernel
theorem dX12_cast_90 : decode cX12_cast 90 = .ok (.iconst (-1), 1) := by decide +kernel
theorem dX12_cast_91 : decode cX12_cast 91 = .ok (.putfield 523, 3) := by decide +kernel
theorem dX12_cast_94 : decode cX12_cast 94 = .ok (.aload_n 0, 1) := by decide +kernel
theorem dX12_cast_95 : decode cX12_cast 95 = .ok (.iconst 0, 1) := by decide +kernel
theorem dX12_cast_96 : decode cX12_cast 96 = .ok (.iconst 0, 1) := by decide +kernel
theorem dX12_cast_97 : decode cX12_cast 97 = .ok (.invokevirtual 529, 3) := by decide +kernel
theorem dX12_cast_100 : decode cX12_cast 100 = .ok (.aload_n 0, 1) := by decide +kernel
theorem dX12_cast_101 : decode cX12_cast 101 = .ok (.getfield 523, 3) := by decide +kernel
theorem dX12_cast_104 : decode cX12_cast 104 = .ok (.ifCond .ge 10, 3) := by decide +kernel
theorem dX12_cast_107 : decode cX12_cast 107 = .ok (.aload_n 0, 1) := by decide +kernel
theorem dX12_cast_108 : decode cX12_cast 108 = .ok (.bipush 9, 2) := by decide +kernel
theorem dX12_cast_110 : decode cX12_cast 110 = .ok (.invokevirtual 348, 3) := by decide +kernel
theorem dX12_cast_113 : decode cX12_cast 113 = .ok (.ireturn, 1) := by decide +kernel
theorem dX12_cast_114 : decode cX12_cast 114 = .ok (.aload_n 0, 1) := by decide +kernel
theorem dX12_cast_115 : decode cX12_cast 115 = .ok (.iconst 1, 1) := by decide +kernel
theorem dX12_cast_116 : decode cX12_cast 116 = .ok (.putfield 540, 3) := by decide +kernel
theorem dX12_cast_119 : decode cX12_cast 119 = .ok (.iconst 0, 1) := by decide +kernel
theorem dX12_cast_120 : decode cX12_cast 120 = .ok (.istore_n 3, 1) := by decide +kernel
theorem dX12_cast_121 : decode cX12_cast 121 = .ok (.iload_n 3, 1) := by decide +kernel
theorem dX12_cast_122 : decode cX12_cast 122 = .ok (.bipush 6, 2) := by decide +kernel
theorem dX12_cast_124 : decode cX12_cast 124 = .ok (.if_icmp .ge 21, 3) := by decide +kernel
theorem dX12_cast_127 : decode cX12_cast 127 = .ok (.aload_n 0, 1) := by decide +kernel
theorem dX12_cast_128 : decode cX12_cast 128 = .ok (.getfield 81, 3) := by decide +kernel
theorem dX12_cast_131 : decode cX12_cast 131 = .ok (.iload_n 3, 1) := by decide +kernel
theorem dX12_cast_132 : decode cX12_cast 132 = .ok (.aload_n 0, 1) := by decide +kernel
theorem dX12_cast_133 : decode cX12_cast 133 = .ok (.getfield 78, 3) := by decide +kernel
theorem dX12_cast_136 : decode cX12_cast 136 = .ok (.iload_n 3, 1) := by decide +kernel
theorem dX12_cast_137 : decode cX12_cast 137 = .ok (.iaload, 1) := by decide +kernel
theorem dX12_cast_138 : decode cX12_cast 138 = .ok (.iastore, 1) := by decide +kernel
theorem dX12_cast_139 : decode cX12_cast 139 = .ok (.iinc 3 1, 3) := by decide +kernel
theorem dX12_cast_142 : decode cX12_cast 142 = .ok (.goto (-21), 3) := by decide +kernel
theorem dX12_cast_145 : decode cX12_cast 145 = .ok (.aload_n 0, 1) := by decide +kernel
theorem dX12_cast_146 : decode cX12_cast 146 = .ok (.getfield 523, 3) := by decide +kernel
theorem dX12_cast_149 : decode cX12_cast 149 = .ok (.ireturn, 1) := by decide +kernel
theorem dX12_castAt_0 : decode cX12_castAt 0 = .ok (.aload_n 0, 1) := by decide +kernel
theorem dX12_castAt_1 : decode cX12_castAt 1 = .ok (.iconst 0, 1) := by decide +kernel
theorem dX12_castAt_2 : decode cX12_castAt 2 = .ok (.putfield 90, 3) := by decide +kernel
theorem dX12_castAt_5 : decode cX12_castAt 5 = .ok (.aload_n 0, 1) := by decide +kernel
theorem dX12_castAt_6 : decode cX12_castAt 6 = .ok (.iconst 0, 1) := by decide +kernel
theorem dX12_castAt_7 : decode cX12_castAt 7 = .ok (.putfield 93, 3) := by decide +kernel
theorem dX12_castAt_10 : decode cX12_castAt 10 = .ok (.iload_n 1, 1) := by decide +kernel
theorem dX12_castAt_11 : decode cX12_castAt 11 = .ok (.i2l, 1) := by decide +kernel
theorem dX12_castAt_12 : decode cX12_castAt 12 = .ok (.lconst 0, 1) := by decide +kernel
theorem dX12_castAt_13 : decode cX12_castAt 13 = .ok (.ldc2_w 543, 3) := by decide +kernel
theorem dX12_castAt_16 : decode cX12_castAt 16 = .ok (.invokestatic 129, 3) := by decide +kernel
theorem dX12_castAt_19 : decode cX12_castAt 19 = .ok (.ifCond .ne 9, 3) := by decide +kernel
theorem dX12_castAt_22 : decode cX12_castAt 22 = .ok (.aload_n 0, 1) := by decide +kernel
theorem dX12_castAt_23 : decode cX12_castAt 23 = .ok (.iconst 5, 1) := by decide +kernel
theorem dX12_castAt_24 : decode cX12_castAt 24 = .ok (.invokevirtual 348, 3) := by decide +kernel
theorem dX12_castAt_27 : decode cX12_castAt 27 = .ok (.ireturn, 1) := by decide +kernel
theorem dX12_castAt_28 : decode cX12_castAt 28 = .ok (.aload_n 0, 1) := by decide +kernel
theorem dX12_castAt_29 : decode cX12_castAt 29 = .ok (.getfield 540, 3) := by decide +kernel
theorem dX12_castAt_32 : decode cX12_castAt 32 = .ok (.ifCond .eq 12, 3) := by decide +kernel
theorem dX12_castAt_35 : decode cX12_castAt 35 = .ok (.aload_n 0, 1) := by decide +kernel
theorem dX12_castAt_36 : decode cX12_castAt 36 = .ok (.getfield 81, 3) := by decide +kernel
theorem dX12_castAt_39 : decode cX12_castAt 39 = .ok (.iload_n 1, 1) := by decide +kernel
theorem dX12_castAt_40 : decode cX12_castAt 40 = .ok (.iaload, 1) := by decide +kernel
theorem dX12_castAt_41 : decode cX12_castAt 41 = .ok (.ifCond .ge 12, 3) := by decide +kernel
theorem dX12_castAt_44 : decode cX12_castAt 44 = .ok (.aload_n 0, 1) := by decide +kernel
theorem dX12_castAt_45 : decode cX12_castAt 45 = .ok (.bipush 8, 2) := by decide +kernel
theorem dX12_castAt_47 : decode cX12_castAt 47 = .ok (.invokevirtual 348, 3) := by decide +kernel
theorem dX12_castAt_50 : decode cX12_castAt 50 = .ok (.goto 9, 3) := by decide +kernel
theorem dX12_castAt_53 : decode cX12_castAt 53 = .ok (.aload_n 0, 1) := by decide +kernel
theorem dX12_castAt_54 : decode cX12_castAt 54 = .ok (.getfield 81, 3) := by decide +kernel
theorem dX12_castAt_57 : decode cX12_castAt 57 = .ok (.iload_n 1, 1) := by decide +kernel
theorem dX12_castAt_58 : decode cX12_castAt 58 = .ok (.iaload, 1) := by decide +kernel
theorem dX12_castAt_59 : decode cX12_castAt 59 = .ok (.ireturn, 1) := by decide +kernel
theorem dX12_breaths_0 : decode cX12_breaths 0 = .ok (.aload_n 0, 1) := by decide +kernel
theorem dX12_breaths_1 : decode cX12_breaths 1 = .ok (.iconst 0, 1) := by decide +kernel
theorem dX12_breaths_2 : decode cX12_breaths 2 = .ok (.putfield 90, 3) := by decide +kernel
theorem dX12_breaths_5 : decode cX12_breaths 5 = .ok (.aload_n 0, 1) := by decide +kernel
theorem dX12_breaths_6 : decode cX12_breaths 6 = .ok (.iconst 0, 1) := by decide +kernel
theorem dX12_breaths_7 : decode cX12_breaths 7 = .ok (.putfield 93, 3) := by decide +kernel
theorem dX12_breaths_10 : decode cX12_breaths 10 = .ok (.aload_n 0, 1) := by decide +kernel
theorem dX12_breaths_11 : decode cX12_breaths 11 = .ok (.iload_n 1, 1) := by decide +kernel
theorem dX12_breaths_12 : decode cX12_breaths 12 = .ok (.invokevirtual 370, 3) := by decide +kernel
theorem dX12_breaths_15 : decode cX12_breaths 15 = .ok (.ifCond .ne 9, 3) := by decide +kernel
theorem dX12_breaths_18 : decode cX12_breaths 18 = .ok (.aload_n 0, 1) := by decide +kernel
theorem dX12_breaths_19 : decode cX12_breaths 19 = .ok (.iconst 2, 1) := by decide +kernel
theorem dX12_breaths_20 : decode cX12_breaths 20 = .ok (.invokevirtual 348, 3) := by decide +kernel
theorem dX12_breaths_23 : decode cX12_breaths 23 = .ok (.ireturn, 1) := by decide +kernel
theorem dX12_breaths_24 : decode cX12_breaths 24 = .ok (.iload_n 2, 1) := by decide +kernel
theorem dX12_breaths_25 : decode cX12_breaths 25 = .ok (.i2l, 1) := by decide +kernel
theorem dX12_breaths_26 : decode cX12_breaths 26 = .ok (.lconst 1, 1) := by decide +kernel
theorem dX12_breaths_27 : decode cX12_breaths 27 = .ok (.ldc2_w 535, 3) := by decide +kernel
theorem dX12_breaths_30 : decode cX12_breaths 30 = .ok (.invokestatic 129, 3) := by decide +kernel
theorem dX12_breaths_33 : decode cX12_breaths 33 = .ok (.ifCond .eq 12, 3) := by decide +kernel
theorem dX12_breaths_36 : decode cX12_breaths 36 = .ok (.aload_n 0, 1) := by decide +kernel
theorem dX12_breaths_37 : decode cX12_breaths 37 = .ok (.iload_n 1, 1) := by decide +kernel
theorem dX12_breaths_38 : decode cX12_breaths 38 = .ok (.iload_n 2, 1) := by decide +kernel
theorem dX12_breaths_39 : decode cX12_breaths 39 = .ok (.invokevirtual 537, 3) := by decide +kernel
theorem dX12_breaths_42 : decode cX12_breaths 42 = .ok (.goto 8, 3) := by decide +kernel
theorem dX12_breaths_45 : decode cX12_breaths 45 = .ok (.aload_n 0, 1) := by decide +kernel
theorem dX12_breaths_46 : decode cX12_breaths 46 = .ok (.iconst 5, 1) := by decide +kernel
theorem dX12_breaths_47 : decode cX12_breaths 47 = .ok (.invokevirtual 348, 3) := by decide +kernel
theorem dX12_breaths_50 : decode cX12_breaths 50 = .ok (.ireturn, 1) := by decide +kernel
theorem dX12_plays2_0 : decode cX12_plays2 0 = .ok (.aload_n 0, 1) := by decide +kernel
theorem dX12_plays2_1 : decode cX12_plays2 1 = .ok (.invokevirtual 403, 3) := by decide +kernel
theorem dX12_plays2_4 : decode cX12_plays2 4 = .ok (.ifCond .ne 17, 3) := by decide +kernel
theorem dX12_plays2_7 : decode cX12_plays2 7 = .ok (.iload_n 1, 1) := by decide +kernel
theorem dX12_plays2_8 : decode cX12_plays2 8 = .ok (.iconst (-1), 1) := by decide +kernel
theorem dX12_plays2_9 : decode cX12_plays2 9 = .ok (.if_icmp .ne 23, 3) := by decide +kernel
theorem dX12_plays2_12 : decode cX12_plays2 12 = .ok (.aload_n 0, 1) := by decide +kernel
theorem dX12_plays2_13 : decode cX12_plays2 13 = .ok (.getfield 35, 3) := by decide +kernel
theorem dX12_plays2_16 : decode cX12_plays2 16 = .ok (.iconst 3, 1) := by decide +kernel
theorem dX12_plays2_17 : decode cX12_plays2 17 = .ok (.iaload, 1) := by decide +kernel
theorem dX12_plays2_18 : decode cX12_plays2 18 = .ok (.ifCond .ne 14, 3) := by decide +kernel
theorem dX12_plays2_21 : decode cX12_plays2 21 = .ok (.aload_n 0, 1) := by decide +kernel
theorem dX12_plays2_22 : decode cX12_plays2 22 = .ok (.dup, 1) := by decide +kernel
theorem dX12_plays2_23 : decode cX12_plays2 23 = .ok (.getfield 545, 3) := by decide +kernel
theorem dX12_plays2_26 : decode cX12_plays2 26 = .ok (.iconst 1, 1) := by decide +kernel
theorem dX12_plays2_27 : decode cX12_plays2 27 = .ok (.iadd, 1) := by decide +kernel
theorem dX12_plays2_28 : decode cX12_plays2 28 = .ok (.putfield 545, 3) := by decide +kernel
theorem dX12_plays2_31 : decode cX12_plays2 31 = .ok (.return_, 1) := by decide +kernel
theorem dX12_plays2_32 : decode cX12_plays2 32 = .ok (.aload_n 0, 1) := by decide +kernel
theorem dX12_plays2_33 : decode cX12_plays2 33 = .ok (.iload_n 1, 1) := by decide +kernel
theorem dX12_plays2_34 : decode cX12_plays2 34 = .ok (.iconst (-1), 1) := by decide +kernel
theorem dX12_plays2_35 : decode cX12_plays2 35 = .ok (.if_icmp .ne 10, 3) := by decide +kernel
theorem dX12_plays2_38 : decode cX12_plays2 38 = .ok (.aload_n 0, 1) := by decide +kernel
theorem dX12_plays2_39 : decode cX12_plays2 39 = .ok (.invokevirtual 433, 3) := by decide +kernel
theorem dX12_plays2_42 : decode cX12_plays2 42 = .ok (.goto 4, 3) := by decide +kernel
theorem dX12_plays2_45 : decode cX12_plays2 45 = .ok (.iload_n 1, 1) := by decide +kernel
theorem dX12_plays2_46 : decode cX12_plays2 46 = .ok (.invokevirtual 436, 3) := by decide +kernel
theorem dX12_plays2_49 : decode cX12_plays2 49 = .ok (.aload_n 0, 1) := by decide +kernel
theorem dX12_plays2_50 : decode cX12_plays2 50 = .ok (.dup, 1) := by decide +kernel
theorem dX12_plays2_51 : decode cX12_plays2 51 = .ok (.getfield 548, 3) := by decide +kernel
theorem dX12_plays2_54 : decode cX12_plays2 54 = .ok (.iconst 1, 1) := by decide +kernel
theorem dX12_plays2_55 : decode cX12_plays2 55 = .ok (.iadd, 1) := by decide +kernel
theorem dX12_plays2_56 : decode cX12_plays2 56 = .ok (.putfield 548, 3) := by decide +kernel
theorem dX12_plays2_59 : decode cX12_plays2 59 = .ok (.aload_n 0, 1) := by decide +kernel
theorem dX12_plays2_60 : decode cX12_plays2 60 = .ok (.dup, 1) := by decide +kernel
theorem dX12_plays2_61 : decode cX12_plays2 61 = .ok (.getfield 551, 3) := by decide +kernel
theorem dX12_plays2_64 : decode cX12_plays2 64 = .ok (.aload_n 0, 1) := by decide +kernel
theorem dX12_plays2_65 : decode cX12_plays2 65 = .ok (.getfield 382, 3) := by decide +kernel
theorem dX12_plays2_68 : decode cX12_plays2 68 = .ok (.ior, 1) := by decide +kernel
theorem dX12_plays2_69 : decode cX12_plays2 69 = .ok (.putfield 551, 3) := by decide +kernel
theorem dX12_plays2_72 : decode cX12_plays2 72 = .ok (.aload_n 0, 1) := by decide +kernel
theorem dX12_plays2_73 : decode cX12_plays2 73 = .ok (.aload_n 0, 1) := by decide +kernel
theorem dX12_plays2_74 : decode cX12_plays2 74 = .ok (.getfield 385, 3) := by decide +kernel
theorem dX12_plays2_77 : decode cX12_plays2 77 = .ok (.ifCond .ge 8, 3) := by decide +kernel
theorem dX12_plays2_80 : decode cX12_plays2 80 = .ok (.bipush 9, 2) := by decide +kernel
theorem dX12_plays2_82 : decode cX12_plays2 82 = .ok (.goto 7, 3) := by decide +kernel
theorem dX12_plays2_85 : decode cX12_plays2 85 = .ok (.aload_n 0, 1) := by decide +kernel
theorem dX12_plays2_86 : decode cX12_plays2 86 = .ok (.getfield 385, 3) := by decide +kernel
theorem dX12_plays2_89 : decode cX12_plays2 89 = .ok (.putfield 554, 3) := by decide +kernel
theorem dX12_plays2_92 : decode cX12_plays2 92 = .ok (.aload_n 0, 1) := by decide +kernel
theorem dX12_plays2_93 : decode cX12_plays2 93 = .ok (.dup, 1) := by decide +kernel
theorem dX12_plays2_94 : decode cX12_plays2 94 = .ok (.getfield 557, 3) := by decide +kernel
theorem dX12_plays2_97 : decode cX12_plays2 97 = .ok (.iconst 1, 1) := by decide +kernel
theorem dX12_plays2_98 : decode cX12_plays2 98 = .ok (.aload_n 0, 1) := by decide +kernel
theorem dX12_plays2_99 : decode cX12_plays2 99 = .ok (.getfield 554, 3) := by decide +kernel
theorem dX12_plays2_102 : decode cX12_plays2 102 = .ok (.ishl, 1) := by decide +kernel
theorem dX12_plays2_103 : decode cX12_plays2 103 = .ok (.ior, 1) := by decide +kernel
theorem dX12_plays2_104 : decode cX12_plays2 104 = .ok (.putfield 557, 3) := by decide +kernel
theorem dX12_plays2_107 : decode cX12_plays2 107 = .ok (.aload_n 0, 1) := by decide +kernel
theorem dX12_plays2_108 : decode cX12_plays2 108 = .ok (.dup, 1) := by decide +kernel
theorem dX12_plays2_109 : decode cX12_plays2 109 = .ok (.getfield 560, 3) := by decide +kernel
theorem dX12_plays2_112 : decode cX12_plays2 112 = .ok (.aload_n 0, 1) := by decide +kernel
theorem dX12_plays2_113 : decode cX12_plays2 113 = .ok (.getfield 388, 3) := by decide +kernel
theorem dX12_plays2_116 : decode cX12_plays2 116 = .ok (.iadd, 1) := by decide +kernel
theorem dX12_plays2_117 : decode cX12_plays2 117 = .ok (.putfield 560, 3) := by decide +kernel
theorem dX12_plays2_120 : decode cX12_plays2 120 = .ok (.return_, 1) := by decide +kernel
theorem dX12_isSo_0 : decode cX12_isSo 0 = .ok (.aload_n 0, 1) := by decide +kernel
theorem dX12_isSo_1 : decode cX12_isSo 1 = .ok (.getfield 35, 3) := by decide +kernel
theorem dX12_isSo_4 : decode cX12_isSo 4 = .ok (.iload_n 1, 1) := by decide +kernel
theorem dX12_isSo_5 : decode cX12_isSo 5 = .ok (.iconst 2, 1) := by decide +kernel
theorem dX12_isSo_6 : decode cX12_isSo 6 = .ok (.iadd, 1) := by decide +kernel
theorem dX12_isSo_7 : decode cX12_isSo 7 = .ok (.iaload, 1) := by decide +kernel
theorem dX12_isSo_8 : decode cX12_isSo 8 = .ok (.istore_n 2, 1) := by decide +kernel
theorem dX12_isSo_9 : decode cX12_isSo 9 = .ok (.iload_n 2, 1) := by decide +kernel
theorem dX12_isSo_10 : decode cX12_isSo 10 = .ok (.ifCond .ne 19, 3) := by decide +kernel
theorem dX12_isSo_13 : decode cX12_isSo 13 = .ok (.aload_n 0, 1) := by decide +kernel
theorem dX12_isSo_14 : decode cX12_isSo 14 = .ok (.getfield 551, 3) := by decide +kernel
theorem dX12_isSo_17 : decode cX12_isSo 17 = .ok (.aload_n 0, 1) := by decide +kernel
theorem dX12_isSo_18 : decode cX12_isSo 18 = .ok (.getfield 35, 3) := by decide +kernel
theorem dX12_isSo_21 : decode cX12_isSo 21 = .ok (.iload_n 1, 1) := by decide +kernel
theorem dX12_isSo_22 : decode cX12_isSo 22 = .ok (.iconst 1, 1) := by decide +kernel
theorem dX12_isSo_23 : decode cX12_isSo 23 = .ok (.iadd, 1) := by decide +kernel
theorem dX12_isSo_24 : decode cX12_isSo 24 = .ok (.iaload, 1) := by decide +kernel
theorem dX12_isSo_25 : decode cX12_isSo 25 = .ok (.invokestatic 373, 3) := by decide +kernel
theorem dX12_isSo_28 : decode cX12_isSo 28 = .ok (.ireturn, 1) := by decide +kernel
theorem dX12_isSo_29 : decode cX12_isSo 29 = .ok (.iload_n 2, 1) := by decide +kernel
theorem dX12_isSo_30 : decode cX12_isSo 30 = .ok (.iconst 1, 1) := by decide +kernel
theorem dX12_isSo_31 : decode cX12_isSo 31 = .ok (.if_icmp .ne 21, 3) := by decide +kernel
theorem dX12_isSo_34 : decode cX12_isSo 34 = .ok (.aload_n 0, 1) := by decide +kernel
theorem dX12_isSo_35 : decode cX12_isSo 35 = .ok (.getfield 35, 3) := by decide +kernel
theorem dX12_isSo_38 : decode cX12_isSo 38 = .ok (.iconst 5, 1) := by decide +kernel
theorem dX12_isSo_39 : decode cX12_isSo 39 = .ok (.iaload, 1) := by decide +kernel
theorem dX12_isSo_40 : decode cX12_isSo 40 = .ok (.aload_n 0, 1) := by decide +kernel
theorem dX12_isSo_41 : decode cX12_isSo 41 = .ok (.getfield 35, 3) := by decide +kernel
theorem dX12_isSo_44 : decode cX12_isSo 44 = .ok (.iload_n 1, 1) := by decide +kernel
theorem dX12_isSo_45 : decode cX12_isSo 45 = .ok (.iconst 1, 1) := by decide +kernel
theorem dX12_isSo_46 : decode cX12_isSo 46 = .ok (.iadd, 1) := by decide +kernel
theorem dX12_isSo_47 : decode cX12_isSo 47 = .ok (.iaload, 1) := by decide +kernel
theorem dX12_isSo_48 : decode cX12_isSo 48 = .ok (.invokestatic 373, 3) := by decide +kernel
theorem dX12_isSo_51 : decode cX12_isSo 51 = .ok (.ireturn, 1) := by decide +kernel
theorem dX12_isSo_52 : decode cX12_isSo 52 = .ok (.iload_n 2, 1) := by decide +kernel
theorem dX12_isSo_53 : decode cX12_isSo 53 = .ok (.iconst 2, 1) := by decide +kernel
theorem dX12_isSo_54 : decode cX12_isSo 54 = .ok (.if_icmp .ne 24, 3) := by decide +kernel
theorem dX12_isSo_57 : decode cX12_isSo 57 = .ok (.aload_n 0, 1) := by decide +kernel
theorem dX12_isSo_58 : decode cX12_isSo 58 = .ok (.getfield 554, 3) := by decide +kernel
theorem dX12_isSo_61 : decode cX12_isSo 61 = .ok (.aload_n 0, 1) := by decide +kernel
theorem dX12_isSo_62 : decode cX12_isSo 62 = .ok (.getfield 35, 3) := by decide +kernel
theorem dX12_isSo_65 : decode cX12_isSo 65 = .ok (.iload_n 1, 1) := by decide +kernel
theorem dX12_isSo_66 : decode cX12_isSo 66 = .ok (.iconst 1, 1) := by decide +kernel
theorem dX12_isSo_67 : decode cX12_isSo 67 = .ok (.iadd, 1) := by decide +kernel
theorem dX12_isSo_68 : decode cX12_isSo 68 = .ok (.iaload, 1) := by decide +kernel
theorem dX12_isSo_69 : decode cX12_isSo 69 = .ok (.if_icmp .ne 7, 3) := by decide +kernel
theorem dX12_isSo_72 : decode cX12_isSo 72 = .ok (.iconst 1, 1) := by decide +kernel
theorem dX12_isSo_73 : decode cX12_isSo 73 = .ok (.goto 4, 3) := by decide +kernel
theorem dX12_isSo_76 : decode cX12_isSo 76 = .ok (.iconst 0, 1) := by decide +kernel
theorem dX12_isSo_77 : decode cX12_isSo 77 = .ok (.ireturn, 1) := by decide +kernel
theorem dX12_isSo_78 : decode cX12_isSo 78 = .ok (.aload_n 0, 1) := by decide +kernel
theorem dX12_isSo_79 : decode cX12_isSo 79 = .ok (.getfield 35, 3) := by decide +kernel
theorem dX12_isSo_82 : decode cX12_isSo 82 = .ok (.iload_n 1, 1) := by decide +kernel
theorem dX12_isSo_83 : decode cX12_isSo 83 = .ok (.iconst 3, 1) := by decide +kernel
theorem dX12_isSo_84 : decode cX12_isSo 84 = .ok (.iadd, 1) := by decide +kernel
theorem dX12_isSo_85 : decode cX12_isSo 85 = .ok (.iaload, 1) := by decide +kernel
theorem dX12_isSo_86 : decode cX12_isSo 86 = .ok (.bipush 60, 2) := by decide +kernel
theorem dX12_isSo_88 : decode cX12_isSo 88 = .ok (.if_icmp .ne 26, 3) := by decide +kernel
theorem dX12_isSo_91 : decode cX12_isSo 91 = .ok (.aload_n 0, 1) := by decide +kernel
theorem dX12_isSo_92 : decode cX12_isSo 92 = .ok (.getfield 548, 3) := by decide +kernel
theorem dX12_isSo_95 : decode cX12_isSo 95 = .ok (.aload_n 0, 1) := by decide +kernel
theorem dX12_isSo_96 : decode cX12_isSo 96 = .ok (.getfield 35, 3) := by decide +kernel
theorem dX12_isSo_99 : decode cX12_isSo 99 = .ok (.iload_n 1, 1) := by decide +kernel
theorem dX12_isSo_100 : decode cX12_isSo 100 = .ok (.iconst 4, 1) := by decide +kernel
theorem dX12_isSo_101 : decode cX12_isSo 101 = .ok (.iadd, 1) := by decide +kernel
theorem dX12_isSo_102 : decode cX12_isSo 102 = .ok (.iaload, 1) := by decide +kernel
theorem dX12_isSo_103 : decode cX12_isSo 103 = .ok (.if_icmp .ge 7, 3) := by decide +kernel
theorem dX12_isSo_106 : decode cX12_isSo 106 = .ok (.iconst 1, 1) := by decide +kernel
theorem dX12_isSo_107 : decode cX12_isSo 107 = .ok (.goto 63, 3) := by decide +kernel
theorem dX12_isSo_110 : decode cX12_isSo 110 = .ok (.iconst 0, 1) := by decide +kernel
theorem dX12_isSo_111 : decode cX12_isSo 111 = .ok (.goto 59, 3) := by decide +kernel
theorem dX12_isSo_114 : decode cX12_isSo 114 = .ok (.aload_n 0, 1) := by decide +kernel
theorem dX12_isSo_115 : decode cX12_isSo 115 = .ok (.getfield 35, 3) := by decide +kernel
theorem dX12_isSo_118 : decode cX12_isSo 118 = .ok (.iload_n 1, 1) := by decide +kernel
theorem dX12_isSo_119 : decode cX12_isSo 119 = .ok (.iconst 3, 1) := by decide +kernel
theorem dX12_isSo_120 : decode cX12_isSo 120 = .ok (.iadd, 1) := by decide +kernel
theorem dX12_isSo_121 : decode cX12_isSo 121 = .ok (.iaload, 1) := by decide +kernel
theorem dX12_isSo_122 : decode cX12_isSo 122 = .ok (.bipush 62, 2) := by decide +kernel
theorem dX12_isSo_124 : decode cX12_isSo 124 = .ok (.if_icmp .ne 26, 3) := by decide +kernel
theorem dX12_isSo_127 : decode cX12_isSo 127 = .ok (.aload_n 0, 1) := by decide +kernel
theorem dX12_isSo_128 : decode cX12_isSo 128 = .ok (.getfield 548, 3) := by decide +kernel
theorem dX12_isSo_131 : decode cX12_isSo 131 = .ok (.aload_n 0, 1) := by decide +kernel
theorem dX12_isSo_132 : decode cX12_isSo 132 = .ok (.getfield 35, 3) := by decide +kernel
theorem dX12_isSo_135 : decode cX12_isSo 135 = .ok (.iload_n 1, 1) := by decide +kernel
theorem dX12_isSo_136 : decode cX12_isSo 136 = .ok (.iconst 4, 1) := by decide +kernel
theorem dX12_isSo_137 : decode cX12_isSo 137 = .ok (.iadd, 1) := by decide +kernel
theorem dX12_isSo_138 : decode cX12_isSo 138 = .ok (.iaload, 1) := by decide +kernel
theorem dX12_isSo_139 : decode cX12_isSo 139 = .ok (.if_icmp .le 7, 3) := by decide +kernel
theorem dX12_isSo_142 : decode cX12_isSo 142 = .ok (.iconst 1, 1) := by decide +kernel
theorem dX12_isSo_143 : decode cX12_isSo 143 = .ok (.goto 27, 3) := by decide +kernel
theorem dX12_isSo_146 : decode cX12_isSo 146 = .ok (.iconst 0, 1) := by decide +kernel
theorem dX12_isSo_147 : decode cX12_isSo 147 = .ok (.goto 23, 3) := by decide +kernel
theorem dX12_isSo_150 : decode cX12_isSo 150 = .ok (.aload_n 0, 1) := by decide +kernel
theorem dX12_isSo_151 : decode cX12_isSo 151 = .ok (.getfield 548, 3) := by decide +kernel
theorem dX12_isSo_154 : decode cX12_isSo 154 = .ok (.aload_n 0, 1) := by decide +kernel
theorem dX12_isSo_155 : decode cX12_isSo 155 = .ok (.getfield 35, 3) := by decide +kernel
theorem dX12_isSo_158 : decode cX12_isSo 158 = .ok (.iload_n 1, 1) := by decide +kernel
theorem dX12_isSo_159 : decode cX12_isSo 159 = .ok (.iconst 4, 1) := by decide +kernel
theorem dX12_isSo_160 : decode cX12_isSo 160 = .ok (.iadd, 1) := by decide +kernel
theorem dX12_isSo_161 : decode cX12_isSo 161 = .ok (.iaload, 1) := by decide +kernel
theorem dX12_isSo_162 : decode cX12_isSo 162 = .ok (.if_icmp .ne 7, 3) := by decide +kernel
theorem dX12_isSo_165 : decode cX12_isSo 165 = .ok (.iconst 1, 1) := by decide +kernel
theorem dX12_isSo_166 : decode cX12_isSo 166 = .ok (.goto 4, 3) := by decide +kernel
theorem dX12_isSo_169 : decode cX12_isSo 169 = .ok (.iconst 0, 1) := by decide +kernel
theorem dX12_isSo_170 : decode cX12_isSo 170 = .ok (.ireturn, 1) := by decide +kernel
theorem dX12_doOne_0 : decode cX12_doOne 0 = .ok (.aload_n 0, 1) := by decide +kernel
theorem dX12_doOne_1 : decode cX12_doOne 1 = .ok (.getfield 563, 3) := by decide +kernel
theorem dX12_doOne_4 : decode cX12_doOne 4 = .ok (.sipush 200, 3) := by decide +kernel
theorem dX12_doOne_7 : decode cX12_doOne 7 = .ok (.if_icmp .ne 9, 3) := by decide +kernel
theorem dX12_doOne_10 : decode cX12_doOne 10 = .ok (.aload_n 0, 1) := by decide +kernel
theorem dX12_doOne_11 : decode cX12_doOne 11 = .ok (.iconst 1, 1) := by decide +kernel
theorem dX12_doOne_12 : decode cX12_doOne 12 = .ok (.putfield 566, 3) := by decide +kernel
theorem dX12_doOne_15 : decode cX12_doOne 15 = .ok (.return_, 1) := by decide +kernel
theorem dX12_doOne_16 : decode cX12_doOne 16 = .ok (.aload_n 0, 1) := by decide +kernel
theorem dX12_doOne_17 : decode cX12_doOne 17 = .ok (.dup, 1) := by decide +kernel
theorem dX12_doOne_18 : decode cX12_doOne 18 = .ok (.getfield 563, 3) := by decide +kernel
theorem dX12_doOne_21 : decode cX12_doOne 21 = .ok (.iconst 1, 1) := by decide +kernel
theorem dX12_doOne_22 : decode cX12_doOne 22 = .ok (.iadd, 1) := by decide +kernel
theorem dX12_doOne_23 : decode cX12_doOne 23 = .ok (.putfield 563, 3) := by decide +kernel
theorem dX12_doOne_26 : decode cX12_doOne 26 = .ok (.sipush 219, 3) := by decide +kernel
theorem dX12_doOne_29 : decode cX12_doOne 29 = .ok (.bipush 7, 2) := by decide +kernel
theorem dX12_doOne_31 : decode cX12_doOne 31 = .ok (.iload_n 1, 1) := by decide +kernel
theorem dX12_doOne_32 : decode cX12_doOne 32 = .ok (.imul, 1) := by decide +kernel
theorem dX12_doOne_33 : decode cX12_doOne 33 = .ok (.iadd, 1) := by decide +kernel
theorem dX12_doOne_34 : decode cX12_doOne 34 = .ok (.istore_n 2, 1) := by decide +kernel
theorem dX12_doOne_35 : decode cX12_doOne 35 = .ok (.aload_n 0, 1) := by decide +kernel
theorem dX12_doOne_36 : decode cX12_doOne 36 = .ok (.getfield 35, 3) := by decide +kernel
theorem dX12_doOne_39 : decode cX12_doOne 39 = .ok (.iload_n 2, 1) := by decide +kernel
theorem dX12_doOne_40 : decode cX12_doOne 40 = .ok (.iaload, 1) := by decide +kernel
theorem dX12_doOne_41 : decode cX12_doOne 41 = .ok (.istore_n 3, 1) := by decide +kernel
theorem dX12_doOne_42 : decode cX12_doOne 42 = .ok (.iload_n 3, 1) := by decide +kernel
theorem dX12_doOne_43 : decode cX12_doOne 43 = .ok (.ifCond .ne 18, 3) := by decide +kernel
theorem dX12_doOne_46 : decode cX12_doOne 46 = .ok (.aload_n 0, 1) := by decide +kernel
theorem dX12_doOne_47 : decode cX12_doOne 47 = .ok (.aload_n 0, 1) := by decide +kernel
theorem dX12_doOne_48 : decode cX12_doOne 48 = .ok (.getfield 35, 3) := by decide +kernel
theorem dX12_doOne_51 : decode cX12_doOne 51 = .ok (.iload_n 2, 1) := by decide +kernel
theorem dX12_doOne_52 : decode cX12_doOne 52 = .ok (.iconst 1, 1) := by decide +kernel
theorem dX12_doOne_53 : decode cX12_doOne 53 = .ok (.iadd, 1) := by decide +kernel
theorem dX12_doOne_54 : decode cX12_doOne 54 = .ok (.iaload, 1) := by decide +kernel
theorem dX12_doOne_55 : decode cX12_doOne 55 = .ok (.invokevirtual 570, 3) := by decide +kernel
theorem dX12_doOne_58 : decode cX12_doOne 58 = .ok (.goto 192, 3) := by decide +kernel
theorem dX12_doOne_61 : decode cX12_doOne 61 = .ok (.iload_n 3, 1) := by decide +kernel
theorem dX12_doOne_62 : decode cX12_doOne 62 = .ok (.iconst 1, 1) := by decide +kernel
theorem dX12_doOne_63 : decode cX12_doOne 63 = .ok (.if_icmp .eq 8, 3) := by decide +kernel
theorem dX12_doOne_66 : decode cX12_doOne 66 = .ok (.iload_n 3, 1) := by decide +kernel
theorem dX12_doOne_67 : decode cX12_doOne 67 = .ok (.iconst 2, 1) := by decide +kernel
theorem dX12_doOne_68 : decode cX12_doOne 68 = .ok (.if_icmp .ne 39, 3) := by decide +kernel
theorem dX12_doOne_71 : decode cX12_doOne 71 = .ok (.aload_n 0, 1) := by decide +kernel
theorem dX12_doOne_72 : decode cX12_doOne 72 = .ok (.getfield 35, 3) := by decide +kernel
theorem dX12_doOne_75 : decode cX12_doOne 75 = .ok (.iconst 4, 1) := by decide +kernel
theorem dX12_doOne_76 : decode cX12_doOne 76 = .ok (.aload_n 0, 1) := by decide +kernel
theorem dX12_doOne_77 : decode cX12_doOne 77 = .ok (.getfield 35, 3) := by decide +kernel
theorem dX12_doOne_80 : decode cX12_doOne 80 = .ok (.iconst 4, 1) := by decide +kernel
theorem dX12_doOne_81 : decode cX12_doOne 81 = .ok (.iaload, 1) := by decide +kernel
theorem dX12_doOne_82 : decode cX12_doOne 82 = .ok (.aload_n 0, 1) := by decide +kernel
theorem dX12_doOne_83 : decode cX12_doOne 83 = .ok (.getfield 35, 3) := by decide +kernel
theorem dX12_doOne_86 : decode cX12_doOne 86 = .ok (.iload_n 2, 1) := by decide +kernel
theorem dX12_doOne_87 : decode cX12_doOne 87 = .ok (.iconst 1, 1) := by decide +kernel
theorem dX12_doOne_88 : decode cX12_doOne 88 = .ok (.iadd, 1) := by decide +kernel
theorem dX12_doOne_89 : decode cX12_doOne 89 = .ok (.iaload, 1) := by decide +kernel
theorem dX12_doOne_90 : decode cX12_doOne 90 = .ok (.iload_n 3, 1) := by decide +kernel
theorem dX12_doOne_91 : decode cX12_doOne 91 = .ok (.iconst 1, 1) := by decide +kernel
theorem dX12_doOne_92 : decode cX12_doOne 92 = .ok (.if_icmp .ne 7, 3) := by decide +kernel
theorem dX12_doOne_95 : decode cX12_doOne 95 = .ok (.iconst 1, 1) := by decide +kernel
theorem dX12_doOne_96 : decode cX12_doOne 96 = .ok (.goto 4, 3) := by decide +kernel
theorem dX12_doOne_99 : decode cX12_doOne 99 = .ok (.iconst 0, 1) := by decide +kernel
theorem dX12_doOne_100 : decode cX12_doOne 100 = .ok (.invokestatic 366, 3) := by decide +kernel
theorem dX12_doOne_103 : decode cX12_doOne 103 = .ok (.iastore, 1) := by decide +kernel
theorem dX12_doOne_104 : decode cX12_doOne 104 = .ok (.goto 146, 3) := by decide +kernel
theorem dX12_doOne_107 : decode cX12_doOne 107 = .ok (.iload_n 3, 1) := by decide +kernel
theorem dX12_doOne_108 : decode cX12_doOne 108 = .ok (.iconst 3, 1) := by decide +kernel
theorem dX12_doOne_109 : decode cX12_doOne 109 = .ok (.if_icmp .eq 8, 3) := by decide +kernel
theorem dX12_doOne_112 : decode cX12_doOne 112 = .ok (.iload_n 3, 1) := by decide +kernel
theorem dX12_doOne_113 : decode cX12_doOne 113 = .ok (.iconst 4, 1) := by decide +kernel
theorem dX12_doOne_114 : decode cX12_doOne 114 = .ok (.if_icmp .ne 39, 3) := by decide +kernel
theorem dX12_doOne_117 : decode cX12_doOne 117 = .ok (.aload_n 0, 1) := by decide +kernel
theorem dX12_doOne_118 : decode cX12_doOne 118 = .ok (.getfield 35, 3) := by decide +kernel
theorem dX12_doOne_121 : decode cX12_doOne 121 = .ok (.iconst 5, 1) := by decide +kernel
theorem dX12_doOne_122 : decode cX12_doOne 122 = .ok (.aload_n 0, 1) := by decide +kernel
theorem dX12_doOne_123 : decode cX12_doOne 123 = .ok (.getfield 35, 3) := by decide +kernel
theorem dX12_doOne_126 : decode cX12_doOne 126 = .ok (.iconst 5, 1) := by decide +kernel
theorem dX12_doOne_127 : decode cX12_doOne 127 = .ok (.iaload, 1) := by decide +kernel
theorem dX12_doOne_128 : decode cX12_doOne 128 = .ok (.aload_n 0, 1) := by decide +kernel
theorem dX12_doOne_129 : decode cX12_doOne 129 = .ok (.getfield 35, 3) := by decide +kernel
theorem dX12_doOne_132 : decode cX12_doOne 132 = .ok (.iload_n 2, 1) := by decide +kernel
theorem dX12_doOne_133 : decode cX12_doOne 133 = .ok (.iconst 1, 1) := by decide +kernel
theorem dX12_doOne_134 : decode cX12_doOne 134 = .ok (.iadd, 1) := by decide +kernel
theorem dX12_doOne_135 : decode cX12_doOne 135 = .ok (.iaload, 1) := by decide +kernel
theorem dX12_doOne_136 : decode cX12_doOne 136 = .ok (.iload_n 3, 1) := by decide +kernel
theorem dX12_doOne_137 : decode cX12_doOne 137 = .ok (.iconst 3, 1) := by decide +kernel
theorem dX12_doOne_138 : decode cX12_doOne 138 = .ok (.if_icmp .ne 7, 3) := by decide +kernel
theorem dX12_doOne_141 : decode cX12_doOne 141 = .ok (.iconst 1, 1) := by decide +kernel
theorem dX12_doOne_142 : decode cX12_doOne 142 = .ok (.goto 4, 3) := by decide +kernel
theorem dX12_doOne_145 : decode cX12_doOne 145 = .ok (.iconst 0, 1) := by decide +kernel
theorem dX12_doOne_146 : decode cX12_doOne 146 = .ok (.invokestatic 366, 3) := by decide +kernel
theorem dX12_doOne_149 : decode cX12_doOne 149 = .ok (.iastore, 1) := by decide +kernel
theorem dX12_doOne_150 : decode cX12_doOne 150 = .ok (.goto 100, 3) := by decide +kernel
theorem dX12_doOne_153 : decode cX12_doOne 153 = .ok (.iload_n 3, 1) := by decide +kernel
theorem dX12_doOne_154 : decode cX12_doOne 154 = .ok (.iconst 5, 1) := by decide +kernel
theorem dX12_doOne_155 : decode cX12_doOne 155 = .ok (.if_icmp .ne 30, 3) := by decide +kernel
theorem dX12_doOne_158 : decode cX12_doOne 158 = .ok (.aload_n 0, 1) := by decide +kernel
theorem dX12_doOne_159 : decode cX12_doOne 159 = .ok (.iload_n 2, 1) := by decide +kernel
theorem dX12_doOne_160 : decode cX12_doOne 160 = .ok (.invokevirtual 573, 3) := by decide +kernel
theorem dX12_doOne_163 : decode cX12_doOne 163 = .ok (.ifCond .eq 22, 3) := by decide +kernel
theorem dX12_doOne_166 : decode cX12_doOne 166 = .ok (.aload_n 0, 1) := by decide +kernel
theorem dX12_doOne_167 : decode cX12_doOne 167 = .ok (.iload_n 1, 1) := by decide +kernel
theorem dX12_doOne_168 : decode cX12_doOne 168 = .ok (.iconst 1, 1) := by decide +kernel
theorem dX12_doOne_169 : decode cX12_doOne 169 = .ok (.iadd, 1) := by decide +kernel
theorem dX12_doOne_170 : decode cX12_doOne 170 = .ok (.aload_n 0, 1) := by decide +kernel
theorem dX12_doOne_171 : decode cX12_doOne 171 = .ok (.getfield 35, 3) := by decide +kernel
theorem dX12_doOne_174 : decode cX12_doOne 174 = .ok (.iload_n 2, 1) := by decide +kernel
theorem dX12_doOne_175 : decode cX12_doOne 175 = .ok (.bipush 6, 2) := by decide +kernel
theorem dX12_doOne_177 : decode cX12_doOne 177 = .ok (.iadd, 1) := by decide +kernel
theorem dX12_doOne_178 : decode cX12_doOne 178 = .ok (.iaload, 1) := by decide +kernel
theorem dX12_doOne_179 : decode cX12_doOne 179 = .ok (.invokevirtual 576, 3) := by decide +kernel
theorem dX12_doOne_182 : decode cX12_doOne 182 = .ok (.goto 68, 3) := by decide +kernel
theorem dX12_doOne_185 : decode cX12_doOne 185 = .ok (.iload_n 3, 1) := by decide +kernel
theorem dX12_doOne_186 : decode cX12_doOne 186 = .ok (.bipush 6, 2) := by decide +kernel
theorem dX12_doOne_188 : decode cX12_doOne 188 = .ok (.if_icmp .ne 51, 3) := by decide +kernel
theorem dX12_doOne_191 : decode cX12_doOne 191 = .ok (.iconst 0, 1) := by decide +kernel
theorem dX12_doOne_192 : decode cX12_doOne 192 = .ok (.istore 4, 2) := by decide +kernel
theorem dX12_doOne_194 : decode cX12_doOne 194 = .ok (.iload 4, 2) := by decide +kernel
theorem dX12_doOne_196 : decode cX12_doOne 196 = .ok (.aload_n 0, 1) := by decide +kernel
theorem dX12_doOne_197 : decode cX12_doOne 197 = .ok (.getfield 35, 3) := by decide +kernel
theorem dX12_doOne_200 : decode cX12_doOne 200 = .ok (.iload_n 2, 1) := by decide +kernel
theorem dX12_doOne_201 : decode cX12_doOne 201 = .ok (.iconst 1, 1) := by decide +kernel
theorem dX12_doOne_202 : decode cX12_doOne 202 = .ok (.iadd, 1) := by decide +kernel
theorem dX12_doOne_203 : decode cX12_doOne 203 = .ok (.iaload, 1) := by decide +kernel
theorem dX12_doOne_204 : decode cX12_doOne 204 = .ok (.if_icmp .ge 32, 3) := by decide +kernel
theorem dX12_doOne_207 : decode cX12_doOne 207 = .ok (.aload_n 0, 1) := by decide +kernel
theorem dX12_doOne_208 : decode cX12_doOne 208 = .ok (.getfield 566, 3) := by decide +kernel
theorem dX12_doOne_211 : decode cX12_doOne 211 = .ok (.ifCond .ne 25, 3) := by decide +kernel
theorem dX12_doOne_214 : decode cX12_doOne 214 = .ok (.aload_n 0, 1) := by decide +kernel
theorem dX12_doOne_215 : decode cX12_doOne 215 = .ok (.iload_n 1, 1) := by decide +kernel
theorem dX12_doOne_216 : decode cX12_doOne 216 = .ok (.iconst 1, 1) := by decide +kernel
theorem dX12_doOne_217 : decode cX12_doOne 217 = .ok (.iadd, 1) := by decide +kernel
theorem dX12_doOne_218 : decode cX12_doOne 218 = .ok (.aload_n 0, 1) := by decide +kernel
theorem dX12_doOne_219 : decode cX12_doOne 219 = .ok (.getfield 35, 3) := by decide +kernel
theorem dX12_doOne_222 : decode cX12_doOne 222 = .ok (.iload_n 2, 1) := by decide +kernel
theorem dX12_doOne_223 : decode cX12_doOne 223 = .ok (.bipush 6, 2) := by decide +kernel
theorem dX12_doOne_225 : decode cX12_doOne 225 = .ok (.iadd, 1) := by decide +kernel
theorem dX12_doOne_226 : decode cX12_doOne 226 = .ok (.iaload, 1) := by decide +kernel
theorem dX12_doOne_227 : decode cX12_doOne 227 = .ok (.invokevirtual 576, 3) := by decide +kernel
theorem dX12_doOne_230 : decode cX12_doOne 230 = .ok (.iinc 4 1, 3) := by decide +kernel
theorem dX12_doOne_233 : decode cX12_doOne 233 = .ok (.goto (-39), 3) := by decide +kernel
theorem dX12_doOne_236 : decode cX12_doOne 236 = .ok (.goto 14, 3) := by decide +kernel
theorem dX12_doOne_239 : decode cX12_doOne 239 = .ok (.iload_n 3, 1) := by decide +kernel
theorem dX12_doOne_240 : decode cX12_doOne 240 = .ok (.bipush 6, 2) := by decide +kernel
theorem dX12_doOne_242 : decode cX12_doOne 242 = .ok (.if_icmp .le 8, 3) := by decide +kernel
theorem dX12_doOne_245 : decode cX12_doOne 245 = .ok (.aload_n 0, 1) := by decide +kernel
theorem dX12_doOne_246 : decode cX12_doOne 246 = .ok (.iconst 1, 1) := by decide +kernel
theorem dX12_doOne_247 : decode cX12_doOne 247 = .ok (.putfield 566, 3) := by decide +kernel
theorem dX12_doOne_250 : decode cX12_doOne 250 = .ok (.return_, 1) := by decide +kernel
theorem dX12_doAll_0 : decode cX12_doAll 0 = .ok (.iload_n 1, 1) := by decide +kernel
theorem dX12_doAll_1 : decode cX12_doAll 1 = .ok (.istore_n 3, 1) := by decide +kernel
theorem dX12_doAll_2 : decode cX12_doAll 2 = .ok (.iload_n 3, 1) := by decide +kernel
theorem dX12_doAll_3 : decode cX12_doAll 3 = .ok (.iload_n 2, 1) := by decide +kernel
theorem dX12_doAll_4 : decode cX12_doAll 4 = .ok (.if_icmp .ge 35, 3) := by decide +kernel
theorem dX12_doAll_7 : decode cX12_doAll 7 = .ok (.aload_n 0, 1) := by decide +kernel
theorem dX12_doAll_8 : decode cX12_doAll 8 = .ok (.getfield 566, 3) := by decide +kernel
theorem dX12_doAll_11 : decode cX12_doAll 11 = .ok (.ifCond .ne 28, 3) := by decide +kernel
theorem dX12_doAll_14 : decode cX12_doAll 14 = .ok (.aload_n 0, 1) := by decide +kernel
theorem dX12_doAll_15 : decode cX12_doAll 15 = .ok (.iload_n 3, 1) := by decide +kernel
theorem dX12_doAll_16 : decode cX12_doAll 16 = .ok (.invokevirtual 579, 3) := by decide +kernel
theorem dX12_doAll_19 : decode cX12_doAll 19 = .ok (.aload_n 0, 1) := by decide +kernel
theorem dX12_doAll_20 : decode cX12_doAll 20 = .ok (.getfield 35, 3) := by decide +kernel
theorem dX12_doAll_23 : decode cX12_doAll 23 = .ok (.sipush 219, 3) := by decide +kernel
theorem dX12_doAll_26 : decode cX12_doAll 26 = .ok (.bipush 7, 2) := by decide +kernel
theorem dX12_doAll_28 : decode cX12_doAll 28 = .ok (.iload_n 3, 1) := by decide +kernel
theorem dX12_doAll_29 : decode cX12_doAll 29 = .ok (.imul, 1) := by decide +kernel
theorem dX12_doAll_30 : decode cX12_doAll 30 = .ok (.iadd, 1) := by decide +kernel
theorem dX12_doAll_31 : decode cX12_doAll 31 = .ok (.bipush 6, 2) := by decide +kernel
theorem dX12_doAll_33 : decode cX12_doAll 33 = .ok (.iadd, 1) := by decide +kernel
theorem dX12_doAll_34 : decode cX12_doAll 34 = .ok (.iaload, 1) := by decide +kernel
theorem dX12_doAll_35 : decode cX12_doAll 35 = .ok (.istore_n 3, 1) := by decide +kernel
theorem dX12_doAll_36 : decode cX12_doAll 36 = .ok (.goto (-34), 3) := by decide +kernel
theorem dX12_doAll_39 : decode cX12_doAll 39 = .ok (.return_, 1) := by decide +kernel
theorem dX12_weeks_0 : decode cX12_weeks 0 = .ok (.aload_n 0, 1) := by decide +kernel
theorem dX12_weeks_1 : decode cX12_weeks 1 = .ok (.getfield 35, 3) := by decide +kernel
theorem dX12_weeks_4 : decode cX12_weeks 4 = .ok (.iconst 4, 1) := by decide +kernel
theorem dX12_weeks_5 : decode cX12_weeks 5 = .ok (.iaload, 1) := by decide +kernel
theorem dX12_weeks_6 : decode cX12_weeks 6 = .ok (.istore_n 2, 1) := by decide +kernel
theorem dX12_weeks_7 : decode cX12_weeks 7 = .ok (.aload_n 0, 1) := by decide +kernel
theorem dX12_weeks_8 : decode cX12_weeks 8 = .ok (.getfield 35, 3) := by decide +kernel
theorem dX12_weeks_11 : decode cX12_weeks 11 = .ok (.iconst 5, 1) := by decide +kernel
theorem dX12_weeks_12 : decode cX12_weeks 12 = .ok (.iaload, 1) := by decide +kernel
theorem dX12_weeks_13 : decode cX12_weeks 13 = .ok (.istore_n 3, 1) := by decide +kernel
theorem dX12_weeks_14 : decode cX12_weeks 14 = .ok (.aload_n 0, 1) := by decide +kernel
theorem dX12_weeks_15 : decode cX12_weeks 15 = .ok (.iload_n 1, 1) := by decide +kernel
theorem dX12_weeks_16 : decode cX12_weeks 16 = .ok (.putfield 418, 3) := by decide +kernel
theorem dX12_weeks_19 : decode cX12_weeks 19 = .ok (.aload_n 0, 1) := by decide +kernel
theorem dX12_weeks_20 : decode cX12_weeks 20 = .ok (.iconst 0, 1) := by decide +kernel
theorem dX12_weeks_21 : decode cX12_weeks 21 = .ok (.putfield 563, 3) := by decide +kernel
theorem dX12_weeks_24 : decode cX12_weeks 24 = .ok (.aload_n 0, 1) := by decide +kernel
theorem dX12_weeks_25 : decode cX12_weeks 25 = .ok (.iconst 0, 1) := by decide +kernel
theorem dX12_weeks_26 : decode cX12_weeks 26 = .ok (.putfield 548, 3) := by decide +kernel
theorem dX12_weeks_29 : decode cX12_weeks 29 = .ok (.aload_n 0, 1) := by decide +kernel
theorem dX12_weeks_30 : decode cX12_weeks 30 = .ok (.iconst 0, 1) := by decide +kernel
theorem dX12_weeks_31 : decode cX12_weeks 31 = .ok (.putfield 551, 3) := by decide +kernel
theorem dX12_weeks_34 : decode cX12_weeks 34 = .ok (.aload_n 0, 1) := by decide +kernel
theorem dX12_weeks_35 : decode cX12_weeks 35 = .ok (.iconst 0, 1) := by decide +kernel
theorem dX12_weeks_36 : decode cX12_weeks 36 = .ok (.putfield 557, 3) := by decide +kernel
theorem dX12_weeks_39 : decode cX12_weeks 39 = .ok (.aload_n 0, 1) := by decide +kernel
theorem dX12_weeks_40 : decode cX12_weeks 40 = .ok (.iconst 0, 1) := by decide +kernel
theorem dX12_weeks_41 : decode cX12_weeks 41 = .ok (.putfield 560, 3) := by decide +kernel
theorem dX12_weeks_44 : decode cX12_weeks 44 = .ok (.aload_n 0, 1) := by decide +kernel
theorem dX12_weeks_45 : decode cX12_weeks 45 = .ok (.iconst 0, 1) := by decide +kernel
theorem dX12_weeks_46 : decode cX12_weeks 46 = .ok (.putfield 545, 3) := by decide +kernel
theorem dX12_weeks_49 : decode cX12_weeks 49 = .ok (.aload_n 0, 1) := by decide +kernel
theorem dX12_weeks_50 : decode cX12_weeks 50 = .ok (.iconst (-1), 1) := by decide +kernel
theorem dX12_weeks_51 : decode cX12_weeks 51 = .ok (.putfield 554, 3) := by decide +kernel
theorem dX12_weeks_54 : decode cX12_weeks 54 = .ok (.aload_n 0, 1) := by decide +kernel
theorem dX12_weeks_55 : decode cX12_weeks 55 = .ok (.iconst 0, 1) := by decide +kernel
theorem dX12_weeks_56 : decode cX12_weeks 56 = .ok (.putfield 566, 3) := by decide +kernel
theorem dX12_weeks_59 : decode cX12_weeks 59 = .ok (.aload_n 0, 1) := by decide +kernel
theorem dX12_weeks_60 : decode cX12_weeks 60 = .ok (.iconst 0, 1) := by decide +kernel
theorem dX12_weeks_61 : decode cX12_weeks 61 = .ok (.aload_n 0, 1) := by decide +kernel
theorem dX12_weeks_62 : decode cX12_weeks 62 = .ok (.getfield 35, 3) := by decide +kernel
theorem dX12_weeks_65 : decode cX12_weeks 65 = .ok (.sipush 218, 3) := by decide +kernel
theorem dX12_weeks_68 : decode cX12_weeks 68 = .ok (.iaload, 1) := by decide +kernel
theorem dX12_weeks_69 : decode cX12_weeks 69 = .ok (.invokevirtual 576, 3) := by decide +kernel
theorem dX12_weeks_72 : decode cX12_weeks 72 = .ok (.aload_n 0, 1) := by decide +kernel
theorem dX12_weeks_73 : decode cX12_weeks 73 = .ok (.getfield 35, 3) := by decide +kernel
theorem dX12_weeks_76 : decode cX12_weeks 76 = .ok (.iconst 4, 1) := by decide +kernel
theorem dX12_weeks_77 : decode cX12_weeks 77 = .ok (.iload_n 2, 1) := by decide +kernel
theorem dX12_weeks_78 : decode cX12_weeks 78 = .ok (.iastore, 1) := by decide +kernel
theorem dX12_weeks_79 : decode cX12_weeks 79 = .ok (.aload_n 0, 1) := by decide +kernel
theorem dX12_weeks_80 : decode cX12_weeks 80 = .ok (.getfield 35, 3) := by decide +kernel
theorem dX12_weeks_83 : decode cX12_weeks 83 = .ok (.iconst 5, 1) := by decide +kernel
theorem dX12_weeks_84 : decode cX12_weeks 84 = .ok (.iload_n 3, 1) := by decide +kernel
theorem dX12_weeks_85 : decode cX12_weeks 85 = .ok (.iastore, 1) := by decide +kernel
theorem dX12_weeks_86 : decode cX12_weeks 86 = .ok (.return_, 1) := by decide +kernel
theorem dX12_run_0 : decode cX12_run 0 = .ok (.aload_n 0, 1) := by decide +kernel
theorem dX12_run_1 : decode cX12_run 1 = .ok (.iconst 0, 1) := by decide +kernel
theorem dX12_run_2 : decode cX12_run 2 = .ok (.putfield 90, 3) := by decide +kernel
theorem dX12_run_5 : decode cX12_run 5 = .ok (.aload_n 0, 1) := by decide +kernel
theorem dX12_run_6 : decode cX12_run 6 = .ok (.iconst 0, 1) := by decide +kernel
theorem dX12_run_7 : decode cX12_run 7 = .ok (.putfield 93, 3) := by decide +kernel
theorem dX12_run_10 : decode cX12_run 10 = .ok (.iload_n 1, 1) := by decide +kernel
theorem dX12_run_11 : decode cX12_run 11 = .ok (.i2l, 1) := by decide +kernel
theorem dX12_run_12 : decode cX12_run 12 = .ok (.lconst 0, 1) := by decide +kernel
theorem dX12_run_13 : decode cX12_run 13 = .ok (.ldc2_w 431, 3) := by decide +kernel
theorem dX12_run_16 : decode cX12_run 16 = .ok (.invokestatic 129, 3) := by decide +kernel
theorem dX12_run_19 : decode cX12_run 19 = .ok (.ifCond .ne 9, 3) := by decide +kernel
theorem dX12_run_22 : decode cX12_run 22 = .ok (.aload_n 0, 1) := by decide +kernel
theorem dX12_run_23 : decode cX12_run 23 = .ok (.iconst 5, 1) := by decide +kernel
theorem dX12_run_24 : decode cX12_run 24 = .ok (.invokevirtual 348, 3) := by decide +kernel
theorem dX12_run_27 : decode cX12_run 27 = .ok (.ireturn, 1) := by decide +kernel
theorem dX12_run_28 : decode cX12_run 28 = .ok (.aload_n 0, 1) := by decide +kernel
theorem dX12_run_29 : decode cX12_run 29 = .ok (.getfield 35, 3) := by decide +kernel
theorem dX12_run_32 : decode cX12_run 32 = .ok (.sipush 217, 3) := by decide +kernel
theorem dX12_run_35 : decode cX12_run 35 = .ok (.iaload, 1) := by decide +kernel
theorem dX12_run_36 : decode cX12_run 36 = .ok (.ifCond .ne 10, 3) := by decide +kernel
theorem dX12_run_39 : decode cX12_run 39 = .ok (.aload_n 0, 1) := by decide +kernel
theorem dX12_run_40 : decode cX12_run 40 = .ok (.bipush 8, 2) := by decide +kernel
theorem dX12_run_42 : decode cX12_run 42 = .ok (.invokevirtual 348, 3) := by decide +kernel
theorem dX12_run_45 : decode cX12_run 45 = .ok (.ireturn, 1) := by decide +kernel
theorem dX12_run_46 : decode cX12_run 46 = .ok (.aload_n 0, 1) := by decide +kernel
theorem dX12_run_47 : decode cX12_run 47 = .ok (.iload_n 1, 1) := by decide +kernel
theorem dX12_run_48 : decode cX12_run 48 = .ok (.invokevirtual 582, 3) := by decide +kernel
theorem dX12_run_51 : decode cX12_run 51 = .ok (.aload_n 0, 1) := by decide +kernel
theorem dX12_run_52 : decode cX12_run 52 = .ok (.getfield 87, 3) := by decide +kernel
theorem dX12_run_55 : decode cX12_run 55 = .ok (.iconst 0, 1) := by decide +kernel
theorem dX12_run_56 : decode cX12_run 56 = .ok (.aload_n 0, 1) := by decide +kernel
theorem dX12_run_57 : decode cX12_run 57 = .ok (.getfield 563, 3) := by decide +kernel
theorem dX12_run_60 : decode cX12_run 60 = .ok (.iastore, 1) := by decide +kernel
theorem dX12_run_61 : decode cX12_run 61 = .ok (.aload_n 0, 1) := by decide +kernel
theorem dX12_run_62 : decode cX12_run 62 = .ok (.getfield 87, 3) := by decide +kernel
theorem dX12_run_65 : decode cX12_run 65 = .ok (.iconst 1, 1) := by decide +kernel
theorem dX12_run_66 : decode cX12_run 66 = .ok (.aload_n 0, 1) := by decide +kernel
theorem dX12_run_67 : decode cX12_run 67 = .ok (.getfield 551, 3) := by decide +kernel
theorem dX12_run_70 : decode cX12_run 70 = .ok (.iastore, 1) := by decide +kernel
theorem dX12_run_71 : decode cX12_run 71 = .ok (.aload_n 0, 1) := by decide +kernel
theorem dX12_run_72 : decode cX12_run 72 = .ok (.getfield 87, 3) := by decide +kernel
theorem dX12_run_75 : decode cX12_run 75 = .ok (.iconst 2, 1) := by decide +kernel
theorem dX12_run_76 : decode cX12_run 76 = .ok (.aload_n 0, 1) := by decide +kernel
theorem dX12_run_77 : decode cX12_run 77 = .ok (.getfield 557, 3) := by decide +kernel
theorem dX12_run_80 : decode cX12_run 80 = .ok (.iastore, 1) := by decide +kernel
theorem dX12_run_81 : decode cX12_run 81 = .ok (.aload_n 0, 1) := by decide +kernel
theorem dX12_run_82 : decode cX12_run 82 = .ok (.getfield 87, 3) := by decide +kernel
theorem dX12_run_85 : decode cX12_run 85 = .ok (.iconst 3, 1) := by decide +kernel
theorem dX12_run_86 : decode cX12_run 86 = .ok (.aload_n 0, 1) := by decide +kernel
theorem dX12_run_87 : decode cX12_run 87 = .ok (.getfield 560, 3) := by decide +kernel
theorem dX12_run_90 : decode cX12_run 90 = .ok (.iastore, 1) := by decide +kernel
theorem dX12_run_91 : decode cX12_run 91 = .ok (.aload_n 0, 1) := by decide +kernel
theorem dX12_run_92 : decode cX12_run 92 = .ok (.getfield 87, 3) := by decide +kernel
theorem dX12_run_95 : decode cX12_run 95 = .ok (.iconst 4, 1) := by decide +kernel
theorem dX12_run_96 : decode cX12_run 96 = .ok (.aload_n 0, 1) := by decide +kernel
theorem dX12_run_97 : decode cX12_run 97 = .ok (.getfield 545, 3) := by decide +kernel
theorem dX12_run_100 : decode cX12_run 100 = .ok (.iastore, 1) := by decide +kernel
theorem dX12_run_101 : decode cX12_run 101 = .ok (.aload_n 0, 1) := by decide +kernel
theorem dX12_run_102 : decode cX12_run 102 = .ok (.iconst 1, 1) := by decide +kernel
theorem dX12_run_103 : decode cX12_run 103 = .ok (.putfield 585, 3) := by decide +kernel
theorem dX12_run_106 : decode cX12_run 106 = .ok (.aload_n 0, 1) := by decide +kernel
theorem dX12_run_107 : decode cX12_run 107 = .ok (.getfield 548, 3) := by decide +kernel
theorem dX12_run_110 : decode cX12_run 110 = .ok (.ireturn, 1) := by decide +kernel
theorem dX12_ran_0 : decode cX12_ran 0 = .ok (.aload_n 0, 1) := by decide +kernel
theorem dX12_ran_1 : decode cX12_ran 1 = .ok (.iconst 0, 1) := by decide +kernel
theorem dX12_ran_2 : decode cX12_ran 2 = .ok (.putfield 90, 3) := by decide +kernel
theorem dX12_ran_5 : decode cX12_ran 5 = .ok (.aload_n 0, 1) := by decide +kernel
theorem dX12_ran_6 : decode cX12_ran 6 = .ok (.iconst 0, 1) := by decide +kernel
theorem dX12_ran_7 : decode cX12_ran 7 = .ok (.putfield 93, 3) := by decide +kernel
theorem dX12_ran_10 : decode cX12_ran 10 = .ok (.iload_n 1, 1) := by decide +kernel
theorem dX12_ran_11 : decode cX12_ran 11 = .ok (.i2l, 1) := by decide +kernel
theorem dX12_ran_12 : decode cX12_ran 12 = .ok (.lconst 0, 1) := by decide +kernel
theorem dX12_ran_13 : decode cX12_ran 13 = .ok (.ldc2_w 588, 3) := by decide +kernel
theorem dX12_ran_16 : decode cX12_ran 16 = .ok (.invokestatic 129, 3) := by decide +kernel
theorem dX12_ran_19 : decode cX12_ran 19 = .ok (.ifCond .ne 9, 3) := by decide +kernel
theorem dX12_ran_22 : decode cX12_ran 22 = .ok (.aload_n 0, 1) := by decide +kernel
theorem dX12_ran_23 : decode cX12_ran 23 = .ok (.iconst 5, 1) := by decide +kernel
theorem dX12_ran_24 : decode cX12_ran 24 = .ok (.invokevirtual 348, 3) := by decide +kernel
theorem dX12_ran_27 : decode cX12_ran 27 = .ok (.ireturn, 1) := by decide +kernel
theorem dX12_ran_28 : decode cX12_ran 28 = .ok (.aload_n 0, 1) := by decide +kernel
theorem dX12_ran_29 : decode cX12_ran 29 = .ok (.getfield 585, 3) := by decide +kernel
theorem dX12_ran_32 : decode cX12_ran 32 = .ok (.ifCond .eq 12, 3) := by decide +kernel
theorem dX12_ran_35 : decode cX12_ran 35 = .ok (.aload_n 0, 1) := by decide +kernel
theorem dX12_ran_36 : decode cX12_ran 36 = .ok (.getfield 87, 3) := by decide +kernel
theorem dX12_ran_39 : decode cX12_ran 39 = .ok (.iload_n 1, 1) := by decide +kernel
theorem dX12_ran_40 : decode cX12_ran 40 = .ok (.iaload, 1) := by decide +kernel
theorem dX12_ran_41 : decode cX12_ran 41 = .ok (.goto 9, 3) := by decide +kernel
theorem dX12_ran_44 : decode cX12_ran 44 = .ok (.aload_n 0, 1) := by decide +kernel
theorem dX12_ran_45 : decode cX12_ran 45 = .ok (.bipush 8, 2) := by decide +kernel
theorem dX12_ran_47 : decode cX12_ran 47 = .ok (.invokevirtual 348, 3) := by decide +kernel
theorem dX12_ran_50 : decode cX12_ran 50 = .ok (.ireturn, 1) := by decide +kernel
theorem dX12_often_0 : decode cX12_often 0 = .ok (.aload_n 0, 1) := by decide +kernel
theorem dX12_often_1 : decode cX12_often 1 = .ok (.iconst 0, 1) := by decide +kernel
theorem dX12_often_2 : decode cX12_often 2 = .ok (.putfield 90, 3) := by decide +kernel
theorem dX12_often_5 : decode cX12_often 5 = .ok (.aload_n 0, 1) := by decide +kernel
theorem dX12_often_6 : decode cX12_often 6 = .ok (.iconst 0, 1) := by decide +kernel
theorem dX12_often_7 : decode cX12_often 7 = .ok (.putfield 93, 3) := by decide +kernel
theorem dX12_often_10 : decode cX12_often 10 = .ok (.iload_n 1, 1) := by decide +kernel
theorem dX12_often_11 : decode cX12_often 11 = .ok (.i2l, 1) := by decide +kernel
theorem dX12_often_12 : decode cX12_often 12 = .ok (.lconst 0, 1) := by decide +kernel
theorem dX12_often_13 : decode cX12_often 13 = .ok (.ldc2_w 498, 3) := by decide +kernel
theorem dX12_often_16 : decode cX12_often 16 = .ok (.invokestatic 129, 3) := by decide +kernel
theorem dX12_often_19 : decode cX12_often 19 = .ok (.ifCond .eq 30, 3) := by decide +kernel
theorem dX12_often_22 : decode cX12_often 22 = .ok (.iload_n 3, 1) := by decide +kernel
theorem dX12_often_23 : decode cX12_often 23 = .ok (.i2l, 1) := by decide +kernel
theorem dX12_often_24 : decode cX12_often 24 = .ok (.lconst 1, 1) := by decide +kernel
theorem dX12_often_25 : decode cX12_often 25 = .ok (.ldc2_w 590, 3) := by decide +kernel
theorem dX12_often_28 : decode cX12_often 28 = .ok (.invokestatic 129, 3) := by decide +kernel
theorem dX12_often_31 : decode cX12_often 31 = .ok (.ifCond .eq 18, 3) := by decide +kernel
theorem dX12_often_34 : decode cX12_often 34 = .ok (.iload_n 2, 1) := by decide +kernel
theorem dX12_often_35 : decode cX12_often 35 = .ok (.i2l, 1) := by decide +kernel
theorem dX12_often_36 : decode cX12_often 36 = .ok (.lconst 0, 1) := by decide +kernel
theorem dX12_often_37 : decode cX12_often 37 = .ok (.sipush 10000, 3) := by decide +kernel
theorem dX12_often_40 : decode cX12_often 40 = .ok (.iload_n 3, 1) := by decide +kernel
theorem dX12_often_41 : decode cX12_often 41 = .ok (.isub, 1) := by decide +kernel
theorem dX12_often_42 : decode cX12_often 42 = .ok (.i2l, 1) := by decide +kernel
theorem dX12_often_43 : decode cX12_often 43 = .ok (.invokestatic 129, 3) := by decide +kernel
theorem dX12_often_46 : decode cX12_often 46 = .ok (.ifCond .ne 9, 3) := by decide +kernel
theorem dX12_often_49 : decode cX12_often 49 = .ok (.aload_n 0, 1) := by decide +kernel
theorem dX12_often_50 : decode cX12_often 50 = .ok (.iconst 5, 1) := by decide +kernel
theorem dX12_often_51 : decode cX12_often 51 = .ok (.invokevirtual 109, 3) := by decide +kernel
theorem dX12_often_54 : decode cX12_often 54 = .ok (.ireturn, 1) := by decide +kernel
theorem dX12_often_55 : decode cX12_often 55 = .ok (.aload_n 0, 1) := by decide +kernel
theorem dX12_often_56 : decode cX12_often 56 = .ok (.getfield 35, 3) := by decide +kernel
theorem dX12_often_59 : decode cX12_often 59 = .ok (.sipush 217, 3) := by decide +kernel
theorem dX12_often_62 : decode cX12_often 62 = .ok (.iaload, 1) := by decide +kernel
theorem dX12_often_63 : decode cX12_often 63 = .ok (.ifCond .ne 10, 3) := by decide +kernel
theorem dX12_often_66 : decode cX12_often 66 = .ok (.aload_n 0, 1) := by decide +kernel
theorem dX12_often_67 : decode cX12_often 67 = .ok (.bipush 8, 2) := by decide +kernel
theorem dX12_often_69 : decode cX12_often 69 = .ok (.invokevirtual 109, 3) := by decide +kernel
theorem dX12_often_72 : decode cX12_often 72 = .ok (.ireturn, 1) := by decide +kernel
theorem dX12_often_73 : decode cX12_often 73 = .ok (.iconst 0, 1) := by decide +kernel
theorem dX12_often_74 : decode cX12_often 74 = .ok (.istore 4, 2) := by decide +kernel
theorem dX12_often_76 : decode cX12_often 76 = .ok (.iload 4, 2) := by decide +kernel
theorem dX12_often_78 : decode cX12_often 78 = .ok (.sipush 217, 3) := by decide +kernel
theorem dX12_often_81 : decode cX12_often 81 = .ok (.if_icmp .ge 23, 3) := by decide +kernel
theorem dX12_often_84 : decode cX12_often 84 = .ok (.aload_n 0, 1) := by decide +kernel
theorem dX12_often_85 : decode cX12_often 85 = .ok (.getfield 38, 3) := by decide +kernel
theorem dX12_often_88 : decode cX12_often 88 = .ok (.iload 4, 2) := by decide +kernel
theorem dX12_often_90 : decode cX12_often 90 = .ok (.aload_n 0, 1) := by decide +kernel
theorem dX12_often_91 : decode cX12_often 91 = .ok (.getfield 35, 3) := by decide +kernel
theorem dX12_often_94 : decode cX12_often 94 = .ok (.iload 4, 2) := by decide +kernel
theorem dX12_often_96 : decode cX12_often 96 = .ok (.iaload, 1) := by decide +kernel
theorem dX12_often_97 : decode cX12_often 97 = .ok (.iastore, 1) := by decide +kernel
theorem dX12_often_98 : decode cX12_often 98 = .ok (.iinc 4 1, 3) := by decide +kernel
theorem dX12_often_101 : decode cX12_often 101 = .ok (.goto (-25), 3) := by decide +kernel
theorem dX12_often_104 : decode cX12_often 104 = .ok (.iconst 0, 1) := by decide +kernel
theorem dX12_often_105 : decode cX12_often 105 = .ok (.istore 4, 2) := by decide +kernel
theorem dX12_often_107 : decode cX12_often 107 = .ok (.iconst 0, 1) := by decide +kernel
theorem dX12_often_108 : decode cX12_often 108 = .ok (.istore 5, 2) := by decide +kernel
theorem dX12_often_110 : decode cX12_often 110 = .ok (.iload 5, 2) := by decide +kernel
theorem dX12_often_112 : decode cX12_often 112 = .ok (.iload_n 3, 1) := by decide +kernel
theorem dX12_often_113 : decode cX12_often 113 = .ok (.if_icmp .ge 69, 3) := by decide +kernel
theorem dX12_often_116 : decode cX12_often 116 = .ok (.aload_n 0, 1) := by decide +kernel
theorem dX12_often_117 : decode cX12_often 117 = .ok (.iload_n 2, 1) := by decide +kernel
theorem dX12_often_118 : decode cX12_often 118 = .ok (.iload 5, 2) := by decide +kernel
theorem dX12_often_120 : decode cX12_often 120 = .ok (.iadd, 1) := by decide +kernel
theorem dX12_often_121 : decode cX12_often 121 = .ok (.invokevirtual 582, 3) := by decide +kernel
theorem dX12_often_124 : decode cX12_often 124 = .ok (.iload 4, 2) := by decide +kernel
theorem dX12_often_126 : decode cX12_often 126 = .ok (.aload_n 0, 1) := by decide +kernel
theorem dX12_often_127 : decode cX12_often 127 = .ok (.getfield 557, 3) := by decide +kernel
theorem dX12_often_130 : decode cX12_often 130 = .ok (.iload_n 1, 1) := by decide +kernel
theorem dX12_often_131 : decode cX12_often 131 = .ok (.invokestatic 373, 3) := by decide +kernel
theorem dX12_often_134 : decode cX12_often 134 = .ok (.ifCond .eq 7, 3) := by decide +kernel
theorem dX12_often_137 : decode cX12_often 137 = .ok (.iconst 1, 1) := by decide +kernel
theorem dX12_often_138 : decode cX12_often 138 = .ok (.goto 4, 3) := by decide +kernel
theorem dX12_often_141 : decode cX12_often 141 = .ok (.iconst 0, 1) := by decide +kernel
theorem dX12_often_142 : decode cX12_often 142 = .ok (.iadd, 1) := by decide +kernel
theorem dX12_often_143 : decode cX12_often 143 = .ok (.istore 4, 2) := by decide +kernel
theorem dX12_often_145 : decode cX12_often 145 = .ok (.iconst 0, 1) := by decide +kernel
theorem dX12_often_146 : decode cX12_often 146 = .ok (.istore 6, 2) := by decide +kernel
theorem dX12_often_148 : decode cX12_often 148 = .ok (.iload 6, 2) := by decide +kernel
theorem dX12_often_150 : decode cX12_often 150 = .ok (.sipush 217, 3) := by decide +kernel
theorem dX12_often_153 : decode cX12_often 153 = .ok (.if_icmp .ge 23, 3) := by decide +kernel
theorem dX12_often_156 : decode cX12_often 156 = .ok (.aload_n 0, 1) := by decide +kernel
theorem dX12_often_157 : decode cX12_often 157 = .ok (.getfield 35, 3) := by decide +kernel
theorem dX12_often_160 : decode cX12_often 160 = .ok (.iload 6, 2) := by decide +kernel
theorem dX12_often_162 : decode cX12_often 162 = .ok (.aload_n 0, 1) := by decide +kernel
theorem dX12_often_163 : decode cX12_often 163 = .ok (.getfield 38, 3) := by decide +kernel
theorem dX12_often_166 : decode cX12_often 166 = .ok (.iload 6, 2) := by decide +kernel
theorem dX12_often_168 : decode cX12_often 168 = .ok (.iaload, 1) := by decide +kernel
theorem dX12_often_169 : decode cX12_often 169 = .ok (.iastore, 1) := by decide +kernel
theorem dX12_often_170 : decode cX12_often 170 = .ok (.iinc 6 1, 3) := by decide +kernel
theorem dX12_often_173 : decode cX12_often 173 = .ok (.goto (-25), 3) := by decide +kernel
theorem dX12_often_176 : decode cX12_often 176 = .ok (.iinc 5 1, 3) := by decide +kernel
theorem dX12_often_179 : decode cX12_often 179 = .ok (.goto (-69), 3) := by decide +kernel
theorem dX12_often_182 : decode cX12_often 182 = .ok (.aload_n 0, 1) := by decide +kernel
theorem dX12_often_183 : decode cX12_often 183 = .ok (.iload 4, 2) := by decide +kernel
theorem dX12_often_185 : decode cX12_often 185 = .ok (.i2l, 1) := by decide +kernel
theorem dX12_often_186 : decode cX12_often 186 = .ok (.iload_n 3, 1) := by decide +kernel
theorem dX12_often_187 : decode cX12_often 187 = .ok (.i2l, 1) := by decide +kernel
theorem dX12_often_188 : decode cX12_often 188 = .ok (.invokevirtual 506, 3) := by decide +kernel
theorem dX12_often_191 : decode cX12_often 191 = .ok (.ireturn, 1) := by decide +kernel
theorem dX12_copy_0 : decode cX12_copy 0 = .ok (.iconst 0, 1) := by decide +kernel
theorem dX12_copy_1 : decode cX12_copy 1 = .ok (.istore_n 3, 1) := by decide +kernel
theorem dX12_copy_2 : decode cX12_copy 2 = .ok (.iload_n 3, 1) := by decide +kernel
theorem dX12_copy_3 : decode cX12_copy 3 = .ok (.sipush 430, 3) := by decide +kernel
theorem dX12_copy_6 : decode cX12_copy 6 = .ok (.if_icmp .ge 33, 3) := by decide +kernel
theorem dX12_copy_9 : decode cX12_copy 9 = .ok (.aload_n 0, 1) := by decide +kernel
theorem dX12_copy_10 : decode cX12_copy 10 = .ok (.getfield 35, 3) := by decide +kernel
theorem dX12_copy_13 : decode cX12_copy 13 = .ok (.sipush 430, 3) := by decide +kernel
theorem dX12_copy_16 : decode cX12_copy 16 = .ok (.iload_n 2, 1) := by decide +kernel
theorem dX12_copy_17 : decode cX12_copy 17 = .ok (.imul, 1) := by decide +kernel
theorem dX12_copy_18 : decode cX12_copy 18 = .ok (.iload_n 3, 1) := by decide +kernel
theorem dX12_copy_19 : decode cX12_copy 19 = .ok (.iadd, 1) := by decide +kernel
theorem dX12_copy_20 : decode cX12_copy 20 = .ok (.aload_n 0, 1) := by decide +kernel
theorem dX12_copy_21 : decode cX12_copy 21 = .ok (.getfield 35, 3) := by decide +kernel
theorem dX12_copy_24 : decode cX12_copy 24 = .ok (.sipush 430, 3) := by decide +kernel
theorem dX12_copy_27 : decode cX12_copy 27 = .ok (.iload_n 1, 1) := by decide +kernel
theorem dX12_copy_28 : decode cX12_copy 28 = .ok (.imul, 1) := by decide +kernel
theorem dX12_copy_29 : decode cX12_copy 29 = .ok (.iload_n 3, 1) := by decide +kernel
theorem dX12_copy_30 : decode cX12_copy 30 = .ok (.iadd, 1) := by decide +kernel
theorem dX12_copy_31 : decode cX12_copy 31 = .ok (.iaload, 1) := by decide +kernel
theorem dX12_copy_32 : decode cX12_copy 32 = .ok (.iastore, 1) := by decide +kernel
theorem dX12_copy_33 : decode cX12_copy 33 = .ok (.iinc 3 1, 3) := by decide +kernel
theorem dX12_copy_36 : decode cX12_copy 36 = .ok (.goto (-34), 3) := by decide +kernel
theorem dX12_copy_39 : decode cX12_copy 39 = .ok (.iconst 0, 1) := by decide +kernel
theorem dX12_copy_40 : decode cX12_copy 40 = .ok (.istore_n 3, 1) := by decide +kernel
theorem dX12_copy_41 : decode cX12_copy 41 = .ok (.iload_n 3, 1) := by decide +kernel
theorem dX12_copy_42 : decode cX12_copy 42 = .ok (.bipush 28, 2) := by decide +kernel
theorem dX12_copy_44 : decode cX12_copy 44 = .ok (.if_icmp .ge 31, 3) := by decide +kernel
theorem dX12_copy_47 : decode cX12_copy 47 = .ok (.aload_n 0, 1) := by decide +kernel
theorem dX12_copy_48 : decode cX12_copy 48 = .ok (.getfield 41, 3) := by decide +kernel
theorem dX12_copy_51 : decode cX12_copy 51 = .ok (.bipush 28, 2) := by decide +kernel
theorem dX12_copy_53 : decode cX12_copy 53 = .ok (.iload_n 2, 1) := by decide +kernel
theorem dX12_copy_54 : decode cX12_copy 54 = .ok (.imul, 1) := by decide +kernel
theorem dX12_copy_55 : decode cX12_copy 55 = .ok (.iload_n 3, 1) := by decide +kernel
theorem dX12_copy_56 : decode cX12_copy 56 = .ok (.iadd, 1) := by decide +kernel
theorem dX12_copy_57 : decode cX12_copy 57 = .ok (.aload_n 0, 1) := by decide +kernel
theorem dX12_copy_58 : decode cX12_copy 58 = .ok (.getfield 41, 3) := by decide +kernel
theorem dX12_copy_61 : decode cX12_copy 61 = .ok (.bipush 28, 2) := by decide +kernel
theorem dX12_copy_63 : decode cX12_copy 63 = .ok (.iload_n 1, 1) := by decide +kernel
theorem dX12_copy_64 : decode cX12_copy 64 = .ok (.imul, 1) := by decide +kernel
theorem dX12_copy_65 : decode cX12_copy 65 = .ok (.iload_n 3, 1) := by decide +kernel
theorem dX12_copy_66 : decode cX12_copy 66 = .ok (.iadd, 1) := by decide +kernel
theorem dX12_copy_67 : decode cX12_copy 67 = .ok (.laload, 1) := by decide +kernel
theorem dX12_copy_68 : decode cX12_copy 68 = .ok (.lastore, 1) := by decide +kernel
theorem dX12_copy_69 : decode cX12_copy 69 = .ok (.iinc 3 1, 3) := by decide +kernel
theorem dX12_copy_72 : decode cX12_copy 72 = .ok (.goto (-31), 3) := by decide +kernel
theorem dX12_copy_75 : decode cX12_copy 75 = .ok (.return_, 1) := by decide +kernel
theorem dX12_mark_0 : decode cX12_mark 0 = .ok (.aload_n 0, 1) := by decide +kernel
theorem dX12_mark_1 : decode cX12_mark 1 = .ok (.iconst 0, 1) := by decide +kernel
theorem dX12_mark_2 : decode cX12_mark 2 = .ok (.putfield 90, 3) := by decide +kernel
theorem dX12_mark_5 : decode cX12_mark 5 = .ok (.aload_n 0, 1) := by decide +kernel
theorem dX12_mark_6 : decode cX12_mark 6 = .ok (.iconst 0, 1) := by decide +kernel
theorem dX12_mark_7 : decode cX12_mark 7 = .ok (.putfield 93, 3) := by decide +kernel
theorem dX12_mark_10 : decode cX12_mark 10 = .ok (.aload_n 0, 1) := by decide +kernel
theorem dX12_mark_11 : decode cX12_mark 11 = .ok (.getfield 592, 3) := by decide +kernel
theorem dX12_mark_14 : decode cX12_mark 14 = .ok (.iconst 3, 1) := by decide +kernel
theorem dX12_mark_15 : decode cX12_mark 15 = .ok (.if_icmp .ne 10, 3) := by decide +kernel
theorem dX12_mark_18 : decode cX12_mark 18 = .ok (.aload_n 0, 1) := by decide +kernel
theorem dX12_mark_19 : decode cX12_mark 19 = .ok (.bipush 7, 2) := by decide +kernel
theorem dX12_mark_21 : decode cX12_mark 21 = .ok (.invokevirtual 348, 3) := by decide +kernel
theorem dX12_mark_24 : decode cX12_mark 24 = .ok (.ireturn, 1) := by decide +kernel
theorem dX12_mark_25 : decode cX12_mark 25 = .ok (.aload_n 0, 1) := by decide +kernel
theorem dX12_mark_26 : decode cX12_mark 26 = .ok (.dup, 1) := by decide +kernel
theorem dX12_mark_27 : decode cX12_mark 27 = .ok (.getfield 592, 3) := by decide +kernel
theorem dX12_mark_30 : decode cX12_mark 30 = .ok (.iconst 1, 1) := by decide +kernel
theorem dX12_mark_31 : decode cX12_mark 31 = .ok (.iadd, 1) := by decide +kernel
theorem dX12_mark_32 : decode cX12_mark 32 = .ok (.putfield 592, 3) := by decide +kernel
theorem dX12_mark_35 : decode cX12_mark 35 = .ok (.aload_n 0, 1) := by decide +kernel
theorem dX12_mark_36 : decode cX12_mark 36 = .ok (.iconst 0, 1) := by decide +kernel
theorem dX12_mark_37 : decode cX12_mark 37 = .ok (.aload_n 0, 1) := by decide +kernel
theorem dX12_mark_38 : decode cX12_mark 38 = .ok (.getfield 592, 3) := by decide +kernel
theorem dX12_mark_41 : decode cX12_mark 41 = .ok (.invokevirtual 595, 3) := by decide +kernel
theorem dX12_mark_44 : decode cX12_mark 44 = .ok (.aload_n 0, 1) := by decide +kernel
theorem dX12_mark_45 : decode cX12_mark 45 = .ok (.getfield 592, 3) := by decide +kernel
theorem dX12_mark_48 : decode cX12_mark 48 = .ok (.ireturn, 1) := by decide +kernel
theorem dX12_back_0 : decode cX12_back 0 = .ok (.aload_n 0, 1) := by decide +kernel
theorem dX12_back_1 : decode cX12_back 1 = .ok (.iconst 0, 1) := by decide +kernel
theorem dX12_back_2 : decode cX12_back 2 = .ok (.putfield 90, 3) := by decide +kernel
theorem dX12_back_5 : decode cX12_back 5 = .ok (.aload_n 0, 1) := by decide +kernel
theorem dX12_back_6 : decode cX12_back 6 = .ok (.iconst 0, 1) := by decide +kernel
theorem dX12_back_7 : decode cX12_back 7 = .ok (.putfield 93, 3) := by decide +kernel
theorem dX12_back_10 : decode cX12_back 10 = .ok (.aload_n 0, 1) := by decide +kernel
theorem dX12_back_11 : decode cX12_back 11 = .ok (.getfield 592, 3) := by decide +kernel
theorem dX12_back_14 : decode cX12_back 14 = .ok (.ifCond .ne 10, 3) := by decide +kernel
theorem dX12_back_17 : decode cX12_back 17 = .ok (.aload_n 0, 1) := by decide +kernel
theorem dX12_back_18 : decode cX12_back 18 = .ok (.bipush 8, 2) := by decide +kernel
theorem dX12_back_20 : decode cX12_back 20 = .ok (.invokevirtual 348, 3) := by decide +kernel
theorem dX12_back_23 : decode cX12_back 23 = .ok (.ireturn, 1) := by decide +kernel
theorem dX12_back_24 : decode cX12_back 24 = .ok (.aload_n 0, 1) := by decide +kernel
theorem dX12_back_25 : decode cX12_back 25 = .ok (.aload_n 0, 1) := by decide +kernel
theorem dX12_back_26 : decode cX12_back 26 = .ok (.getfield 592, 3) := by decide +kernel
theorem dX12_back_29 : decode cX12_back 29 = .ok (.iconst 0, 1) := by decide +kernel
theorem dX12_back_30 : decode cX12_back 30 = .ok (.invokevirtual 595, 3) := by decide +kernel
theorem dX12_back_33 : decode cX12_back 33 = .ok (.aload_n 0, 1) := by decide +kernel
theorem dX12_back_34 : decode cX12_back 34 = .ok (.dup, 1) := by decide +kernel
theorem dX12_back_35 : decode cX12_back 35 = .ok (.getfield 592, 3) := by decide +kernel
theorem dX12_back_38 : decode cX12_back 38 = .ok (.iconst 1, 1) := by decide +kernel
theorem dX12_back_39 : decode cX12_back 39 = .ok (.isub, 1) := by decide +kernel
theorem dX12_back_40 : decode cX12_back 40 = .ok (.putfield 592, 3) := by decide +kernel
theorem dX12_back_43 : decode cX12_back 43 = .ok (.aload_n 0, 1) := by decide +kernel
theorem dX12_back_44 : decode cX12_back 44 = .ok (.getfield 592, 3) := by decide +kernel
theorem dX12_back_47 : decode cX12_back 47 = .ok (.ireturn, 1) := by decide +kernel
