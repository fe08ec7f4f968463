theorem dX7_init_0 : decode cX7_init 0 = .ok (.aload_n 0, 1) := by decide +kernel
theorem dX7_init_1 : decode cX7_init 1 = .ok (.invokespecial 3, 3) := by decide +kernel
theorem dX7_init_4 : decode cX7_init 4 = .ok (.aload_n 0, 1) := by decide +kernel
theorem dX7_init_5 : decode cX7_init 5 = .ok (.bipush 6, 2) := by decide +kernel
theorem dX7_init_7 : decode cX7_init 7 = .ok (.newarray .long, 2) := by decide +kernel
theorem dX7_init_9 : decode cX7_init 9 = .ok (.putfield 9, 3) := by decide +kernel
theorem dX7_init_12 : decode cX7_init 12 = .ok (.aload_n 0, 1) := by decide +kernel
theorem dX7_init_13 : decode cX7_init 13 = .ok (.bipush 6, 2) := by decide +kernel
theorem dX7_init_15 : decode cX7_init 15 = .ok (.newarray .long, 2) := by decide +kernel
theorem dX7_init_17 : decode cX7_init 17 = .ok (.putfield 15, 3) := by decide +kernel
theorem dX7_init_20 : decode cX7_init 20 = .ok (.aload_n 0, 1) := by decide +kernel
theorem dX7_init_21 : decode cX7_init 21 = .ok (.bipush 12, 2) := by decide +kernel
theorem dX7_init_23 : decode cX7_init 23 = .ok (.newarray .long, 2) := by decide +kernel
theorem dX7_init_25 : decode cX7_init 25 = .ok (.putfield 18, 3) := by decide +kernel
theorem dX7_init_28 : decode cX7_init 28 = .ok (.aload_n 0, 1) := by decide +kernel
theorem dX7_init_29 : decode cX7_init 29 = .ok (.iconst 4, 1) := by decide +kernel
theorem dX7_init_30 : decode cX7_init 30 = .ok (.newarray .long, 2) := by decide +kernel
theorem dX7_init_32 : decode cX7_init 32 = .ok (.putfield 21, 3) := by decide +kernel
theorem dX7_init_35 : decode cX7_init 35 = .ok (.aload_n 0, 1) := by decide +kernel
theorem dX7_init_36 : decode cX7_init 36 = .ok (.bipush 6, 2) := by decide +kernel
theorem dX7_init_38 : decode cX7_init 38 = .ok (.newarray .int, 2) := by decide +kernel
theorem dX7_init_40 : decode cX7_init 40 = .ok (.putfield 24, 3) := by decide +kernel
theorem dX7_init_43 : decode cX7_init 43 = .ok (.aload_n 0, 1) := by decide +kernel
theorem dX7_init_44 : decode cX7_init 44 = .ok (.bipush 6, 2) := by decide +kernel
theorem dX7_init_46 : decode cX7_init 46 = .ok (.newarray .int, 2) := by decide +kernel
theorem dX7_init_48 : decode cX7_init 48 = .ok (.putfield 28, 3) := by decide +kernel
theorem dX7_init_51 : decode cX7_init 51 = .ok (.aload_n 0, 1) := by decide +kernel
theorem dX7_init_52 : decode cX7_init 52 = .ok (.bipush 6, 2) := by decide +kernel
theorem dX7_init_54 : decode cX7_init 54 = .ok (.newarray .int, 2) := by decide +kernel
theorem dX7_init_56 : decode cX7_init 56 = .ok (.putfield 31, 3) := by decide +kernel
theorem dX7_init_59 : decode cX7_init 59 = .ok (.aload_n 0, 1) := by decide +kernel
theorem dX7_init_60 : decode cX7_init 60 = .ok (.bipush 12, 2) := by decide +kernel
theorem dX7_init_62 : decode cX7_init 62 = .ok (.newarray .int, 2) := by decide +kernel
theorem dX7_init_64 : decode cX7_init 64 = .ok (.putfield 34, 3) := by decide +kernel
theorem dX7_init_67 : decode cX7_init 67 = .ok (.aload_n 0, 1) := by decide +kernel
theorem dX7_init_68 : decode cX7_init 68 = .ok (.bipush 12, 2) := by decide +kernel
theorem dX7_init_70 : decode cX7_init 70 = .ok (.newarray .int, 2) := by decide +kernel
theorem dX7_init_72 : decode cX7_init 72 = .ok (.putfield 37, 3) := by decide +kernel
theorem dX7_init_75 : decode cX7_init 75 = .ok (.aload_n 0, 1) := by decide +kernel
theorem dX7_init_76 : decode cX7_init 76 = .ok (.bipush 12, 2) := by decide +kernel
theorem dX7_init_78 : decode cX7_init 78 = .ok (.newarray .int, 2) := by decide +kernel
theorem dX7_init_80 : decode cX7_init 80 = .ok (.putfield 40, 3) := by decide +kernel
theorem dX7_init_83 : decode cX7_init 83 = .ok (.aload_n 0, 1) := by decide +kernel
theorem dX7_init_84 : decode cX7_init 84 = .ok (.bipush 48, 2) := by decide +kernel
theorem dX7_init_86 : decode cX7_init 86 = .ok (.newarray .int, 2) := by decide +kernel
theorem dX7_init_88 : decode cX7_init 88 = .ok (.putfield 43, 3) := by decide +kernel
theorem dX7_init_91 : decode cX7_init 91 = .ok (.aload_n 0, 1) := by decide +kernel
theorem dX7_init_92 : decode cX7_init 92 = .ok (.bipush 12, 2) := by decide +kernel
theorem dX7_init_94 : decode cX7_init 94 = .ok (.newarray .int, 2) := by decide +kernel
theorem dX7_init_96 : decode cX7_init 96 = .ok (.putfield 46, 3) := by decide +kernel
theorem dX7_init_99 : decode cX7_init 99 = .ok (.aload_n 0, 1) := by decide +kernel
theorem dX7_init_100 : decode cX7_init 100 = .ok (.iconst 4, 1) := by decide +kernel
theorem dX7_init_101 : decode cX7_init 101 = .ok (.newarray .int, 2) := by decide +kernel
theorem dX7_init_103 : decode cX7_init 103 = .ok (.putfield 49, 3) := by decide +kernel
theorem dX7_init_106 : decode cX7_init 106 = .ok (.aload_n 0, 1) := by decide +kernel
theorem dX7_init_107 : decode cX7_init 107 = .ok (.bipush 16, 2) := by decide +kernel
theorem dX7_init_109 : decode cX7_init 109 = .ok (.newarray .int, 2) := by decide +kernel
theorem dX7_init_111 : decode cX7_init 111 = .ok (.putfield 52, 3) := by decide +kernel
theorem dX7_init_114 : decode cX7_init 114 = .ok (.return_, 1) := by decide +kernel
theorem dX7_readFrom_0 : decode cX7_readFrom 0 = .ok (.iconst 1, 1) := by decide +kernel
theorem dX7_readFrom_1 : decode cX7_readFrom 1 = .ok (.istore_n 2, 1) := by decide +kernel
theorem dX7_readFrom_2 : decode cX7_readFrom 2 = .ok (.iconst 0, 1) := by decide +kernel
theorem dX7_readFrom_3 : decode cX7_readFrom 3 = .ok (.istore_n 3, 1) := by decide +kernel
theorem dX7_readFrom_4 : decode cX7_readFrom 4 = .ok (.iload_n 3, 1) := by decide +kernel
theorem dX7_readFrom_5 : decode cX7_readFrom 5 = .ok (.sipush 900, 3) := by decide +kernel
theorem dX7_readFrom_8 : decode cX7_readFrom 8 = .ok (.if_icmp .ge 111, 3) := by decide +kernel
theorem dX7_readFrom_11 : decode cX7_readFrom 11 = .ok (.iload_n 2, 1) := by decide +kernel
theorem dX7_readFrom_12 : decode cX7_readFrom 12 = .ok (.ifCond .eq 107, 3) := by decide +kernel
theorem dX7_readFrom_15 : decode cX7_readFrom 15 = .ok (.aload_n 1, 1) := by decide +kernel
theorem dX7_readFrom_16 : decode cX7_readFrom 16 = .ok (.getfield 55, 3) := by decide +kernel
theorem dX7_readFrom_19 : decode cX7_readFrom 19 = .ok (.bipush 35, 2) := by decide +kernel
theorem dX7_readFrom_21 : decode cX7_readFrom 21 = .ok (.if_icmp .eq 98, 3) := by decide +kernel
theorem dX7_readFrom_24 : decode cX7_readFrom 24 = .ok (.aload_n 1, 1) := by decide +kernel
theorem dX7_readFrom_25 : decode cX7_readFrom 25 = .ok (.getfield 55, 3) := by decide +kernel
theorem dX7_readFrom_28 : decode cX7_readFrom 28 = .ok (.lookupswitch 80 #[(0, 44), (1, 53), (5, 62), (14, 71)], 44) := by decide +kernel
theorem dX7_readFrom_72 : decode cX7_readFrom 72 = .ok (.aload_n 0, 1) := by decide +kernel
theorem dX7_readFrom_73 : decode cX7_readFrom 73 = .ok (.aload_n 1, 1) := by decide +kernel
theorem dX7_readFrom_74 : decode cX7_readFrom 74 = .ok (.invokevirtual 61, 3) := by decide +kernel
theorem dX7_readFrom_77 : decode cX7_readFrom 77 = .ok (.istore_n 2, 1) := by decide +kernel
theorem dX7_readFrom_78 : decode cX7_readFrom 78 = .ok (.goto 35, 3) := by decide +kernel
theorem dX7_readFrom_81 : decode cX7_readFrom 81 = .ok (.aload_n 0, 1) := by decide +kernel
theorem dX7_readFrom_82 : decode cX7_readFrom 82 = .ok (.aload_n 1, 1) := by decide +kernel
theorem dX7_readFrom_83 : decode cX7_readFrom 83 = .ok (.invokevirtual 65, 3) := by decide +kernel
theorem dX7_readFrom_86 : decode cX7_readFrom 86 = .ok (.istore_n 2, 1) := by decide +kernel
theorem dX7_readFrom_87 : decode cX7_readFrom 87 = .ok (.goto 26, 3) := by decide +kernel
theorem dX7_readFrom_90 : decode cX7_readFrom 90 = .ok (.aload_n 0, 1) := by decide +kernel
theorem dX7_readFrom_91 : decode cX7_readFrom 91 = .ok (.aload_n 1, 1) := by decide +kernel
theorem dX7_readFrom_92 : decode cX7_readFrom 92 = .ok (.invokevirtual 68, 3) := by decide +kernel
theorem dX7_readFrom_95 : decode cX7_readFrom 95 = .ok (.istore_n 2, 1) := by decide +kernel
theorem dX7_readFrom_96 : decode cX7_readFrom 96 = .ok (.goto 17, 3) := by decide +kernel
theorem dX7_readFrom_99 : decode cX7_readFrom 99 = .ok (.aload_n 0, 1) := by decide +kernel
theorem dX7_readFrom_100 : decode cX7_readFrom 100 = .ok (.aload_n 1, 1) := by decide +kernel
theorem dX7_readFrom_101 : decode cX7_readFrom 101 = .ok (.invokevirtual 71, 3) := by decide +kernel
theorem dX7_readFrom_104 : decode cX7_readFrom 104 = .ok (.istore_n 2, 1) := by decide +kernel
theorem dX7_readFrom_105 : decode cX7_readFrom 105 = .ok (.goto 8, 3) := by decide +kernel
theorem dX7_readFrom_108 : decode cX7_readFrom 108 = .ok (.aload_n 1, 1) := by decide +kernel
theorem dX7_readFrom_109 : decode cX7_readFrom 109 = .ok (.invokevirtual 74, 3) := by decide +kernel
theorem dX7_readFrom_112 : decode cX7_readFrom 112 = .ok (.istore_n 2, 1) := by decide +kernel
theorem dX7_readFrom_113 : decode cX7_readFrom 113 = .ok (.iinc 3 1, 3) := by decide +kernel
theorem dX7_readFrom_116 : decode cX7_readFrom 116 = .ok (.goto (-112), 3) := by decide +kernel
theorem dX7_readFrom_119 : decode cX7_readFrom 119 = .ok (.iload_n 2, 1) := by decide +kernel
theorem dX7_readFrom_120 : decode cX7_readFrom 120 = .ok (.ireturn, 1) := by decide +kernel
theorem dX7_readRole_0 : decode cX7_readRole 0 = .ok (.aload_n 0, 1) := by decide +kernel
theorem dX7_readRole_1 : decode cX7_readRole 1 = .ok (.aload_n 1, 1) := by decide +kernel
theorem dX7_readRole_2 : decode cX7_readRole 2 = .ok (.aload_n 0, 1) := by decide +kernel
theorem dX7_readRole_3 : decode cX7_readRole 3 = .ok (.getfield 9, 3) := by decide +kernel
theorem dX7_readRole_6 : decode cX7_readRole 6 = .ok (.aload_n 0, 1) := by decide +kernel
theorem dX7_readRole_7 : decode cX7_readRole 7 = .ok (.getfield 78, 3) := by decide +kernel
theorem dX7_readRole_10 : decode cX7_readRole 10 = .ok (.invokevirtual 81, 3) := by decide +kernel
theorem dX7_readRole_13 : decode cX7_readRole 13 = .ok (.ifCond .eq 12, 3) := by decide +kernel
theorem dX7_readRole_16 : decode cX7_readRole 16 = .ok (.aload_n 1, 1) := by decide +kernel
theorem dX7_readRole_17 : decode cX7_readRole 17 = .ok (.bipush 59, 2) := by decide +kernel
theorem dX7_readRole_19 : decode cX7_readRole 19 = .ok (.invokevirtual 85, 3) := by decide +kernel
theorem dX7_readRole_22 : decode cX7_readRole 22 = .ok (.ifCond .ne 5, 3) := by decide +kernel
theorem dX7_readRole_25 : decode cX7_readRole 25 = .ok (.iconst 0, 1) := by decide +kernel
theorem dX7_readRole_26 : decode cX7_readRole 26 = .ok (.ireturn, 1) := by decide +kernel
theorem dX7_readRole_27 : decode cX7_readRole 27 = .ok (.aload_n 0, 1) := by decide +kernel
theorem dX7_readRole_28 : decode cX7_readRole 28 = .ok (.dup, 1) := by decide +kernel
theorem dX7_readRole_29 : decode cX7_readRole 29 = .ok (.getfield 78, 3) := by decide +kernel
theorem dX7_readRole_32 : decode cX7_readRole 32 = .ok (.iconst 1, 1) := by decide +kernel
theorem dX7_readRole_33 : decode cX7_readRole 33 = .ok (.iadd, 1) := by decide +kernel
theorem dX7_readRole_34 : decode cX7_readRole 34 = .ok (.putfield 78, 3) := by decide +kernel
theorem dX7_readRole_37 : decode cX7_readRole 37 = .ok (.iconst 1, 1) := by decide +kernel
theorem dX7_readRole_38 : decode cX7_readRole 38 = .ok (.ireturn, 1) := by decide +kernel
theorem dX7_readActor_0 : decode cX7_readActor 0 = .ok (.aload_n 0, 1) := by decide +kernel
theorem dX7_readActor_1 : decode cX7_readActor 1 = .ok (.aload_n 1, 1) := by decide +kernel
theorem dX7_readActor_2 : decode cX7_readActor 2 = .ok (.aload_n 0, 1) := by decide +kernel
theorem dX7_readActor_3 : decode cX7_readActor 3 = .ok (.getfield 15, 3) := by decide +kernel
theorem dX7_readActor_6 : decode cX7_readActor 6 = .ok (.aload_n 0, 1) := by decide +kernel
theorem dX7_readActor_7 : decode cX7_readActor 7 = .ok (.getfield 89, 3) := by decide +kernel
theorem dX7_readActor_10 : decode cX7_readActor 10 = .ok (.invokevirtual 81, 3) := by decide +kernel
theorem dX7_readActor_13 : decode cX7_readActor 13 = .ok (.ifCond .eq 21, 3) := by decide +kernel
theorem dX7_readActor_16 : decode cX7_readActor 16 = .ok (.aload_n 1, 1) := by decide +kernel
theorem dX7_readActor_17 : decode cX7_readActor 17 = .ok (.iconst 2, 1) := by decide +kernel
theorem dX7_readActor_18 : decode cX7_readActor 18 = .ok (.invokevirtual 85, 3) := by decide +kernel
theorem dX7_readActor_21 : decode cX7_readActor 21 = .ok (.ifCond .eq 13, 3) := by decide +kernel
theorem dX7_readActor_24 : decode cX7_readActor 24 = .ok (.aload_n 1, 1) := by decide +kernel
theorem dX7_readActor_25 : decode cX7_readActor 25 = .ok (.iconst 0, 1) := by decide +kernel
theorem dX7_readActor_26 : decode cX7_readActor 26 = .ok (.bipush 99, 2) := by decide +kernel
theorem dX7_readActor_28 : decode cX7_readActor 28 = .ok (.invokevirtual 92, 3) := by decide +kernel
theorem dX7_readActor_31 : decode cX7_readActor 31 = .ok (.ifCond .ne 5, 3) := by decide +kernel
theorem dX7_readActor_34 : decode cX7_readActor 34 = .ok (.iconst 0, 1) := by decide +kernel
theorem dX7_readActor_35 : decode cX7_readActor 35 = .ok (.ireturn, 1) := by decide +kernel
theorem dX7_readActor_36 : decode cX7_readActor 36 = .ok (.aload_n 0, 1) := by decide +kernel
theorem dX7_readActor_37 : decode cX7_readActor 37 = .ok (.getfield 24, 3) := by decide +kernel
theorem dX7_readActor_40 : decode cX7_readActor 40 = .ok (.aload_n 0, 1) := by decide +kernel
theorem dX7_readActor_41 : decode cX7_readActor 41 = .ok (.getfield 89, 3) := by decide +kernel
theorem dX7_readActor_44 : decode cX7_readActor 44 = .ok (.aload_n 1, 1) := by decide +kernel
theorem dX7_readActor_45 : decode cX7_readActor 45 = .ok (.getfield 96, 3) := by decide +kernel
theorem dX7_readActor_48 : decode cX7_readActor 48 = .ok (.iastore, 1) := by decide +kernel
theorem dX7_readActor_49 : decode cX7_readActor 49 = .ok (.aload_n 1, 1) := by decide +kernel
theorem dX7_readActor_50 : decode cX7_readActor 50 = .ok (.iconst 3, 1) := by decide +kernel
theorem dX7_readActor_51 : decode cX7_readActor 51 = .ok (.invokevirtual 85, 3) := by decide +kernel
theorem dX7_readActor_54 : decode cX7_readActor 54 = .ok (.ifCond .eq 14, 3) := by decide +kernel
theorem dX7_readActor_57 : decode cX7_readActor 57 = .ok (.aload_n 1, 1) := by decide +kernel
theorem dX7_readActor_58 : decode cX7_readActor 58 = .ok (.iconst 0, 1) := by decide +kernel
theorem dX7_readActor_59 : decode cX7_readActor 59 = .ok (.sipush 999, 3) := by decide +kernel
theorem dX7_readActor_62 : decode cX7_readActor 62 = .ok (.invokevirtual 92, 3) := by decide +kernel
theorem dX7_readActor_65 : decode cX7_readActor 65 = .ok (.ifCond .ne 5, 3) := by decide +kernel
theorem dX7_readActor_68 : decode cX7_readActor 68 = .ok (.iconst 0, 1) := by decide +kernel
theorem dX7_readActor_69 : decode cX7_readActor 69 = .ok (.ireturn, 1) := by decide +kernel
theorem dX7_readActor_70 : decode cX7_readActor 70 = .ok (.aload_n 0, 1) := by decide +kernel
theorem dX7_readActor_71 : decode cX7_readActor 71 = .ok (.getfield 28, 3) := by decide +kernel
theorem dX7_readActor_74 : decode cX7_readActor 74 = .ok (.aload_n 0, 1) := by decide +kernel
theorem dX7_readActor_75 : decode cX7_readActor 75 = .ok (.getfield 89, 3) := by decide +kernel
theorem dX7_readActor_78 : decode cX7_readActor 78 = .ok (.aload_n 1, 1) := by decide +kernel
theorem dX7_readActor_79 : decode cX7_readActor 79 = .ok (.getfield 96, 3) := by decide +kernel
theorem dX7_readActor_82 : decode cX7_readActor 82 = .ok (.iastore, 1) := by decide +kernel
theorem dX7_readActor_83 : decode cX7_readActor 83 = .ok (.aload_n 0, 1) := by decide +kernel
theorem dX7_readActor_84 : decode cX7_readActor 84 = .ok (.getfield 31, 3) := by decide +kernel
theorem dX7_readActor_87 : decode cX7_readActor 87 = .ok (.aload_n 0, 1) := by decide +kernel
theorem dX7_readActor_88 : decode cX7_readActor 88 = .ok (.getfield 89, 3) := by decide +kernel
theorem dX7_readActor_91 : decode cX7_readActor 91 = .ok (.aload_n 1, 1) := by decide +kernel
theorem dX7_readActor_92 : decode cX7_readActor 92 = .ok (.getfield 55, 3) := by decide +kernel
theorem dX7_readActor_95 : decode cX7_readActor 95 = .ok (.iconst 4, 1) := by decide +kernel
theorem dX7_readActor_96 : decode cX7_readActor 96 = .ok (.if_icmp .ne 11, 3) := by decide +kernel
theorem dX7_readActor_99 : decode cX7_readActor 99 = .ok (.aload_n 0, 1) := by decide +kernel
theorem dX7_readActor_100 : decode cX7_readActor 100 = .ok (.aload_n 1, 1) := by decide +kernel
theorem dX7_readActor_101 : decode cX7_readActor 101 = .ok (.invokevirtual 99, 3) := by decide +kernel
theorem dX7_readActor_104 : decode cX7_readActor 104 = .ok (.goto 4, 3) := by decide +kernel
theorem dX7_readActor_107 : decode cX7_readActor 107 = .ok (.iconst 0, 1) := by decide +kernel
theorem dX7_readActor_108 : decode cX7_readActor 108 = .ok (.iastore, 1) := by decide +kernel
theorem dX7_readActor_109 : decode cX7_readActor 109 = .ok (.aload_n 0, 1) := by decide +kernel
theorem dX7_readActor_110 : decode cX7_readActor 110 = .ok (.getfield 31, 3) := by decide +kernel
theorem dX7_readActor_113 : decode cX7_readActor 113 = .ok (.aload_n 0, 1) := by decide +kernel
theorem dX7_readActor_114 : decode cX7_readActor 114 = .ok (.getfield 89, 3) := by decide +kernel
theorem dX7_readActor_117 : decode cX7_readActor 117 = .ok (.iaload, 1) := by decide +kernel
theorem dX7_readActor_118 : decode cX7_readActor 118 = .ok (.iconst (-1), 1) := by decide +kernel
theorem dX7_readActor_119 : decode cX7_readActor 119 = .ok (.if_icmp .eq 12, 3) := by decide +kernel
theorem dX7_readActor_122 : decode cX7_readActor 122 = .ok (.aload_n 1, 1) := by decide +kernel
theorem dX7_readActor_123 : decode cX7_readActor 123 = .ok (.bipush 59, 2) := by decide +kernel
theorem dX7_readActor_125 : decode cX7_readActor 125 = .ok (.invokevirtual 85, 3) := by decide +kernel
theorem dX7_readActor_128 : decode cX7_readActor 128 = .ok (.ifCond .ne 5, 3) := by decide +kernel
theorem dX7_readActor_131 : decode cX7_readActor 131 = .ok (.iconst 0, 1) := by decide +kernel
theorem dX7_readActor_132 : decode cX7_readActor 132 = .ok (.ireturn, 1) := by decide +kernel
theorem dX7_readActor_133 : decode cX7_readActor 133 = .ok (.aload_n 0, 1) := by decide +kernel
theorem dX7_readActor_134 : decode cX7_readActor 134 = .ok (.dup, 1) := by decide +kernel
theorem dX7_readActor_135 : decode cX7_readActor 135 = .ok (.getfield 89, 3) := by decide +kernel
theorem dX7_readActor_138 : decode cX7_readActor 138 = .ok (.iconst 1, 1) := by decide +kernel
theorem dX7_readActor_139 : decode cX7_readActor 139 = .ok (.iadd, 1) := by decide +kernel
theorem dX7_readActor_140 : decode cX7_readActor 140 = .ok (.putfield 89, 3) := by decide +kernel
theorem dX7_readActor_143 : decode cX7_readActor 143 = .ok (.iconst 1, 1) := by decide +kernel
theorem dX7_readActor_144 : decode cX7_readActor 144 = .ok (.ireturn, 1) := by decide +kernel
theorem dX7_readScene_0 : decode cX7_readScene 0 = .ok (.aload_n 0, 1) := by decide +kernel
theorem dX7_readScene_1 : decode cX7_readScene 1 = .ok (.aload_n 1, 1) := by decide +kernel
theorem dX7_readScene_2 : decode cX7_readScene 2 = .ok (.aload_n 0, 1) := by decide +kernel
theorem dX7_readScene_3 : decode cX7_readScene 3 = .ok (.getfield 18, 3) := by decide +kernel
theorem dX7_readScene_6 : decode cX7_readScene 6 = .ok (.aload_n 0, 1) := by decide +kernel
theorem dX7_readScene_7 : decode cX7_readScene 7 = .ok (.getfield 103, 3) := by decide +kernel
theorem dX7_readScene_10 : decode cX7_readScene 10 = .ok (.invokevirtual 81, 3) := by decide +kernel
theorem dX7_readScene_13 : decode cX7_readScene 13 = .ok (.ifCond .eq 22, 3) := by decide +kernel
theorem dX7_readScene_16 : decode cX7_readScene 16 = .ok (.aload_n 1, 1) := by decide +kernel
theorem dX7_readScene_17 : decode cX7_readScene 17 = .ok (.bipush 6, 2) := by decide +kernel
theorem dX7_readScene_19 : decode cX7_readScene 19 = .ok (.invokevirtual 85, 3) := by decide +kernel
theorem dX7_readScene_22 : decode cX7_readScene 22 = .ok (.ifCond .eq 13, 3) := by decide +kernel
theorem dX7_readScene_25 : decode cX7_readScene 25 = .ok (.aload_n 1, 1) := by decide +kernel
theorem dX7_readScene_26 : decode cX7_readScene 26 = .ok (.iconst 1, 1) := by decide +kernel
theorem dX7_readScene_27 : decode cX7_readScene 27 = .ok (.bipush 20, 2) := by decide +kernel
theorem dX7_readScene_29 : decode cX7_readScene 29 = .ok (.invokevirtual 92, 3) := by decide +kernel
theorem dX7_readScene_32 : decode cX7_readScene 32 = .ok (.ifCond .ne 5, 3) := by decide +kernel
theorem dX7_readScene_35 : decode cX7_readScene 35 = .ok (.iconst 0, 1) := by decide +kernel
theorem dX7_readScene_36 : decode cX7_readScene 36 = .ok (.ireturn, 1) := by decide +kernel
theorem dX7_readScene_37 : decode cX7_readScene 37 = .ok (.aload_n 0, 1) := by decide +kernel
theorem dX7_readScene_38 : decode cX7_readScene 38 = .ok (.getfield 34, 3) := by decide +kernel
theorem dX7_readScene_41 : decode cX7_readScene 41 = .ok (.aload_n 0, 1) := by decide +kernel
theorem dX7_readScene_42 : decode cX7_readScene 42 = .ok (.getfield 103, 3) := by decide +kernel
theorem dX7_readScene_45 : decode cX7_readScene 45 = .ok (.aload_n 1, 1) := by decide +kernel
theorem dX7_readScene_46 : decode cX7_readScene 46 = .ok (.getfield 96, 3) := by decide +kernel
theorem dX7_readScene_49 : decode cX7_readScene 49 = .ok (.iastore, 1) := by decide +kernel
theorem dX7_readScene_50 : decode cX7_readScene 50 = .ok (.aload_n 0, 1) := by decide +kernel
theorem dX7_readScene_51 : decode cX7_readScene 51 = .ok (.getfield 37, 3) := by decide +kernel
theorem dX7_readScene_54 : decode cX7_readScene 54 = .ok (.aload_n 0, 1) := by decide +kernel
theorem dX7_readScene_55 : decode cX7_readScene 55 = .ok (.getfield 103, 3) := by decide +kernel
theorem dX7_readScene_58 : decode cX7_readScene 58 = .ok (.aload_n 1, 1) := by decide +kernel
theorem dX7_readScene_59 : decode cX7_readScene 59 = .ok (.getfield 55, 3) := by decide +kernel
theorem dX7_readScene_62 : decode cX7_readScene 62 = .ok (.bipush 7, 2) := by decide +kernel
theorem dX7_readScene_64 : decode cX7_readScene 64 = .ok (.if_icmp .ne 11, 3) := by decide +kernel
theorem dX7_readScene_67 : decode cX7_readScene 67 = .ok (.aload_n 0, 1) := by decide +kernel
theorem dX7_readScene_68 : decode cX7_readScene 68 = .ok (.aload_n 1, 1) := by decide +kernel
theorem dX7_readScene_69 : decode cX7_readScene 69 = .ok (.invokevirtual 99, 3) := by decide +kernel
theorem dX7_readScene_72 : decode cX7_readScene 72 = .ok (.goto 4, 3) := by decide +kernel
theorem dX7_readScene_75 : decode cX7_readScene 75 = .ok (.iconst 0, 1) := by decide +kernel
theorem dX7_readScene_76 : decode cX7_readScene 76 = .ok (.iastore, 1) := by decide +kernel
theorem dX7_readScene_77 : decode cX7_readScene 77 = .ok (.aload_n 0, 1) := by decide +kernel
theorem dX7_readScene_78 : decode cX7_readScene 78 = .ok (.getfield 37, 3) := by decide +kernel
theorem dX7_readScene_81 : decode cX7_readScene 81 = .ok (.aload_n 0, 1) := by decide +kernel
theorem dX7_readScene_82 : decode cX7_readScene 82 = .ok (.getfield 103, 3) := by decide +kernel
theorem dX7_readScene_85 : decode cX7_readScene 85 = .ok (.iaload, 1) := by decide +kernel
theorem dX7_readScene_86 : decode cX7_readScene 86 = .ok (.iconst (-1), 1) := by decide +kernel
theorem dX7_readScene_87 : decode cX7_readScene 87 = .ok (.if_icmp .eq 11, 3) := by decide +kernel
theorem dX7_readScene_90 : decode cX7_readScene 90 = .ok (.aload_n 0, 1) := by decide +kernel
theorem dX7_readScene_91 : decode cX7_readScene 91 = .ok (.aload_n 1, 1) := by decide +kernel
theorem dX7_readScene_92 : decode cX7_readScene 92 = .ok (.invokevirtual 106, 3) := by decide +kernel
theorem dX7_readScene_95 : decode cX7_readScene 95 = .ok (.ifCond .ne 5, 3) := by decide +kernel
theorem dX7_readScene_98 : decode cX7_readScene 98 = .ok (.iconst 0, 1) := by decide +kernel
theorem dX7_readScene_99 : decode cX7_readScene 99 = .ok (.ireturn, 1) := by decide +kernel
theorem dX7_readScene_100 : decode cX7_readScene 100 = .ok (.iconst 0, 1) := by decide +kernel
theorem dX7_readScene_101 : decode cX7_readScene 101 = .ok (.istore_n 2, 1) := by decide +kernel
theorem dX7_readScene_102 : decode cX7_readScene 102 = .ok (.iload_n 2, 1) := by decide +kernel
theorem dX7_readScene_103 : decode cX7_readScene 103 = .ok (.iconst 4, 1) := by decide +kernel
theorem dX7_readScene_104 : decode cX7_readScene 104 = .ok (.if_icmp .ge 20, 3) := by decide +kernel
theorem dX7_readScene_107 : decode cX7_readScene 107 = .ok (.aload_n 0, 1) := by decide +kernel
theorem dX7_readScene_108 : decode cX7_readScene 108 = .ok (.aload_n 1, 1) := by decide +kernel
theorem dX7_readScene_109 : decode cX7_readScene 109 = .ok (.iload_n 2, 1) := by decide +kernel
theorem dX7_readScene_110 : decode cX7_readScene 110 = .ok (.invokevirtual 109, 3) := by decide +kernel
theorem dX7_readScene_113 : decode cX7_readScene 113 = .ok (.ifCond .ne 5, 3) := by decide +kernel
theorem dX7_readScene_116 : decode cX7_readScene 116 = .ok (.iconst 0, 1) := by decide +kernel
theorem dX7_readScene_117 : decode cX7_readScene 117 = .ok (.ireturn, 1) := by decide +kernel
theorem dX7_readScene_118 : decode cX7_readScene 118 = .ok (.iinc 2 1, 3) := by decide +kernel
theorem dX7_readScene_121 : decode cX7_readScene 121 = .ok (.goto (-19), 3) := by decide +kernel
theorem dX7_readScene_124 : decode cX7_readScene 124 = .ok (.aload_n 0, 1) := by decide +kernel
theorem dX7_readScene_125 : decode cX7_readScene 125 = .ok (.aload_n 1, 1) := by decide +kernel
theorem dX7_readScene_126 : decode cX7_readScene 126 = .ok (.invokevirtual 113, 3) := by decide +kernel
theorem dX7_readScene_129 : decode cX7_readScene 129 = .ok (.ifCond .eq 12, 3) := by decide +kernel
theorem dX7_readScene_132 : decode cX7_readScene 132 = .ok (.aload_n 1, 1) := by decide +kernel
theorem dX7_readScene_133 : decode cX7_readScene 133 = .ok (.bipush 59, 2) := by decide +kernel
theorem dX7_readScene_135 : decode cX7_readScene 135 = .ok (.invokevirtual 85, 3) := by decide +kernel
theorem dX7_readScene_138 : decode cX7_readScene 138 = .ok (.ifCond .ne 5, 3) := by decide +kernel
theorem dX7_readScene_141 : decode cX7_readScene 141 = .ok (.iconst 0, 1) := by decide +kernel
theorem dX7_readScene_142 : decode cX7_readScene 142 = .ok (.ireturn, 1) := by decide +kernel
theorem dX7_readScene_143 : decode cX7_readScene 143 = .ok (.aload_n 0, 1) := by decide +kernel
theorem dX7_readScene_144 : decode cX7_readScene 144 = .ok (.dup, 1) := by decide +kernel
theorem dX7_readScene_145 : decode cX7_readScene 145 = .ok (.getfield 103, 3) := by decide +kernel
theorem dX7_readScene_148 : decode cX7_readScene 148 = .ok (.iconst 1, 1) := by decide +kernel
theorem dX7_readScene_149 : decode cX7_readScene 149 = .ok (.iadd, 1) := by decide +kernel
theorem dX7_readScene_150 : decode cX7_readScene 150 = .ok (.putfield 103, 3) := by decide +kernel
theorem dX7_readScene_153 : decode cX7_readScene 153 = .ok (.iconst 1, 1) := by decide +kernel
theorem dX7_readScene_154 : decode cX7_readScene 154 = .ok (.ireturn, 1) := by decide +kernel
theorem dX7_readKind_0 : decode cX7_readKind 0 = .ok (.aload_n 0, 1) := by decide +kernel
theorem dX7_readKind_1 : decode cX7_readKind 1 = .ok (.aload_n 1, 1) := by decide +kernel
theorem dX7_readKind_2 : decode cX7_readKind 2 = .ok (.aload_n 0, 1) := by decide +kernel
theorem dX7_readKind_3 : decode cX7_readKind 3 = .ok (.getfield 21, 3) := by decide +kernel
theorem dX7_readKind_6 : decode cX7_readKind 6 = .ok (.aload_n 0, 1) := by decide +kernel
theorem dX7_readKind_7 : decode cX7_readKind 7 = .ok (.getfield 116, 3) := by decide +kernel
theorem dX7_readKind_10 : decode cX7_readKind 10 = .ok (.invokevirtual 81, 3) := by decide +kernel
theorem dX7_readKind_13 : decode cX7_readKind 13 = .ok (.ifCond .eq 22, 3) := by decide +kernel
theorem dX7_readKind_16 : decode cX7_readKind 16 = .ok (.aload_n 1, 1) := by decide +kernel
theorem dX7_readKind_17 : decode cX7_readKind 17 = .ok (.bipush 15, 2) := by decide +kernel
theorem dX7_readKind_19 : decode cX7_readKind 19 = .ok (.invokevirtual 85, 3) := by decide +kernel
theorem dX7_readKind_22 : decode cX7_readKind 22 = .ok (.ifCond .eq 13, 3) := by decide +kernel
theorem dX7_readKind_25 : decode cX7_readKind 25 = .ok (.aload_n 1, 1) := by decide +kernel
theorem dX7_readKind_26 : decode cX7_readKind 26 = .ok (.iconst 1, 1) := by decide +kernel
theorem dX7_readKind_27 : decode cX7_readKind 27 = .ok (.bipush 30, 2) := by decide +kernel
theorem dX7_readKind_29 : decode cX7_readKind 29 = .ok (.invokevirtual 92, 3) := by decide +kernel
theorem dX7_readKind_32 : decode cX7_readKind 32 = .ok (.ifCond .ne 5, 3) := by decide +kernel
theorem dX7_readKind_35 : decode cX7_readKind 35 = .ok (.iconst 0, 1) := by decide +kernel
theorem dX7_readKind_36 : decode cX7_readKind 36 = .ok (.ireturn, 1) := by decide +kernel
theorem dX7_readKind_37 : decode cX7_readKind 37 = .ok (.aload_n 0, 1) := by decide +kernel
theorem dX7_readKind_38 : decode cX7_readKind 38 = .ok (.getfield 49, 3) := by decide +kernel
theorem dX7_readKind_41 : decode cX7_readKind 41 = .ok (.aload_n 0, 1) := by decide +kernel
theorem dX7_readKind_42 : decode cX7_readKind 42 = .ok (.getfield 116, 3) := by decide +kernel
theorem dX7_readKind_45 : decode cX7_readKind 45 = .ok (.aload_n 1, 1) := by decide +kernel
theorem dX7_readKind_46 : decode cX7_readKind 46 = .ok (.getfield 96, 3) := by decide +kernel
theorem dX7_readKind_49 : decode cX7_readKind 49 = .ok (.iastore, 1) := by decide +kernel
theorem dX7_readKind_50 : decode cX7_readKind 50 = .ok (.bipush 16, 2) := by decide +kernel
theorem dX7_readKind_52 : decode cX7_readKind 52 = .ok (.istore_n 2, 1) := by decide +kernel
theorem dX7_readKind_53 : decode cX7_readKind 53 = .ok (.iconst 1, 1) := by decide +kernel
theorem dX7_readKind_54 : decode cX7_readKind 54 = .ok (.istore_n 3, 1) := by decide +kernel
theorem dX7_readKind_55 : decode cX7_readKind 55 = .ok (.iload_n 3, 1) := by decide +kernel
theorem dX7_readKind_56 : decode cX7_readKind 56 = .ok (.iconst 4, 1) := by decide +kernel
theorem dX7_readKind_57 : decode cX7_readKind 57 = .ok (.if_icmp .ge 57, 3) := by decide +kernel
theorem dX7_readKind_60 : decode cX7_readKind 60 = .ok (.aload_n 1, 1) := by decide +kernel
theorem dX7_readKind_61 : decode cX7_readKind 61 = .ok (.bipush 16, 2) := by decide +kernel
theorem dX7_readKind_63 : decode cX7_readKind 63 = .ok (.iload_n 3, 1) := by decide +kernel
theorem dX7_readKind_64 : decode cX7_readKind 64 = .ok (.iadd, 1) := by decide +kernel
theorem dX7_readKind_65 : decode cX7_readKind 65 = .ok (.iconst 1, 1) := by decide +kernel
theorem dX7_readKind_66 : decode cX7_readKind 66 = .ok (.isub, 1) := by decide +kernel
theorem dX7_readKind_67 : decode cX7_readKind 67 = .ok (.invokevirtual 85, 3) := by decide +kernel
theorem dX7_readKind_70 : decode cX7_readKind 70 = .ok (.ifCond .eq 12, 3) := by decide +kernel
theorem dX7_readKind_73 : decode cX7_readKind 73 = .ok (.aload_n 1, 1) := by decide +kernel
theorem dX7_readKind_74 : decode cX7_readKind 74 = .ok (.iconst 0, 1) := by decide +kernel
theorem dX7_readKind_75 : decode cX7_readKind 75 = .ok (.iload_n 2, 1) := by decide +kernel
theorem dX7_readKind_76 : decode cX7_readKind 76 = .ok (.invokevirtual 92, 3) := by decide +kernel
theorem dX7_readKind_79 : decode cX7_readKind 79 = .ok (.ifCond .ne 5, 3) := by decide +kernel
theorem dX7_readKind_82 : decode cX7_readKind 82 = .ok (.iconst 0, 1) := by decide +kernel
theorem dX7_readKind_83 : decode cX7_readKind 83 = .ok (.ireturn, 1) := by decide +kernel
theorem dX7_readKind_84 : decode cX7_readKind 84 = .ok (.aload_n 0, 1) := by decide +kernel
theorem dX7_readKind_85 : decode cX7_readKind 85 = .ok (.getfield 52, 3) := by decide +kernel
theorem dX7_readKind_88 : decode cX7_readKind 88 = .ok (.aload_n 0, 1) := by decide +kernel
theorem dX7_readKind_89 : decode cX7_readKind 89 = .ok (.getfield 116, 3) := by decide +kernel
theorem dX7_readKind_92 : decode cX7_readKind 92 = .ok (.iconst 4, 1) := by decide +kernel
theorem dX7_readKind_93 : decode cX7_readKind 93 = .ok (.imul, 1) := by decide +kernel
theorem dX7_readKind_94 : decode cX7_readKind 94 = .ok (.iload_n 3, 1) := by decide +kernel
theorem dX7_readKind_95 : decode cX7_readKind 95 = .ok (.iadd, 1) := by decide +kernel
theorem dX7_readKind_96 : decode cX7_readKind 96 = .ok (.aload_n 1, 1) := by decide +kernel
theorem dX7_readKind_97 : decode cX7_readKind 97 = .ok (.getfield 96, 3) := by decide +kernel
theorem dX7_readKind_100 : decode cX7_readKind 100 = .ok (.iastore, 1) := by decide +kernel
theorem dX7_readKind_101 : decode cX7_readKind 101 = .ok (.iload_n 2, 1) := by decide +kernel
theorem dX7_readKind_102 : decode cX7_readKind 102 = .ok (.aload_n 1, 1) := by decide +kernel
theorem dX7_readKind_103 : decode cX7_readKind 103 = .ok (.getfield 96, 3) := by decide +kernel
theorem dX7_readKind_106 : decode cX7_readKind 106 = .ok (.isub, 1) := by decide +kernel
theorem dX7_readKind_107 : decode cX7_readKind 107 = .ok (.istore_n 2, 1) := by decide +kernel
theorem dX7_readKind_108 : decode cX7_readKind 108 = .ok (.iinc 3 1, 3) := by decide +kernel
theorem dX7_readKind_111 : decode cX7_readKind 111 = .ok (.goto (-56), 3) := by decide +kernel
theorem dX7_readKind_114 : decode cX7_readKind 114 = .ok (.aload_n 0, 1) := by decide +kernel
theorem dX7_readKind_115 : decode cX7_readKind 115 = .ok (.getfield 52, 3) := by decide +kernel
theorem dX7_readKind_118 : decode cX7_readKind 118 = .ok (.aload_n 0, 1) := by decide +kernel
theorem dX7_readKind_119 : decode cX7_readKind 119 = .ok (.getfield 116, 3) := by decide +kernel
theorem dX7_readKind_122 : decode cX7_readKind 122 = .ok (.iconst 4, 1) := by decide +kernel
theorem dX7_readKind_123 : decode cX7_readKind 123 = .ok (.imul, 1) := by decide +kernel
theorem dX7_readKind_124 : decode cX7_readKind 124 = .ok (.iload_n 2, 1) := by decide +kernel
theorem dX7_readKind_125 : decode cX7_readKind 125 = .ok (.iastore, 1) := by decide +kernel
theorem dX7_readKind_126 : decode cX7_readKind 126 = .ok (.aload_n 1, 1) := by decide +kernel
theorem dX7_readKind_127 : decode cX7_readKind 127 = .ok (.bipush 59, 2) := by decide +kernel
theorem dX7_readKind_129 : decode cX7_readKind 129 = .ok (.invokevirtual 85, 3) := by decide +kernel
theorem dX7_readKind_132 : decode cX7_readKind 132 = .ok (.ifCond .ne 5, 3) := by decide +kernel
theorem dX7_readKind_135 : decode cX7_readKind 135 = .ok (.iconst 0, 1) := by decide +kernel
theorem dX7_readKind_136 : decode cX7_readKind 136 = .ok (.ireturn, 1) := by decide +kernel
theorem dX7_readKind_137 : decode cX7_readKind 137 = .ok (.aload_n 0, 1) := by decide +kernel
theorem dX7_readKind_138 : decode cX7_readKind 138 = .ok (.dup, 1) := by decide +kernel
theorem dX7_readKind_139 : decode cX7_readKind 139 = .ok (.getfield 116, 3) := by decide +kernel
theorem dX7_readKind_142 : decode cX7_readKind 142 = .ok (.iconst 1, 1) := by decide +kernel
theorem dX7_readKind_143 : decode cX7_readKind 143 = .ok (.iadd, 1) := by decide +kernel
theorem dX7_readKind_144 : decode cX7_readKind 144 = .ok (.putfield 116, 3) := by decide +kernel
theorem dX7_readKind_147 : decode cX7_readKind 147 = .ok (.iconst 1, 1) := by decide +kernel
theorem dX7_readKind_148 : decode cX7_readKind 148 = .ok (.ireturn, 1) := by decide +kernel
theorem dX7_readNew_0 : decode cX7_readNew 0 = .ok (.iload_n 3, 1) := by decide +kernel
theorem dX7_readNew_1 : decode cX7_readNew 1 = .ok (.aload_n 2, 1) := by decide +kernel
theorem dX7_readNew_2 : decode cX7_readNew 2 = .ok (.arraylength, 1) := by decide +kernel
theorem dX7_readNew_3 : decode cX7_readNew 3 = .ok (.if_icmp .lt 10, 3) := by decide +kernel
theorem dX7_readNew_6 : decode cX7_readNew 6 = .ok (.aload_n 1, 1) := by decide +kernel
theorem dX7_readNew_7 : decode cX7_readNew 7 = .ok (.bipush 6, 2) := by decide +kernel
theorem dX7_readNew_9 : decode cX7_readNew 9 = .ok (.invokevirtual 119, 3) := by decide +kernel
theorem dX7_readNew_12 : decode cX7_readNew 12 = .ok (.ireturn, 1) := by decide +kernel
theorem dX7_readNew_13 : decode cX7_readNew 13 = .ok (.aload_n 1, 1) := by decide +kernel
theorem dX7_readNew_14 : decode cX7_readNew 14 = .ok (.invokevirtual 122, 3) := by decide +kernel
theorem dX7_readNew_17 : decode cX7_readNew 17 = .ok (.aload_n 1, 1) := by decide +kernel
theorem dX7_readNew_18 : decode cX7_readNew 18 = .ok (.getfield 55, 3) := by decide +kernel
theorem dX7_readNew_21 : decode cX7_readNew 21 = .ok (.bipush 32, 2) := by decide +kernel
theorem dX7_readNew_23 : decode cX7_readNew 23 = .ok (.if_icmp .eq 8, 3) := by decide +kernel
theorem dX7_readNew_26 : decode cX7_readNew 26 = .ok (.aload_n 1, 1) := by decide +kernel
theorem dX7_readNew_27 : decode cX7_readNew 27 = .ok (.invokevirtual 74, 3) := by decide +kernel
theorem dX7_readNew_30 : decode cX7_readNew 30 = .ok (.ireturn, 1) := by decide +kernel
theorem dX7_readNew_31 : decode cX7_readNew 31 = .ok (.aload_n 0, 1) := by decide +kernel
theorem dX7_readNew_32 : decode cX7_readNew 32 = .ok (.aload_n 1, 1) := by decide +kernel
theorem dX7_readNew_33 : decode cX7_readNew 33 = .ok (.getfield 125, 3) := by decide +kernel
theorem dX7_readNew_36 : decode cX7_readNew 36 = .ok (.invokevirtual 129, 3) := by decide +kernel
theorem dX7_readNew_39 : decode cX7_readNew 39 = .ok (.ifCond .eq 9, 3) := by decide +kernel
theorem dX7_readNew_42 : decode cX7_readNew 42 = .ok (.aload_n 1, 1) := by decide +kernel
theorem dX7_readNew_43 : decode cX7_readNew 43 = .ok (.iconst 3, 1) := by decide +kernel
theorem dX7_readNew_44 : decode cX7_readNew 44 = .ok (.invokevirtual 119, 3) := by decide +kernel
theorem dX7_readNew_47 : decode cX7_readNew 47 = .ok (.ireturn, 1) := by decide +kernel
theorem dX7_readNew_48 : decode cX7_readNew 48 = .ok (.aload_n 2, 1) := by decide +kernel
theorem dX7_readNew_49 : decode cX7_readNew 49 = .ok (.iload_n 3, 1) := by decide +kernel
theorem dX7_readNew_50 : decode cX7_readNew 50 = .ok (.aload_n 1, 1) := by decide +kernel
theorem dX7_readNew_51 : decode cX7_readNew 51 = .ok (.getfield 125, 3) := by decide +kernel
theorem dX7_readNew_54 : decode cX7_readNew 54 = .ok (.lastore, 1) := by decide +kernel
theorem dX7_readNew_55 : decode cX7_readNew 55 = .ok (.aload_n 1, 1) := by decide +kernel
theorem dX7_readNew_56 : decode cX7_readNew 56 = .ok (.invokevirtual 122, 3) := by decide +kernel
theorem dX7_readNew_59 : decode cX7_readNew 59 = .ok (.iconst 1, 1) := by decide +kernel
theorem dX7_readNew_60 : decode cX7_readNew 60 = .ok (.ireturn, 1) := by decide +kernel
theorem dX7_isTaken_0 : decode cX7_isTaken 0 = .ok (.aload_n 0, 1) := by decide +kernel
theorem dX7_isTaken_1 : decode cX7_isTaken 1 = .ok (.getfield 9, 3) := by decide +kernel
theorem dX7_isTaken_4 : decode cX7_isTaken 4 = .ok (.aload_n 0, 1) := by decide +kernel
theorem dX7_isTaken_5 : decode cX7_isTaken 5 = .ok (.getfield 78, 3) := by decide +kernel
theorem dX7_isTaken_8 : decode cX7_isTaken 8 = .ok (.lload_n 1, 1) := by decide +kernel
theorem dX7_isTaken_9 : decode cX7_isTaken 9 = .ok (.invokestatic 133, 3) := by decide +kernel
theorem dX7_isTaken_12 : decode cX7_isTaken 12 = .ok (.iconst (-1), 1) := by decide +kernel
theorem dX7_isTaken_13 : decode cX7_isTaken 13 = .ok (.if_icmp .ne 51, 3) := by decide +kernel
theorem dX7_isTaken_16 : decode cX7_isTaken 16 = .ok (.aload_n 0, 1) := by decide +kernel
theorem dX7_isTaken_17 : decode cX7_isTaken 17 = .ok (.getfield 15, 3) := by decide +kernel
theorem dX7_isTaken_20 : decode cX7_isTaken 20 = .ok (.aload_n 0, 1) := by decide +kernel
theorem dX7_isTaken_21 : decode cX7_isTaken 21 = .ok (.getfield 89, 3) := by decide +kernel
theorem dX7_isTaken_24 : decode cX7_isTaken 24 = .ok (.lload_n 1, 1) := by decide +kernel
theorem dX7_isTaken_25 : decode cX7_isTaken 25 = .ok (.invokestatic 133, 3) := by decide +kernel
theorem dX7_isTaken_28 : decode cX7_isTaken 28 = .ok (.iconst (-1), 1) := by decide +kernel
theorem dX7_isTaken_29 : decode cX7_isTaken 29 = .ok (.if_icmp .ne 35, 3) := by decide +kernel
theorem dX7_isTaken_32 : decode cX7_isTaken 32 = .ok (.aload_n 0, 1) := by decide +kernel
theorem dX7_isTaken_33 : decode cX7_isTaken 33 = .ok (.getfield 18, 3) := by decide +kernel
theorem dX7_isTaken_36 : decode cX7_isTaken 36 = .ok (.aload_n 0, 1) := by decide +kernel
theorem dX7_isTaken_37 : decode cX7_isTaken 37 = .ok (.getfield 103, 3) := by decide +kernel
theorem dX7_isTaken_40 : decode cX7_isTaken 40 = .ok (.lload_n 1, 1) := by decide +kernel
theorem dX7_isTaken_41 : decode cX7_isTaken 41 = .ok (.invokestatic 133, 3) := by decide +kernel
theorem dX7_isTaken_44 : decode cX7_isTaken 44 = .ok (.iconst (-1), 1) := by decide +kernel
theorem dX7_isTaken_45 : decode cX7_isTaken 45 = .ok (.if_icmp .ne 19, 3) := by decide +kernel
theorem dX7_isTaken_48 : decode cX7_isTaken 48 = .ok (.aload_n 0, 1) := by decide +kernel
theorem dX7_isTaken_49 : decode cX7_isTaken 49 = .ok (.getfield 21, 3) := by decide +kernel
theorem dX7_isTaken_52 : decode cX7_isTaken 52 = .ok (.aload_n 0, 1) := by decide +kernel
theorem dX7_isTaken_53 : decode cX7_isTaken 53 = .ok (.getfield 116, 3) := by decide +kernel
theorem dX7_isTaken_56 : decode cX7_isTaken 56 = .ok (.lload_n 1, 1) := by decide +kernel
theorem dX7_isTaken_57 : decode cX7_isTaken 57 = .ok (.invokestatic 133, 3) := by decide +kernel
theorem dX7_isTaken_60 : decode cX7_isTaken 60 = .ok (.iconst (-1), 1) := by decide +kernel
theorem dX7_isTaken_61 : decode cX7_isTaken 61 = .ok (.if_icmp .eq 7, 3) := by decide +kernel
theorem dX7_isTaken_64 : decode cX7_isTaken 64 = .ok (.iconst 1, 1) := by decide +kernel
theorem dX7_isTaken_65 : decode cX7_isTaken 65 = .ok (.goto 4, 3) := by decide +kernel
theorem dX7_isTaken_68 : decode cX7_isTaken 68 = .ok (.iconst 0, 1) := by decide +kernel
theorem dX7_isTaken_69 : decode cX7_isTaken 69 = .ok (.ireturn, 1) := by decide +kernel
theorem dX7_readRoles_0 : decode cX7_readRoles 0 = .ok (.aload_n 1, 1) := by decide +kernel
theorem dX7_readRoles_1 : decode cX7_readRoles 1 = .ok (.invokevirtual 122, 3) := by decide +kernel
theorem dX7_readRoles_4 : decode cX7_readRoles 4 = .ok (.iconst 0, 1) := by decide +kernel
theorem dX7_readRoles_5 : decode cX7_readRoles 5 = .ok (.istore_n 2, 1) := by decide +kernel
theorem dX7_readRoles_6 : decode cX7_readRoles 6 = .ok (.iconst 0, 1) := by decide +kernel
theorem dX7_readRoles_7 : decode cX7_readRoles 7 = .ok (.istore_n 3, 1) := by decide +kernel
theorem dX7_readRoles_8 : decode cX7_readRoles 8 = .ok (.iload_n 3, 1) := by decide +kernel
theorem dX7_readRoles_9 : decode cX7_readRoles 9 = .ok (.bipush 6, 2) := by decide +kernel
theorem dX7_readRoles_11 : decode cX7_readRoles 11 = .ok (.if_icmp .gt 95, 3) := by decide +kernel
theorem dX7_readRoles_14 : decode cX7_readRoles 14 = .ok (.iload_n 3, 1) := by decide +kernel
theorem dX7_readRoles_15 : decode cX7_readRoles 15 = .ok (.ifCond .eq 12, 3) := by decide +kernel
theorem dX7_readRoles_18 : decode cX7_readRoles 18 = .ok (.aload_n 1, 1) := by decide +kernel
theorem dX7_readRoles_19 : decode cX7_readRoles 19 = .ok (.getfield 55, 3) := by decide +kernel
theorem dX7_readRoles_22 : decode cX7_readRoles 22 = .ok (.bipush 32, 2) := by decide +kernel
theorem dX7_readRoles_24 : decode cX7_readRoles 24 = .ok (.if_icmp .ne 82, 3) := by decide +kernel
theorem dX7_readRoles_27 : decode cX7_readRoles 27 = .ok (.aload_n 0, 1) := by decide +kernel
theorem dX7_readRoles_28 : decode cX7_readRoles 28 = .ok (.getfield 9, 3) := by decide +kernel
theorem dX7_readRoles_31 : decode cX7_readRoles 31 = .ok (.aload_n 0, 1) := by decide +kernel
theorem dX7_readRoles_32 : decode cX7_readRoles 32 = .ok (.getfield 78, 3) := by decide +kernel
theorem dX7_readRoles_35 : decode cX7_readRoles 35 = .ok (.aload_n 1, 1) := by decide +kernel
theorem dX7_readRoles_36 : decode cX7_readRoles 36 = .ok (.getfield 125, 3) := by decide +kernel
theorem dX7_readRoles_39 : decode cX7_readRoles 39 = .ok (.invokestatic 133, 3) := by decide +kernel
theorem dX7_readRoles_42 : decode cX7_readRoles 42 = .ok (.istore 4, 2) := by decide +kernel
theorem dX7_readRoles_44 : decode cX7_readRoles 44 = .ok (.aload_n 1, 1) := by decide +kernel
theorem dX7_readRoles_45 : decode cX7_readRoles 45 = .ok (.getfield 55, 3) := by decide +kernel
theorem dX7_readRoles_48 : decode cX7_readRoles 48 = .ok (.bipush 32, 2) := by decide +kernel
theorem dX7_readRoles_50 : decode cX7_readRoles 50 = .ok (.if_icmp .ne 26, 3) := by decide +kernel
theorem dX7_readRoles_53 : decode cX7_readRoles 53 = .ok (.iload 4, 2) := by decide +kernel
theorem dX7_readRoles_55 : decode cX7_readRoles 55 = .ok (.iconst (-1), 1) := by decide +kernel
theorem dX7_readRoles_56 : decode cX7_readRoles 56 = .ok (.if_icmp .eq 20, 3) := by decide +kernel
theorem dX7_readRoles_59 : decode cX7_readRoles 59 = .ok (.iload_n 2, 1) := by decide +kernel
theorem dX7_readRoles_60 : decode cX7_readRoles 60 = .ok (.iload 4, 2) := by decide +kernel
theorem dX7_readRoles_62 : decode cX7_readRoles 62 = .ok (.ishr, 1) := by decide +kernel
theorem dX7_readRoles_63 : decode cX7_readRoles 63 = .ok (.iconst 1, 1) := by decide +kernel
theorem dX7_readRoles_64 : decode cX7_readRoles 64 = .ok (.iand, 1) := by decide +kernel
theorem dX7_readRoles_65 : decode cX7_readRoles 65 = .ok (.ifCond .eq 11, 3) := by decide +kernel
theorem dX7_readRoles_68 : decode cX7_readRoles 68 = .ok (.aload_n 1, 1) := by decide +kernel
theorem dX7_readRoles_69 : decode cX7_readRoles 69 = .ok (.iconst 5, 1) := by decide +kernel
theorem dX7_readRoles_70 : decode cX7_readRoles 70 = .ok (.invokevirtual 119, 3) := by decide +kernel
theorem dX7_readRoles_73 : decode cX7_readRoles 73 = .ok (.pop, 1) := by decide +kernel
theorem dX7_readRoles_74 : decode cX7_readRoles 74 = .ok (.iconst (-1), 1) := by decide +kernel
theorem dX7_readRoles_75 : decode cX7_readRoles 75 = .ok (.ireturn, 1) := by decide +kernel
theorem dX7_readRoles_76 : decode cX7_readRoles 76 = .ok (.aload_n 1, 1) := by decide +kernel
theorem dX7_readRoles_77 : decode cX7_readRoles 77 = .ok (.aload_n 0, 1) := by decide +kernel
theorem dX7_readRoles_78 : decode cX7_readRoles 78 = .ok (.getfield 9, 3) := by decide +kernel
theorem dX7_readRoles_81 : decode cX7_readRoles 81 = .ok (.aload_n 0, 1) := by decide +kernel
theorem dX7_readRoles_82 : decode cX7_readRoles 82 = .ok (.getfield 78, 3) := by decide +kernel
theorem dX7_readRoles_85 : decode cX7_readRoles 85 = .ok (.invokevirtual 137, 3) := by decide +kernel
theorem dX7_readRoles_88 : decode cX7_readRoles 88 = .ok (.ifCond .ne 5, 3) := by decide +kernel
theorem dX7_readRoles_91 : decode cX7_readRoles 91 = .ok (.iconst (-1), 1) := by decide +kernel
theorem dX7_readRoles_92 : decode cX7_readRoles 92 = .ok (.ireturn, 1) := by decide +kernel
theorem dX7_readRoles_93 : decode cX7_readRoles 93 = .ok (.iload_n 2, 1) := by decide +kernel
theorem dX7_readRoles_94 : decode cX7_readRoles 94 = .ok (.iconst 1, 1) := by decide +kernel
theorem dX7_readRoles_95 : decode cX7_readRoles 95 = .ok (.iload 4, 2) := by decide +kernel
theorem dX7_readRoles_97 : decode cX7_readRoles 97 = .ok (.ishl, 1) := by decide +kernel
theorem dX7_readRoles_98 : decode cX7_readRoles 98 = .ok (.ior, 1) := by decide +kernel
theorem dX7_readRoles_99 : decode cX7_readRoles 99 = .ok (.istore_n 2, 1) := by decide +kernel
theorem dX7_readRoles_100 : decode cX7_readRoles 100 = .ok (.iinc 3 1, 3) := by decide +kernel
theorem dX7_readRoles_103 : decode cX7_readRoles 103 = .ok (.goto (-95), 3) := by decide +kernel
theorem dX7_readRoles_106 : decode cX7_readRoles 106 = .ok (.iload_n 2, 1) := by decide +kernel
theorem dX7_readRoles_107 : decode cX7_readRoles 107 = .ok (.ireturn, 1) := by decide +kernel
theorem dX7_readEnding_0 : decode cX7_readEnding 0 = .ok (.aload_n 0, 1) := by decide +kernel
theorem dX7_readEnding_1 : decode cX7_readEnding 1 = .ok (.getfield 40, 3) := by decide +kernel
theorem dX7_readEnding_4 : decode cX7_readEnding 4 = .ok (.aload_n 0, 1) := by decide +kernel
theorem dX7_readEnding_5 : decode cX7_readEnding 5 = .ok (.getfield 103, 3) := by decide +kernel
theorem dX7_readEnding_8 : decode cX7_readEnding 8 = .ok (.iconst (-1), 1) := by decide +kernel
theorem dX7_readEnding_9 : decode cX7_readEnding 9 = .ok (.iastore, 1) := by decide +kernel
theorem dX7_readEnding_10 : decode cX7_readEnding 10 = .ok (.aload_n 1, 1) := by decide +kernel
theorem dX7_readEnding_11 : decode cX7_readEnding 11 = .ok (.getfield 55, 3) := by decide +kernel
theorem dX7_readEnding_14 : decode cX7_readEnding 14 = .ok (.bipush 8, 2) := by decide +kernel
theorem dX7_readEnding_16 : decode cX7_readEnding 16 = .ok (.if_icmp .ne 32, 3) := by decide +kernel
theorem dX7_readEnding_19 : decode cX7_readEnding 19 = .ok (.aload_n 1, 1) := by decide +kernel
theorem dX7_readEnding_20 : decode cX7_readEnding 20 = .ok (.invokevirtual 122, 3) := by decide +kernel
theorem dX7_readEnding_23 : decode cX7_readEnding 23 = .ok (.aload_n 1, 1) := by decide +kernel
theorem dX7_readEnding_24 : decode cX7_readEnding 24 = .ok (.iconst 0, 1) := by decide +kernel
theorem dX7_readEnding_25 : decode cX7_readEnding 25 = .ok (.bipush 8, 2) := by decide +kernel
theorem dX7_readEnding_27 : decode cX7_readEnding 27 = .ok (.invokevirtual 92, 3) := by decide +kernel
theorem dX7_readEnding_30 : decode cX7_readEnding 30 = .ok (.ifCond .ne 5, 3) := by decide +kernel
theorem dX7_readEnding_33 : decode cX7_readEnding 33 = .ok (.iconst 0, 1) := by decide +kernel
theorem dX7_readEnding_34 : decode cX7_readEnding 34 = .ok (.ireturn, 1) := by decide +kernel
theorem dX7_readEnding_35 : decode cX7_readEnding 35 = .ok (.aload_n 0, 1) := by decide +kernel
theorem dX7_readEnding_36 : decode cX7_readEnding 36 = .ok (.getfield 40, 3) := by decide +kernel
theorem dX7_readEnding_39 : decode cX7_readEnding 39 = .ok (.aload_n 0, 1) := by decide +kernel
theorem dX7_readEnding_40 : decode cX7_readEnding 40 = .ok (.getfield 103, 3) := by decide +kernel
theorem dX7_readEnding_43 : decode cX7_readEnding 43 = .ok (.aload_n 1, 1) := by decide +kernel
theorem dX7_readEnding_44 : decode cX7_readEnding 44 = .ok (.getfield 96, 3) := by decide +kernel
theorem dX7_readEnding_47 : decode cX7_readEnding 47 = .ok (.iastore, 1) := by decide +kernel
theorem dX7_readEnding_48 : decode cX7_readEnding 48 = .ok (.iconst 1, 1) := by decide +kernel
theorem dX7_readEnding_49 : decode cX7_readEnding 49 = .ok (.ireturn, 1) := by decide +kernel
theorem dX7_readWay_0 : decode cX7_readWay 0 = .ok (.aload_n 0, 1) := by decide +kernel
theorem dX7_readWay_1 : decode cX7_readWay 1 = .ok (.getfield 43, 3) := by decide +kernel
theorem dX7_readWay_4 : decode cX7_readWay 4 = .ok (.aload_n 0, 1) := by decide +kernel
theorem dX7_readWay_5 : decode cX7_readWay 5 = .ok (.getfield 103, 3) := by decide +kernel
theorem dX7_readWay_8 : decode cX7_readWay 8 = .ok (.iconst 4, 1) := by decide +kernel
theorem dX7_readWay_9 : decode cX7_readWay 9 = .ok (.imul, 1) := by decide +kernel
theorem dX7_readWay_10 : decode cX7_readWay 10 = .ok (.iload_n 2, 1) := by decide +kernel
theorem dX7_readWay_11 : decode cX7_readWay 11 = .ok (.iadd, 1) := by decide +kernel
theorem dX7_readWay_12 : decode cX7_readWay 12 = .ok (.iconst (-1), 1) := by decide +kernel
theorem dX7_readWay_13 : decode cX7_readWay 13 = .ok (.iastore, 1) := by decide +kernel
theorem dX7_readWay_14 : decode cX7_readWay 14 = .ok (.aload_n 1, 1) := by decide +kernel
theorem dX7_readWay_15 : decode cX7_readWay 15 = .ok (.getfield 55, 3) := by decide +kernel
theorem dX7_readWay_18 : decode cX7_readWay 18 = .ok (.bipush 9, 2) := by decide +kernel
theorem dX7_readWay_20 : decode cX7_readWay 20 = .ok (.iload_n 2, 1) := by decide +kernel
theorem dX7_readWay_21 : decode cX7_readWay 21 = .ok (.iadd, 1) := by decide +kernel
theorem dX7_readWay_22 : decode cX7_readWay 22 = .ok (.if_icmp .ne 41, 3) := by decide +kernel
theorem dX7_readWay_25 : decode cX7_readWay 25 = .ok (.aload_n 1, 1) := by decide +kernel
theorem dX7_readWay_26 : decode cX7_readWay 26 = .ok (.invokevirtual 122, 3) := by decide +kernel
theorem dX7_readWay_29 : decode cX7_readWay 29 = .ok (.aload_n 1, 1) := by decide +kernel
theorem dX7_readWay_30 : decode cX7_readWay 30 = .ok (.aload_n 0, 1) := by decide +kernel
theorem dX7_readWay_31 : decode cX7_readWay 31 = .ok (.getfield 18, 3) := by decide +kernel
theorem dX7_readWay_34 : decode cX7_readWay 34 = .ok (.aload_n 0, 1) := by decide +kernel
theorem dX7_readWay_35 : decode cX7_readWay 35 = .ok (.getfield 103, 3) := by decide +kernel
theorem dX7_readWay_38 : decode cX7_readWay 38 = .ok (.invokevirtual 137, 3) := by decide +kernel
theorem dX7_readWay_41 : decode cX7_readWay 41 = .ok (.ifCond .ne 5, 3) := by decide +kernel
theorem dX7_readWay_44 : decode cX7_readWay 44 = .ok (.iconst 0, 1) := by decide +kernel
theorem dX7_readWay_45 : decode cX7_readWay 45 = .ok (.ireturn, 1) := by decide +kernel
theorem dX7_readWay_46 : decode cX7_readWay 46 = .ok (.aload_n 0, 1) := by decide +kernel
theorem dX7_readWay_47 : decode cX7_readWay 47 = .ok (.getfield 43, 3) := by decide +kernel
theorem dX7_readWay_50 : decode cX7_readWay 50 = .ok (.aload_n 0, 1) := by decide +kernel
theorem dX7_readWay_51 : decode cX7_readWay 51 = .ok (.getfield 103, 3) := by decide +kernel
theorem dX7_readWay_54 : decode cX7_readWay 54 = .ok (.iconst 4, 1) := by decide +kernel
theorem dX7_readWay_55 : decode cX7_readWay 55 = .ok (.imul, 1) := by decide +kernel
theorem dX7_readWay_56 : decode cX7_readWay 56 = .ok (.iload_n 2, 1) := by decide +kernel
theorem dX7_readWay_57 : decode cX7_readWay 57 = .ok (.iadd, 1) := by decide +kernel
theorem dX7_readWay_58 : decode cX7_readWay 58 = .ok (.aload_n 1, 1) := by decide +kernel
theorem dX7_readWay_59 : decode cX7_readWay 59 = .ok (.getfield 96, 3) := by decide +kernel
theorem dX7_readWay_62 : decode cX7_readWay 62 = .ok (.iastore, 1) := by decide +kernel
theorem dX7_readWay_63 : decode cX7_readWay 63 = .ok (.iconst 1, 1) := by decide +kernel
theorem dX7_readWay_64 : decode cX7_readWay 64 = .ok (.ireturn, 1) := by decide +kernel
theorem dX7_readVictim_0 : decode cX7_readVictim 0 = .ok (.aload_n 0, 1) := by decide +kernel
theorem dX7_readVictim_1 : decode cX7_readVictim 1 = .ok (.getfield 46, 3) := by decide +kernel
theorem dX7_readVictim_4 : decode cX7_readVictim 4 = .ok (.aload_n 0, 1) := by decide +kernel
theorem dX7_readVictim_5 : decode cX7_readVictim 5 = .ok (.getfield 103, 3) := by decide +kernel
theorem dX7_readVictim_8 : decode cX7_readVictim 8 = .ok (.iconst (-1), 1) := by decide +kernel
theorem dX7_readVictim_9 : decode cX7_readVictim 9 = .ok (.iastore, 1) := by decide +kernel
theorem dX7_readVictim_10 : decode cX7_readVictim 10 = .ok (.aload_n 1, 1) := by decide +kernel
theorem dX7_readVictim_11 : decode cX7_readVictim 11 = .ok (.getfield 55, 3) := by decide +kernel
theorem dX7_readVictim_14 : decode cX7_readVictim 14 = .ok (.bipush 13, 2) := by decide +kernel
theorem dX7_readVictim_16 : decode cX7_readVictim 16 = .ok (.if_icmp .ne 37, 3) := by decide +kernel
theorem dX7_readVictim_19 : decode cX7_readVictim 19 = .ok (.aload_n 1, 1) := by decide +kernel
theorem dX7_readVictim_20 : decode cX7_readVictim 20 = .ok (.invokevirtual 122, 3) := by decide +kernel
theorem dX7_readVictim_23 : decode cX7_readVictim 23 = .ok (.aload_n 1, 1) := by decide +kernel
theorem dX7_readVictim_24 : decode cX7_readVictim 24 = .ok (.aload_n 0, 1) := by decide +kernel
theorem dX7_readVictim_25 : decode cX7_readVictim 25 = .ok (.getfield 9, 3) := by decide +kernel
theorem dX7_readVictim_28 : decode cX7_readVictim 28 = .ok (.aload_n 0, 1) := by decide +kernel
theorem dX7_readVictim_29 : decode cX7_readVictim 29 = .ok (.getfield 78, 3) := by decide +kernel
theorem dX7_readVictim_32 : decode cX7_readVictim 32 = .ok (.invokevirtual 137, 3) := by decide +kernel
theorem dX7_readVictim_35 : decode cX7_readVictim 35 = .ok (.ifCond .ne 5, 3) := by decide +kernel
theorem dX7_readVictim_38 : decode cX7_readVictim 38 = .ok (.iconst 0, 1) := by decide +kernel
theorem dX7_readVictim_39 : decode cX7_readVictim 39 = .ok (.ireturn, 1) := by decide +kernel
theorem dX7_readVictim_40 : decode cX7_readVictim 40 = .ok (.aload_n 0, 1) := by decide +kernel
theorem dX7_readVictim_41 : decode cX7_readVictim 41 = .ok (.getfield 46, 3) := by decide +kernel
theorem dX7_readVictim_44 : decode cX7_readVictim 44 = .ok (.aload_n 0, 1) := by decide +kernel
theorem dX7_readVictim_45 : decode cX7_readVictim 45 = .ok (.getfield 103, 3) := by decide +kernel
theorem dX7_readVictim_48 : decode cX7_readVictim 48 = .ok (.aload_n 1, 1) := by decide +kernel
theorem dX7_readVictim_49 : decode cX7_readVictim 49 = .ok (.getfield 96, 3) := by decide +kernel
theorem dX7_readVictim_52 : decode cX7_readVictim 52 = .ok (.iastore, 1) := by decide +kernel
theorem dX7_readVictim_53 : decode cX7_readVictim 53 = .ok (.iconst 1, 1) := by decide +kernel
theorem dX7_readVictim_54 : decode cX7_readVictim 54 = .ok (.ireturn, 1) := by decide +kernel
theorem dX7_ofScene_0 : decode cX7_ofScene 0 = .ok (.iload_n 2, 1) := by decide +kernel
theorem dX7_ofScene_1 : decode cX7_ofScene 1 = .ok (.tableswitch 85 0 8 #[51, 58, 65, 85, 85, 85, 85, 72, 79], 51) := by decide +kernel
theorem dX7_ofScene_52 : decode cX7_ofScene 52 = .ok (.aload_n 0, 1) := by decide +kernel
theorem dX7_ofScene_53 : decode cX7_ofScene 53 = .ok (.getfield 34, 3) := by decide +kernel
theorem dX7_ofScene_56 : decode cX7_ofScene 56 = .ok (.iload_n 1, 1) := by decide +kernel
theorem dX7_ofScene_57 : decode cX7_ofScene 57 = .ok (.iaload, 1) := by decide +kernel
theorem dX7_ofScene_58 : decode cX7_ofScene 58 = .ok (.ireturn, 1) := by decide +kernel
theorem dX7_ofScene_59 : decode cX7_ofScene 59 = .ok (.aload_n 0, 1) := by decide +kernel
theorem dX7_ofScene_60 : decode cX7_ofScene 60 = .ok (.getfield 37, 3) := by decide +kernel
theorem dX7_ofScene_63 : decode cX7_ofScene 63 = .ok (.iload_n 1, 1) := by decide +kernel
theorem dX7_ofScene_64 : decode cX7_ofScene 64 = .ok (.iaload, 1) := by decide +kernel
theorem dX7_ofScene_65 : decode cX7_ofScene 65 = .ok (.ireturn, 1) := by decide +kernel
theorem dX7_ofScene_66 : decode cX7_ofScene 66 = .ok (.aload_n 0, 1) := by decide +kernel
theorem dX7_ofScene_67 : decode cX7_ofScene 67 = .ok (.getfield 40, 3) := by decide +kernel
theorem dX7_ofScene_70 : decode cX7_ofScene 70 = .ok (.iload_n 1, 1) := by decide +kernel
theorem dX7_ofScene_71 : decode cX7_ofScene 71 = .ok (.iaload, 1) := by decide +kernel
theorem dX7_ofScene_72 : decode cX7_ofScene 72 = .ok (.ireturn, 1) := by decide +kernel
theorem dX7_ofScene_73 : decode cX7_ofScene 73 = .ok (.aload_n 0, 1) := by decide +kernel
theorem dX7_ofScene_74 : decode cX7_ofScene 74 = .ok (.getfield 46, 3) := by decide +kernel
theorem dX7_ofScene_77 : decode cX7_ofScene 77 = .ok (.iload_n 1, 1) := by decide +kernel
theorem dX7_ofScene_78 : decode cX7_ofScene 78 = .ok (.iaload, 1) := by decide +kernel
theorem dX7_ofScene_79 : decode cX7_ofScene 79 = .ok (.ireturn, 1) := by decide +kernel
theorem dX7_ofScene_80 : decode cX7_ofScene 80 = .ok (.aload_n 0, 1) := by decide +kernel
theorem dX7_ofScene_81 : decode cX7_ofScene 81 = .ok (.iload_n 1, 1) := by decide +kernel
theorem dX7_ofScene_82 : decode cX7_ofScene 82 = .ok (.invokevirtual 141, 3) := by decide +kernel
theorem dX7_ofScene_85 : decode cX7_ofScene 85 = .ok (.ireturn, 1) := by decide +kernel
theorem dX7_ofScene_86 : decode cX7_ofScene 86 = .ok (.iload_n 2, 1) := by decide +kernel
theorem dX7_ofScene_87 : decode cX7_ofScene 87 = .ok (.iconst 3, 1) := by decide +kernel
theorem dX7_ofScene_88 : decode cX7_ofScene 88 = .ok (.bipush 6, 2) := by decide +kernel
theorem dX7_ofScene_90 : decode cX7_ofScene 90 = .ok (.invokestatic 145, 3) := by decide +kernel
theorem dX7_ofScene_93 : decode cX7_ofScene 93 = .ok (.ifCond .eq 18, 3) := by decide +kernel
theorem dX7_ofScene_96 : decode cX7_ofScene 96 = .ok (.aload_n 0, 1) := by decide +kernel
theorem dX7_ofScene_97 : decode cX7_ofScene 97 = .ok (.getfield 43, 3) := by decide +kernel
theorem dX7_ofScene_100 : decode cX7_ofScene 100 = .ok (.iload_n 1, 1) := by decide +kernel
theorem dX7_ofScene_101 : decode cX7_ofScene 101 = .ok (.iconst 4, 1) := by decide +kernel
theorem dX7_ofScene_102 : decode cX7_ofScene 102 = .ok (.imul, 1) := by decide +kernel
theorem dX7_ofScene_103 : decode cX7_ofScene 103 = .ok (.iload_n 2, 1) := by decide +kernel
theorem dX7_ofScene_104 : decode cX7_ofScene 104 = .ok (.iadd, 1) := by decide +kernel
theorem dX7_ofScene_105 : decode cX7_ofScene 105 = .ok (.iconst 3, 1) := by decide +kernel
theorem dX7_ofScene_106 : decode cX7_ofScene 106 = .ok (.isub, 1) := by decide +kernel
theorem dX7_ofScene_107 : decode cX7_ofScene 107 = .ok (.iaload, 1) := by decide +kernel
theorem dX7_ofScene_108 : decode cX7_ofScene 108 = .ok (.goto 4, 3) := by decide +kernel
theorem dX7_ofScene_111 : decode cX7_ofScene 111 = .ok (.iconst (-1), 1) := by decide +kernel
theorem dX7_ofScene_112 : decode cX7_ofScene 112 = .ok (.ireturn, 1) := by decide +kernel
theorem dX7_breathsOfScene_0 : decode cX7_breathsOfScene 0 = .ok (.aload_n 0, 1) := by decide +kernel
theorem dX7_breathsOfScene_1 : decode cX7_breathsOfScene 1 = .ok (.getfield 34, 3) := by decide +kernel
theorem dX7_breathsOfScene_4 : decode cX7_breathsOfScene 4 = .ok (.iload_n 1, 1) := by decide +kernel
theorem dX7_breathsOfScene_5 : decode cX7_breathsOfScene 5 = .ok (.iaload, 1) := by decide +kernel
theorem dX7_breathsOfScene_6 : decode cX7_breathsOfScene 6 = .ok (.aload_n 0, 1) := by decide +kernel
theorem dX7_breathsOfScene_7 : decode cX7_breathsOfScene 7 = .ok (.getfield 37, 3) := by decide +kernel
theorem dX7_breathsOfScene_10 : decode cX7_breathsOfScene 10 = .ok (.iload_n 1, 1) := by decide +kernel
theorem dX7_breathsOfScene_11 : decode cX7_breathsOfScene 11 = .ok (.iaload, 1) := by decide +kernel
theorem dX7_breathsOfScene_12 : decode cX7_breathsOfScene 12 = .ok (.invokestatic 149, 3) := by decide +kernel
theorem dX7_breathsOfScene_15 : decode cX7_breathsOfScene 15 = .ok (.imul, 1) := by decide +kernel
theorem dX7_breathsOfScene_16 : decode cX7_breathsOfScene 16 = .ok (.ireturn, 1) := by decide +kernel
theorem dX7_endSlot_0 : decode cX7_endSlot 0 = .ok (.aload_n 0, 1) := by decide +kernel
theorem dX7_endSlot_1 : decode cX7_endSlot 1 = .ok (.getfield 40, 3) := by decide +kernel
theorem dX7_endSlot_4 : decode cX7_endSlot 4 = .ok (.iload_n 1, 1) := by decide +kernel
theorem dX7_endSlot_5 : decode cX7_endSlot 5 = .ok (.iaload, 1) := by decide +kernel
theorem dX7_endSlot_6 : decode cX7_endSlot 6 = .ok (.iconst (-1), 1) := by decide +kernel
theorem dX7_endSlot_7 : decode cX7_endSlot 7 = .ok (.if_icmp .ne 8, 3) := by decide +kernel
theorem dX7_endSlot_10 : decode cX7_endSlot 10 = .ok (.bipush 9, 2) := by decide +kernel
theorem dX7_endSlot_12 : decode cX7_endSlot 12 = .ok (.goto 9, 3) := by decide +kernel
theorem dX7_endSlot_15 : decode cX7_endSlot 15 = .ok (.aload_n 0, 1) := by decide +kernel
theorem dX7_endSlot_16 : decode cX7_endSlot 16 = .ok (.getfield 40, 3) := by decide +kernel
theorem dX7_endSlot_19 : decode cX7_endSlot 19 = .ok (.iload_n 1, 1) := by decide +kernel
theorem dX7_endSlot_20 : decode cX7_endSlot 20 = .ok (.iaload, 1) := by decide +kernel
theorem dX7_endSlot_21 : decode cX7_endSlot 21 = .ok (.ireturn, 1) := by decide +kernel
theorem dX7_killedIn_0 : decode cX7_killedIn 0 = .ok (.aload_n 0, 1) := by decide +kernel
theorem dX7_killedIn_1 : decode cX7_killedIn 1 = .ok (.getfield 46, 3) := by decide +kernel
theorem dX7_killedIn_4 : decode cX7_killedIn 4 = .ok (.iload_n 1, 1) := by decide +kernel
theorem dX7_killedIn_5 : decode cX7_killedIn 5 = .ok (.iaload, 1) := by decide +kernel
theorem dX7_killedIn_6 : decode cX7_killedIn 6 = .ok (.iconst (-1), 1) := by decide +kernel
theorem dX7_killedIn_7 : decode cX7_killedIn 7 = .ok (.if_icmp .ne 7, 3) := by decide +kernel
theorem dX7_killedIn_10 : decode cX7_killedIn 10 = .ok (.iconst 0, 1) := by decide +kernel
theorem dX7_killedIn_11 : decode cX7_killedIn 11 = .ok (.goto 11, 3) := by decide +kernel
theorem dX7_killedIn_14 : decode cX7_killedIn 14 = .ok (.iconst 1, 1) := by decide +kernel
theorem dX7_killedIn_15 : decode cX7_killedIn 15 = .ok (.aload_n 0, 1) := by decide +kernel
theorem dX7_killedIn_16 : decode cX7_killedIn 16 = .ok (.getfield 46, 3) := by decide +kernel
theorem dX7_killedIn_19 : decode cX7_killedIn 19 = .ok (.iload_n 1, 1) := by decide +kernel
theorem dX7_killedIn_20 : decode cX7_killedIn 20 = .ok (.iaload, 1) := by decide +kernel
theorem dX7_killedIn_21 : decode cX7_killedIn 21 = .ok (.ishl, 1) := by decide +kernel
theorem dX7_killedIn_22 : decode cX7_killedIn 22 = .ok (.ireturn, 1) := by decide +kernel
theorem dX7_allScenes_0 : decode cX7_allScenes 0 = .ok (.iconst 1, 1) := by decide +kernel
theorem dX7_allScenes_1 : decode cX7_allScenes 1 = .ok (.aload_n 0, 1) := by decide +kernel
theorem dX7_allScenes_2 : decode cX7_allScenes 2 = .ok (.getfield 103, 3) := by decide +kernel
theorem dX7_allScenes_5 : decode cX7_allScenes 5 = .ok (.ishl, 1) := by decide +kernel
theorem dX7_allScenes_6 : decode cX7_allScenes 6 = .ok (.iconst 1, 1) := by decide +kernel
theorem dX7_allScenes_7 : decode cX7_allScenes 7 = .ok (.isub, 1) := by decide +kernel
theorem dX7_allScenes_8 : decode cX7_allScenes 8 = .ok (.ireturn, 1) := by decide +kernel
theorem dX7_linesInAll_0 : decode cX7_linesInAll 0 = .ok (.iconst 0, 1) := by decide +kernel
theorem dX7_linesInAll_1 : decode cX7_linesInAll 1 = .ok (.istore_n 1, 1) := by decide +kernel
theorem dX7_linesInAll_2 : decode cX7_linesInAll 2 = .ok (.iconst 0, 1) := by decide +kernel
theorem dX7_linesInAll_3 : decode cX7_linesInAll 3 = .ok (.istore_n 2, 1) := by decide +kernel
theorem dX7_linesInAll_4 : decode cX7_linesInAll 4 = .ok (.iload_n 2, 1) := by decide +kernel
theorem dX7_linesInAll_5 : decode cX7_linesInAll 5 = .ok (.aload_n 0, 1) := by decide +kernel
theorem dX7_linesInAll_6 : decode cX7_linesInAll 6 = .ok (.getfield 103, 3) := by decide +kernel
theorem dX7_linesInAll_9 : decode cX7_linesInAll 9 = .ok (.if_icmp .ge 18, 3) := by decide +kernel
theorem dX7_linesInAll_12 : decode cX7_linesInAll 12 = .ok (.iload_n 1, 1) := by decide +kernel
theorem dX7_linesInAll_13 : decode cX7_linesInAll 13 = .ok (.aload_n 0, 1) := by decide +kernel
theorem dX7_linesInAll_14 : decode cX7_linesInAll 14 = .ok (.getfield 34, 3) := by decide +kernel
theorem dX7_linesInAll_17 : decode cX7_linesInAll 17 = .ok (.iload_n 2, 1) := by decide +kernel
theorem dX7_linesInAll_18 : decode cX7_linesInAll 18 = .ok (.iaload, 1) := by decide +kernel
theorem dX7_linesInAll_19 : decode cX7_linesInAll 19 = .ok (.iadd, 1) := by decide +kernel
theorem dX7_linesInAll_20 : decode cX7_linesInAll 20 = .ok (.istore_n 1, 1) := by decide +kernel
theorem dX7_linesInAll_21 : decode cX7_linesInAll 21 = .ok (.iinc 2 1, 3) := by decide +kernel
theorem dX7_linesInAll_24 : decode cX7_linesInAll 24 = .ok (.goto (-20), 3) := by decide +kernel
theorem dX7_linesInAll_27 : decode cX7_linesInAll 27 = .ok (.iload_n 1, 1) := by decide +kernel
theorem dX7_linesInAll_28 : decode cX7_linesInAll 28 = .ok (.ireturn, 1) := by decide +kernel
theorem dX7_sceneOfLine_0 : decode cX7_sceneOfLine 0 = .ok (.iconst 0, 1) := by decide +kernel
theorem dX7_sceneOfLine_1 : decode cX7_sceneOfLine 1 = .ok (.istore_n 2, 1) := by decide +kernel
theorem dX7_sceneOfLine_2 : decode cX7_sceneOfLine 2 = .ok (.iconst 0, 1) := by decide +kernel
theorem dX7_sceneOfLine_3 : decode cX7_sceneOfLine 3 = .ok (.istore_n 3, 1) := by decide +kernel
theorem dX7_sceneOfLine_4 : decode cX7_sceneOfLine 4 = .ok (.iload_n 3, 1) := by decide +kernel
theorem dX7_sceneOfLine_5 : decode cX7_sceneOfLine 5 = .ok (.aload_n 0, 1) := by decide +kernel
theorem dX7_sceneOfLine_6 : decode cX7_sceneOfLine 6 = .ok (.getfield 103, 3) := by decide +kernel
theorem dX7_sceneOfLine_9 : decode cX7_sceneOfLine 9 = .ok (.if_icmp .ge 29, 3) := by decide +kernel
theorem dX7_sceneOfLine_12 : decode cX7_sceneOfLine 12 = .ok (.iload_n 2, 1) := by decide +kernel
theorem dX7_sceneOfLine_13 : decode cX7_sceneOfLine 13 = .ok (.aload_n 0, 1) := by decide +kernel
theorem dX7_sceneOfLine_14 : decode cX7_sceneOfLine 14 = .ok (.getfield 34, 3) := by decide +kernel
theorem dX7_sceneOfLine_17 : decode cX7_sceneOfLine 17 = .ok (.iload_n 3, 1) := by decide +kernel
theorem dX7_sceneOfLine_18 : decode cX7_sceneOfLine 18 = .ok (.iaload, 1) := by decide +kernel
theorem dX7_sceneOfLine_19 : decode cX7_sceneOfLine 19 = .ok (.iadd, 1) := by decide +kernel
theorem dX7_sceneOfLine_20 : decode cX7_sceneOfLine 20 = .ok (.istore_n 2, 1) := by decide +kernel
theorem dX7_sceneOfLine_21 : decode cX7_sceneOfLine 21 = .ok (.iload_n 1, 1) := by decide +kernel
theorem dX7_sceneOfLine_22 : decode cX7_sceneOfLine 22 = .ok (.ifCond .lt 10, 3) := by decide +kernel
theorem dX7_sceneOfLine_25 : decode cX7_sceneOfLine 25 = .ok (.iload_n 1, 1) := by decide +kernel
theorem dX7_sceneOfLine_26 : decode cX7_sceneOfLine 26 = .ok (.iload_n 2, 1) := by decide +kernel
theorem dX7_sceneOfLine_27 : decode cX7_sceneOfLine 27 = .ok (.if_icmp .ge 5, 3) := by decide +kernel
theorem dX7_sceneOfLine_30 : decode cX7_sceneOfLine 30 = .ok (.iload_n 3, 1) := by decide +kernel
theorem dX7_sceneOfLine_31 : decode cX7_sceneOfLine 31 = .ok (.ireturn, 1) := by decide +kernel
theorem dX7_sceneOfLine_32 : decode cX7_sceneOfLine 32 = .ok (.iinc 3 1, 3) := by decide +kernel
theorem dX7_sceneOfLine_35 : decode cX7_sceneOfLine 35 = .ok (.goto (-31), 3) := by decide +kernel
theorem dX7_sceneOfLine_38 : decode cX7_sceneOfLine 38 = .ok (.iconst (-1), 1) := by decide +kernel
theorem dX7_sceneOfLine_39 : decode cX7_sceneOfLine 39 = .ok (.ireturn, 1) := by decide +kernel
theorem dX7_linesOfRole_0 : decode cX7_linesOfRole 0 = .ok (.iconst 0, 1) := by decide +kernel
theorem dX7_linesOfRole_1 : decode cX7_linesOfRole 1 = .ok (.istore_n 2, 1) := by decide +kernel
theorem dX7_linesOfRole_2 : decode cX7_linesOfRole 2 = .ok (.iconst 0, 1) := by decide +kernel
theorem dX7_linesOfRole_3 : decode cX7_linesOfRole 3 = .ok (.istore_n 3, 1) := by decide +kernel
theorem dX7_linesOfRole_4 : decode cX7_linesOfRole 4 = .ok (.iload_n 3, 1) := by decide +kernel
theorem dX7_linesOfRole_5 : decode cX7_linesOfRole 5 = .ok (.aload_n 0, 1) := by decide +kernel
theorem dX7_linesOfRole_6 : decode cX7_linesOfRole 6 = .ok (.getfield 103, 3) := by decide +kernel
theorem dX7_linesOfRole_9 : decode cX7_linesOfRole 9 = .ok (.if_icmp .ge 29, 3) := by decide +kernel
theorem dX7_linesOfRole_12 : decode cX7_linesOfRole 12 = .ok (.iload_n 2, 1) := by decide +kernel
theorem dX7_linesOfRole_13 : decode cX7_linesOfRole 13 = .ok (.aload_n 0, 1) := by decide +kernel
theorem dX7_linesOfRole_14 : decode cX7_linesOfRole 14 = .ok (.getfield 34, 3) := by decide +kernel
theorem dX7_linesOfRole_17 : decode cX7_linesOfRole 17 = .ok (.iload_n 3, 1) := by decide +kernel
theorem dX7_linesOfRole_18 : decode cX7_linesOfRole 18 = .ok (.iaload, 1) := by decide +kernel
theorem dX7_linesOfRole_19 : decode cX7_linesOfRole 19 = .ok (.aload_n 0, 1) := by decide +kernel
theorem dX7_linesOfRole_20 : decode cX7_linesOfRole 20 = .ok (.getfield 37, 3) := by decide +kernel
theorem dX7_linesOfRole_23 : decode cX7_linesOfRole 23 = .ok (.iload_n 3, 1) := by decide +kernel
theorem dX7_linesOfRole_24 : decode cX7_linesOfRole 24 = .ok (.iaload, 1) := by decide +kernel
theorem dX7_linesOfRole_25 : decode cX7_linesOfRole 25 = .ok (.iload_n 1, 1) := by decide +kernel
theorem dX7_linesOfRole_26 : decode cX7_linesOfRole 26 = .ok (.ishr, 1) := by decide +kernel
theorem dX7_linesOfRole_27 : decode cX7_linesOfRole 27 = .ok (.iconst 1, 1) := by decide +kernel
theorem dX7_linesOfRole_28 : decode cX7_linesOfRole 28 = .ok (.iand, 1) := by decide +kernel
theorem dX7_linesOfRole_29 : decode cX7_linesOfRole 29 = .ok (.imul, 1) := by decide +kernel
theorem dX7_linesOfRole_30 : decode cX7_linesOfRole 30 = .ok (.iadd, 1) := by decide +kernel
theorem dX7_linesOfRole_31 : decode cX7_linesOfRole 31 = .ok (.istore_n 2, 1) := by decide +kernel
theorem dX7_linesOfRole_32 : decode cX7_linesOfRole 32 = .ok (.iinc 3 1, 3) := by decide +kernel
theorem dX7_linesOfRole_35 : decode cX7_linesOfRole 35 = .ok (.goto (-31), 3) := by decide +kernel
theorem dX7_linesOfRole_38 : decode cX7_linesOfRole 38 = .ok (.iload_n 2, 1) := by decide +kernel
theorem dX7_linesOfRole_39 : decode cX7_linesOfRole 39 = .ok (.ireturn, 1) := by decide +kernel
theorem dX7_rolesInAny_0 : decode cX7_rolesInAny 0 = .ok (.iconst 0, 1) := by decide +kernel
theorem dX7_rolesInAny_1 : decode cX7_rolesInAny 1 = .ok (.istore_n 1, 1) := by decide +kernel
theorem dX7_rolesInAny_2 : decode cX7_rolesInAny 2 = .ok (.iconst 0, 1) := by decide +kernel
theorem dX7_rolesInAny_3 : decode cX7_rolesInAny 3 = .ok (.istore_n 2, 1) := by decide +kernel
theorem dX7_rolesInAny_4 : decode cX7_rolesInAny 4 = .ok (.iload_n 2, 1) := by decide +kernel
theorem dX7_rolesInAny_5 : decode cX7_rolesInAny 5 = .ok (.aload_n 0, 1) := by decide +kernel
theorem dX7_rolesInAny_6 : decode cX7_rolesInAny 6 = .ok (.getfield 103, 3) := by decide +kernel
theorem dX7_rolesInAny_9 : decode cX7_rolesInAny 9 = .ok (.if_icmp .ge 18, 3) := by decide +kernel
theorem dX7_rolesInAny_12 : decode cX7_rolesInAny 12 = .ok (.iload_n 1, 1) := by decide +kernel
theorem dX7_rolesInAny_13 : decode cX7_rolesInAny 13 = .ok (.aload_n 0, 1) := by decide +kernel
theorem dX7_rolesInAny_14 : decode cX7_rolesInAny 14 = .ok (.getfield 37, 3) := by decide +kernel
theorem dX7_rolesInAny_17 : decode cX7_rolesInAny 17 = .ok (.iload_n 2, 1) := by decide +kernel
theorem dX7_rolesInAny_18 : decode cX7_rolesInAny 18 = .ok (.iaload, 1) := by decide +kernel
theorem dX7_rolesInAny_19 : decode cX7_rolesInAny 19 = .ok (.ior, 1) := by decide +kernel
theorem dX7_rolesInAny_20 : decode cX7_rolesInAny 20 = .ok (.istore_n 1, 1) := by decide +kernel
theorem dX7_rolesInAny_21 : decode cX7_rolesInAny 21 = .ok (.iinc 2 1, 3) := by decide +kernel
theorem dX7_rolesInAny_24 : decode cX7_rolesInAny 24 = .ok (.goto (-20), 3) := by decide +kernel
theorem dX7_rolesInAny_27 : decode cX7_rolesInAny 27 = .ok (.iload_n 1, 1) := by decide +kernel
theorem dX7_rolesInAny_28 : decode cX7_rolesInAny 28 = .ok (.ireturn, 1) := by decide +kernel
theorem dX7_rolesInEach_0 : decode cX7_rolesInEach 0 = .ok (.iconst 1, 1) := by decide +kernel
theorem dX7_rolesInEach_1 : decode cX7_rolesInEach 1 = .ok (.aload_n 0, 1) := by decide +kernel
theorem dX7_rolesInEach_2 : decode cX7_rolesInEach 2 = .ok (.getfield 78, 3) := by decide +kernel
theorem dX7_rolesInEach_5 : decode cX7_rolesInEach 5 = .ok (.ishl, 1) := by decide +kernel
theorem dX7_rolesInEach_6 : decode cX7_rolesInEach 6 = .ok (.iconst 1, 1) := by decide +kernel
theorem dX7_rolesInEach_7 : decode cX7_rolesInEach 7 = .ok (.isub, 1) := by decide +kernel
theorem dX7_rolesInEach_8 : decode cX7_rolesInEach 8 = .ok (.istore_n 2, 1) := by decide +kernel
theorem dX7_rolesInEach_9 : decode cX7_rolesInEach 9 = .ok (.iconst 0, 1) := by decide +kernel
theorem dX7_rolesInEach_10 : decode cX7_rolesInEach 10 = .ok (.istore_n 3, 1) := by decide +kernel
theorem dX7_rolesInEach_11 : decode cX7_rolesInEach 11 = .ok (.iload_n 3, 1) := by decide +kernel
theorem dX7_rolesInEach_12 : decode cX7_rolesInEach 12 = .ok (.aload_n 0, 1) := by decide +kernel
theorem dX7_rolesInEach_13 : decode cX7_rolesInEach 13 = .ok (.getfield 103, 3) := by decide +kernel
theorem dX7_rolesInEach_16 : decode cX7_rolesInEach 16 = .ok (.if_icmp .ge 26, 3) := by decide +kernel
theorem dX7_rolesInEach_19 : decode cX7_rolesInEach 19 = .ok (.iload_n 1, 1) := by decide +kernel
theorem dX7_rolesInEach_20 : decode cX7_rolesInEach 20 = .ok (.iload_n 3, 1) := by decide +kernel
theorem dX7_rolesInEach_21 : decode cX7_rolesInEach 21 = .ok (.ishr, 1) := by decide +kernel
theorem dX7_rolesInEach_22 : decode cX7_rolesInEach 22 = .ok (.iconst 1, 1) := by decide +kernel
theorem dX7_rolesInEach_23 : decode cX7_rolesInEach 23 = .ok (.iand, 1) := by decide +kernel
theorem dX7_rolesInEach_24 : decode cX7_rolesInEach 24 = .ok (.ifCond .eq 12, 3) := by decide +kernel
theorem dX7_rolesInEach_27 : decode cX7_rolesInEach 27 = .ok (.iload_n 2, 1) := by decide +kernel
theorem dX7_rolesInEach_28 : decode cX7_rolesInEach 28 = .ok (.aload_n 0, 1) := by decide +kernel
theorem dX7_rolesInEach_29 : decode cX7_rolesInEach 29 = .ok (.getfield 37, 3) := by decide +kernel
theorem dX7_rolesInEach_32 : decode cX7_rolesInEach 32 = .ok (.iload_n 3, 1) := by decide +kernel
theorem dX7_rolesInEach_33 : decode cX7_rolesInEach 33 = .ok (.iaload, 1) := by decide +kernel
theorem dX7_rolesInEach_34 : decode cX7_rolesInEach 34 = .ok (.iand, 1) := by decide +kernel
theorem dX7_rolesInEach_35 : decode cX7_rolesInEach 35 = .ok (.istore_n 2, 1) := by decide +kernel
theorem dX7_rolesInEach_36 : decode cX7_rolesInEach 36 = .ok (.iinc 3 1, 3) := by decide +kernel
theorem dX7_rolesInEach_39 : decode cX7_rolesInEach 39 = .ok (.goto (-28), 3) := by decide +kernel
theorem dX7_rolesInEach_42 : decode cX7_rolesInEach 42 = .ok (.iload_n 2, 1) := by decide +kernel
theorem dX7_rolesInEach_43 : decode cX7_rolesInEach 43 = .ok (.ireturn, 1) := by decide +kernel
theorem dX7_rolesBeside_0 : decode cX7_rolesBeside 0 = .ok (.iconst 0, 1) := by decide +kernel
theorem dX7_rolesBeside_1 : decode cX7_rolesBeside 1 = .ok (.istore_n 2, 1) := by decide +kernel
theorem dX7_rolesBeside_2 : decode cX7_rolesBeside 2 = .ok (.iconst 0, 1) := by decide +kernel
theorem dX7_rolesBeside_3 : decode cX7_rolesBeside 3 = .ok (.istore_n 3, 1) := by decide +kernel
theorem dX7_rolesBeside_4 : decode cX7_rolesBeside 4 = .ok (.iload_n 3, 1) := by decide +kernel
theorem dX7_rolesBeside_5 : decode cX7_rolesBeside 5 = .ok (.aload_n 0, 1) := by decide +kernel
theorem dX7_rolesBeside_6 : decode cX7_rolesBeside 6 = .ok (.getfield 103, 3) := by decide +kernel
theorem dX7_rolesBeside_9 : decode cX7_rolesBeside 9 = .ok (.if_icmp .ge 31, 3) := by decide +kernel
theorem dX7_rolesBeside_12 : decode cX7_rolesBeside 12 = .ok (.aload_n 0, 1) := by decide +kernel
theorem dX7_rolesBeside_13 : decode cX7_rolesBeside 13 = .ok (.getfield 37, 3) := by decide +kernel
theorem dX7_rolesBeside_16 : decode cX7_rolesBeside 16 = .ok (.iload_n 3, 1) := by decide +kernel
theorem dX7_rolesBeside_17 : decode cX7_rolesBeside 17 = .ok (.iaload, 1) := by decide +kernel
theorem dX7_rolesBeside_18 : decode cX7_rolesBeside 18 = .ok (.iload_n 1, 1) := by decide +kernel
theorem dX7_rolesBeside_19 : decode cX7_rolesBeside 19 = .ok (.ishr, 1) := by decide +kernel
theorem dX7_rolesBeside_20 : decode cX7_rolesBeside 20 = .ok (.iconst 1, 1) := by decide +kernel
theorem dX7_rolesBeside_21 : decode cX7_rolesBeside 21 = .ok (.iand, 1) := by decide +kernel
theorem dX7_rolesBeside_22 : decode cX7_rolesBeside 22 = .ok (.ifCond .eq 12, 3) := by decide +kernel
theorem dX7_rolesBeside_25 : decode cX7_rolesBeside 25 = .ok (.iload_n 2, 1) := by decide +kernel
theorem dX7_rolesBeside_26 : decode cX7_rolesBeside 26 = .ok (.aload_n 0, 1) := by decide +kernel
theorem dX7_rolesBeside_27 : decode cX7_rolesBeside 27 = .ok (.getfield 37, 3) := by decide +kernel
theorem dX7_rolesBeside_30 : decode cX7_rolesBeside 30 = .ok (.iload_n 3, 1) := by decide +kernel
theorem dX7_rolesBeside_31 : decode cX7_rolesBeside 31 = .ok (.iaload, 1) := by decide +kernel
theorem dX7_rolesBeside_32 : decode cX7_rolesBeside 32 = .ok (.ior, 1) := by decide +kernel
theorem dX7_rolesBeside_33 : decode cX7_rolesBeside 33 = .ok (.istore_n 2, 1) := by decide +kernel
theorem dX7_rolesBeside_34 : decode cX7_rolesBeside 34 = .ok (.iinc 3 1, 3) := by decide +kernel
theorem dX7_rolesBeside_37 : decode cX7_rolesBeside 37 = .ok (.goto (-33), 3) := by decide +kernel
theorem dX7_rolesBeside_40 : decode cX7_rolesBeside 40 = .ok (.iload_n 2, 1) := by decide +kernel
theorem dX7_rolesBeside_41 : decode cX7_rolesBeside 41 = .ok (.ireturn, 1) := by decide +kernel
theorem dX7_lotsInAll_0 : decode cX7_lotsInAll 0 = .ok (.iconst 0, 1) := by decide +kernel
theorem dX7_lotsInAll_1 : decode cX7_lotsInAll 1 = .ok (.istore_n 1, 1) := by decide +kernel
theorem dX7_lotsInAll_2 : decode cX7_lotsInAll 2 = .ok (.iconst 0, 1) := by decide +kernel
theorem dX7_lotsInAll_3 : decode cX7_lotsInAll 3 = .ok (.istore_n 2, 1) := by decide +kernel
theorem dX7_lotsInAll_4 : decode cX7_lotsInAll 4 = .ok (.iload_n 2, 1) := by decide +kernel
theorem dX7_lotsInAll_5 : decode cX7_lotsInAll 5 = .ok (.aload_n 0, 1) := by decide +kernel
theorem dX7_lotsInAll_6 : decode cX7_lotsInAll 6 = .ok (.getfield 116, 3) := by decide +kernel
theorem dX7_lotsInAll_9 : decode cX7_lotsInAll 9 = .ok (.if_icmp .ge 18, 3) := by decide +kernel
theorem dX7_lotsInAll_12 : decode cX7_lotsInAll 12 = .ok (.iload_n 1, 1) := by decide +kernel
theorem dX7_lotsInAll_13 : decode cX7_lotsInAll 13 = .ok (.aload_n 0, 1) := by decide +kernel
theorem dX7_lotsInAll_14 : decode cX7_lotsInAll 14 = .ok (.getfield 49, 3) := by decide +kernel
theorem dX7_lotsInAll_17 : decode cX7_lotsInAll 17 = .ok (.iload_n 2, 1) := by decide +kernel
theorem dX7_lotsInAll_18 : decode cX7_lotsInAll 18 = .ok (.iaload, 1) := by decide +kernel
theorem dX7_lotsInAll_19 : decode cX7_lotsInAll 19 = .ok (.iadd, 1) := by decide +kernel
theorem dX7_lotsInAll_20 : decode cX7_lotsInAll 20 = .ok (.istore_n 1, 1) := by decide +kernel
theorem dX7_lotsInAll_21 : decode cX7_lotsInAll 21 = .ok (.iinc 2 1, 3) := by decide +kernel
theorem dX7_lotsInAll_24 : decode cX7_lotsInAll 24 = .ok (.goto (-20), 3) := by decide +kernel
theorem dX7_lotsInAll_27 : decode cX7_lotsInAll 27 = .ok (.iload_n 1, 1) := by decide +kernel
theorem dX7_lotsInAll_28 : decode cX7_lotsInAll 28 = .ok (.ireturn, 1) := by decide +kernel
theorem dX8_init_0 : decode cX8_init 0 = .ok (.aload_n 0, 1) := by decide +kernel
theorem dX8_init_1 : decode cX8_init 1 = .ok (.invokespecial 3, 3) := by decide +kernel
theorem dX8_init_4 : decode cX8_init 4 = .ok (.aload_n 0, 1) := by decide +kernel
theorem dX8_init_5 : decode cX8_init 5 = .ok (.bipush 60, 2) := by decide +kernel
theorem dX8_init_7 : decode cX8_init 7 = .ok (.newarray .long, 2) := by decide +kernel
theorem dX8_init_9 : decode cX8_init 9 = .ok (.putfield 9, 3) := by decide +kernel
theorem dX8_init_12 : decode cX8_init 12 = .ok (.return_, 1) := by decide +kernel
theorem dX8_layOut_0 : decode cX8_layOut 0 = .ok (.aload_n 0, 1) := by decide +kernel
theorem dX8_layOut_1 : decode cX8_layOut 1 = .ok (.getfield 9, 3) := by decide +kernel
theorem dX8_layOut_4 : decode cX8_layOut 4 = .ok (.lconst 0, 1) := by decide +kernel
theorem dX8_layOut_5 : decode cX8_layOut 5 = .ok (.invokestatic 15, 3) := by decide +kernel
theorem dX8_layOut_8 : decode cX8_layOut 8 = .ok (.aload_n 0, 1) := by decide +kernel
theorem dX8_layOut_9 : decode cX8_layOut 9 = .ok (.iconst 1, 1) := by decide +kernel
theorem dX8_layOut_10 : decode cX8_layOut 10 = .ok (.putfield 21, 3) := by decide +kernel
theorem dX8_layOut_13 : decode cX8_layOut 13 = .ok (.aload_n 0, 1) := by decide +kernel
theorem dX8_layOut_14 : decode cX8_layOut 14 = .ok (.iload_n 1, 1) := by decide +kernel
theorem dX8_layOut_15 : decode cX8_layOut 15 = .ok (.putfield 25, 3) := by decide +kernel
theorem dX8_layOut_18 : decode cX8_layOut 18 = .ok (.aload_n 0, 1) := by decide +kernel
theorem dX8_layOut_19 : decode cX8_layOut 19 = .ok (.iload_n 2, 1) := by decide +kernel
theorem dX8_layOut_20 : decode cX8_layOut 20 = .ok (.putfield 29, 3) := by decide +kernel
theorem dX8_layOut_23 : decode cX8_layOut 23 = .ok (.return_, 1) := by decide +kernel
theorem dX8_put_0 : decode cX8_put 0 = .ok (.aload_n 0, 1) := by decide +kernel
theorem dX8_put_1 : decode cX8_put 1 = .ok (.getfield 9, 3) := by decide +kernel
theorem dX8_put_4 : decode cX8_put 4 = .ok (.iload_n 1, 1) := by decide +kernel
theorem dX8_put_5 : decode cX8_put 5 = .ok (.aload_n 0, 1) := by decide +kernel
theorem dX8_put_6 : decode cX8_put 6 = .ok (.lload_n 2, 1) := by decide +kernel
theorem dX8_put_7 : decode cX8_put 7 = .ok (.invokevirtual 32, 3) := by decide +kernel
theorem dX8_put_10 : decode cX8_put 10 = .ok (.lastore, 1) := by decide +kernel
theorem dX8_put_11 : decode cX8_put 11 = .ok (.return_, 1) := by decide +kernel
theorem dX8_cut_0 : decode cX8_cut 0 = .ok (.aload_n 0, 1) := by decide +kernel
theorem dX8_cut_1 : decode cX8_cut 1 = .ok (.getfield 25, 3) := by decide +kernel
theorem dX8_cut_4 : decode cX8_cut 4 = .ok (.tableswitch 42 0 2 #[28, 33, 38], 28) := by decide +kernel
theorem dX8_cut_32 : decode cX8_cut 32 = .ok (.lload_n 1, 1) := by decide +kernel
theorem dX8_cut_33 : decode cX8_cut 33 = .ok (.l2i, 1) := by decide +kernel
theorem dX8_cut_34 : decode cX8_cut 34 = .ok (.i2b, 1) := by decide +kernel
theorem dX8_cut_35 : decode cX8_cut 35 = .ok (.i2l, 1) := by decide +kernel
theorem dX8_cut_36 : decode cX8_cut 36 = .ok (.lreturn, 1) := by decide +kernel
theorem dX8_cut_37 : decode cX8_cut 37 = .ok (.lload_n 1, 1) := by decide +kernel
theorem dX8_cut_38 : decode cX8_cut 38 = .ok (.l2i, 1) := by decide +kernel
theorem dX8_cut_39 : decode cX8_cut 39 = .ok (.i2s, 1) := by decide +kernel
theorem dX8_cut_40 : decode cX8_cut 40 = .ok (.i2l, 1) := by decide +kernel
theorem dX8_cut_41 : decode cX8_cut 41 = .ok (.lreturn, 1) := by decide +kernel
theorem dX8_cut_42 : decode cX8_cut 42 = .ok (.lload_n 1, 1) := by decide +kernel
theorem dX8_cut_43 : decode cX8_cut 43 = .ok (.l2i, 1) := by decide +kernel
theorem dX8_cut_44 : decode cX8_cut 44 = .ok (.i2l, 1) := by decide +kernel
theorem dX8_cut_45 : decode cX8_cut 45 = .ok (.lreturn, 1) := by decide +kernel
theorem dX8_cut_46 : decode cX8_cut 46 = .ok (.lload_n 1, 1) := by decide +kernel
theorem dX8_cut_47 : decode cX8_cut 47 = .ok (.lreturn, 1) := by decide +kernel
theorem dX8_hasPlaces_0 : decode cX8_hasPlaces 0 = .ok (.iload_n 1, 1) := by decide +kernel
theorem dX8_hasPlaces_1 : decode cX8_hasPlaces 1 = .ok (.ifCond .lt 25, 3) := by decide +kernel
theorem dX8_hasPlaces_4 : decode cX8_hasPlaces 4 = .ok (.iload_n 2, 1) := by decide +kernel
theorem dX8_hasPlaces_5 : decode cX8_hasPlaces 5 = .ok (.ifCond .lt 21, 3) := by decide +kernel
theorem dX8_hasPlaces_8 : decode cX8_hasPlaces 8 = .ok (.iload_n 1, 1) := by decide +kernel
theorem dX8_hasPlaces_9 : decode cX8_hasPlaces 9 = .ok (.i2l, 1) := by decide +kernel
theorem dX8_hasPlaces_10 : decode cX8_hasPlaces 10 = .ok (.iload_n 2, 1) := by decide +kernel
theorem dX8_hasPlaces_11 : decode cX8_hasPlaces 11 = .ok (.i2l, 1) := by decide +kernel
theorem dX8_hasPlaces_12 : decode cX8_hasPlaces 12 = .ok (.ladd, 1) := by decide +kernel
theorem dX8_hasPlaces_13 : decode cX8_hasPlaces 13 = .ok (.aload_n 0, 1) := by decide +kernel
theorem dX8_hasPlaces_14 : decode cX8_hasPlaces 14 = .ok (.getfield 29, 3) := by decide +kernel
theorem dX8_hasPlaces_17 : decode cX8_hasPlaces 17 = .ok (.i2l, 1) := by decide +kernel
theorem dX8_hasPlaces_18 : decode cX8_hasPlaces 18 = .ok (.lcmp, 1) := by decide +kernel
theorem dX8_hasPlaces_19 : decode cX8_hasPlaces 19 = .ok (.ifCond .gt 7, 3) := by decide +kernel
theorem dX8_hasPlaces_22 : decode cX8_hasPlaces 22 = .ok (.iconst 1, 1) := by decide +kernel
theorem dX8_hasPlaces_23 : decode cX8_hasPlaces 23 = .ok (.goto 4, 3) := by decide +kernel
theorem dX8_hasPlaces_26 : decode cX8_hasPlaces 26 = .ok (.iconst 0, 1) := by decide +kernel
theorem dX8_hasPlaces_27 : decode cX8_hasPlaces 27 = .ok (.ireturn, 1) := by decide +kernel
theorem dX8_holdsDeeds_0 : decode cX8_holdsDeeds 0 = .ok (.iconst 0, 1) := by decide +kernel
theorem dX8_holdsDeeds_1 : decode cX8_holdsDeeds 1 = .ok (.istore_n 2, 1) := by decide +kernel
theorem dX8_holdsDeeds_2 : decode cX8_holdsDeeds 2 = .ok (.iload_n 2, 1) := by decide +kernel
theorem dX8_holdsDeeds_3 : decode cX8_holdsDeeds 3 = .ok (.iload_n 1, 1) := by decide +kernel
theorem dX8_holdsDeeds_4 : decode cX8_holdsDeeds 4 = .ok (.if_icmp .ge 43, 3) := by decide +kernel
theorem dX8_holdsDeeds_7 : decode cX8_holdsDeeds 7 = .ok (.iload_n 2, 1) := by decide +kernel
theorem dX8_holdsDeeds_8 : decode cX8_holdsDeeds 8 = .ok (.aload_n 0, 1) := by decide +kernel
theorem dX8_holdsDeeds_9 : decode cX8_holdsDeeds 9 = .ok (.getfield 29, 3) := by decide +kernel
theorem dX8_holdsDeeds_12 : decode cX8_holdsDeeds 12 = .ok (.if_icmp .ge 35, 3) := by decide +kernel
theorem dX8_holdsDeeds_15 : decode cX8_holdsDeeds 15 = .ok (.aload_n 0, 1) := by decide +kernel
theorem dX8_holdsDeeds_16 : decode cX8_holdsDeeds 16 = .ok (.getfield 9, 3) := by decide +kernel
theorem dX8_holdsDeeds_19 : decode cX8_holdsDeeds 19 = .ok (.iload_n 2, 1) := by decide +kernel
theorem dX8_holdsDeeds_20 : decode cX8_holdsDeeds 20 = .ok (.laload, 1) := by decide +kernel
theorem dX8_holdsDeeds_21 : decode cX8_holdsDeeds 21 = .ok (.lconst 0, 1) := by decide +kernel
theorem dX8_holdsDeeds_22 : decode cX8_holdsDeeds 22 = .ok (.lcmp, 1) := by decide +kernel
theorem dX8_holdsDeeds_23 : decode cX8_holdsDeeds 23 = .ok (.ifCond .lt 16, 3) := by decide +kernel
theorem dX8_holdsDeeds_26 : decode cX8_holdsDeeds 26 = .ok (.aload_n 0, 1) := by decide +kernel
theorem dX8_holdsDeeds_27 : decode cX8_holdsDeeds 27 = .ok (.getfield 9, 3) := by decide +kernel
theorem dX8_holdsDeeds_30 : decode cX8_holdsDeeds 30 = .ok (.iload_n 2, 1) := by decide +kernel
theorem dX8_holdsDeeds_31 : decode cX8_holdsDeeds 31 = .ok (.laload, 1) := by decide +kernel
theorem dX8_holdsDeeds_32 : decode cX8_holdsDeeds 32 = .ok (.ldc2_w 36, 3) := by decide +kernel
theorem dX8_holdsDeeds_35 : decode cX8_holdsDeeds 35 = .ok (.lcmp, 1) := by decide +kernel
theorem dX8_holdsDeeds_36 : decode cX8_holdsDeeds 36 = .ok (.ifCond .lt 5, 3) := by decide +kernel
theorem dX8_holdsDeeds_39 : decode cX8_holdsDeeds 39 = .ok (.iconst 0, 1) := by decide +kernel
theorem dX8_holdsDeeds_40 : decode cX8_holdsDeeds 40 = .ok (.ireturn, 1) := by decide +kernel
theorem dX8_holdsDeeds_41 : decode cX8_holdsDeeds 41 = .ok (.iinc 2 1, 3) := by decide +kernel
theorem dX8_holdsDeeds_44 : decode cX8_holdsDeeds 44 = .ok (.goto (-42), 3) := by decide +kernel
theorem dX8_holdsDeeds_47 : decode cX8_holdsDeeds 47 = .ok (.iconst 1, 1) := by decide +kernel
theorem dX8_holdsDeeds_48 : decode cX8_holdsDeeds 48 = .ok (.ireturn, 1) := by decide +kernel
theorem dX9_init_0 : decode cX9_init 0 = .ok (.aload_n 0, 1) := by decide +kernel
theorem dX9_init_1 : decode cX9_init 1 = .ok (.invokespecial 5, 3) := by decide +kernel
theorem dX9_init_4 : decode cX9_init 4 = .ok (.aload_n 0, 1) := by decide +kernel
theorem dX9_init_5 : decode cX9_init 5 = .ok (.bipush 60, 2) := by decide +kernel
theorem dX9_init_7 : decode cX9_init 7 = .ok (.newarray .int, 2) := by decide +kernel
theorem dX9_init_9 : decode cX9_init 9 = .ok (.putfield 11, 3) := by decide +kernel
theorem dX9_init_12 : decode cX9_init 12 = .ok (.aload_n 0, 1) := by decide +kernel
theorem dX9_init_13 : decode cX9_init 13 = .ok (.bipush 60, 2) := by decide +kernel
theorem dX9_init_15 : decode cX9_init 15 = .ok (.newarray .int, 2) := by decide +kernel
theorem dX9_init_17 : decode cX9_init 17 = .ok (.putfield 15, 3) := by decide +kernel
theorem dX9_init_20 : decode cX9_init 20 = .ok (.aload_n 0, 1) := by decide +kernel
theorem dX9_init_21 : decode cX9_init 21 = .ok (.bipush 60, 2) := by decide +kernel
theorem dX9_init_23 : decode cX9_init 23 = .ok (.newarray .int, 2) := by decide +kernel
theorem dX9_init_25 : decode cX9_init 25 = .ok (.putfield 18, 3) := by decide +kernel
theorem dX9_init_28 : decode cX9_init 28 = .ok (.aload_n 0, 1) := by decide +kernel
theorem dX9_init_29 : decode cX9_init 29 = .ok (.bipush 60, 2) := by decide +kernel
theorem dX9_init_31 : decode cX9_init 31 = .ok (.newarray .int, 2) := by decide +kernel
theorem dX9_init_33 : decode cX9_init 33 = .ok (.putfield 21, 3) := by decide +kernel
theorem dX9_init_36 : decode cX9_init 36 = .ok (.aload_n 0, 1) := by decide +kernel
theorem dX9_init_37 : decode cX9_init 37 = .ok (.iconst 3, 1) := by decide +kernel
theorem dX9_init_38 : decode cX9_init 38 = .ok (.newarray .int, 2) := by decide +kernel
theorem dX9_init_40 : decode cX9_init 40 = .ok (.putfield 24, 3) := by decide +kernel
theorem dX9_init_43 : decode cX9_init 43 = .ok (.return_, 1) := by decide +kernel
theorem dX9_readFrom_0 : decode cX9_readFrom 0 = .ok (.iconst 0, 1) := by decide +kernel
theorem dX9_readFrom_1 : decode cX9_readFrom 1 = .ok (.istore_n 3, 1) := by decide +kernel
theorem dX9_readFrom_2 : decode cX9_readFrom 2 = .ok (.iload_n 3, 1) := by decide +kernel
theorem dX9_readFrom_3 : decode cX9_readFrom 3 = .ok (.sipush 300, 3) := by decide +kernel
theorem dX9_readFrom_6 : decode cX9_readFrom 6 = .ok (.if_icmp .ge 50, 3) := by decide +kernel
theorem dX9_readFrom_9 : decode cX9_readFrom 9 = .ok (.aload_n 1, 1) := by decide +kernel
theorem dX9_readFrom_10 : decode cX9_readFrom 10 = .ok (.getfield 27, 3) := by decide +kernel
theorem dX9_readFrom_13 : decode cX9_readFrom 13 = .ok (.bipush 35, 2) := by decide +kernel
theorem dX9_readFrom_15 : decode cX9_readFrom 15 = .ok (.if_icmp .eq 41, 3) := by decide +kernel
theorem dX9_readFrom_18 : decode cX9_readFrom 18 = .ok (.aload_n 1, 1) := by decide +kernel
theorem dX9_readFrom_19 : decode cX9_readFrom 19 = .ok (.getfield 27, 3) := by decide +kernel
theorem dX9_readFrom_22 : decode cX9_readFrom 22 = .ok (.bipush 30, 2) := by decide +kernel
theorem dX9_readFrom_24 : decode cX9_readFrom 24 = .ok (.if_icmp .ne 11, 3) := by decide +kernel
theorem dX9_readFrom_27 : decode cX9_readFrom 27 = .ok (.aload_n 0, 1) := by decide +kernel
theorem dX9_readFrom_28 : decode cX9_readFrom 28 = .ok (.aload_n 1, 1) := by decide +kernel
theorem dX9_readFrom_29 : decode cX9_readFrom 29 = .ok (.invokevirtual 33, 3) := by decide +kernel
theorem dX9_readFrom_32 : decode cX9_readFrom 32 = .ok (.goto 9, 3) := by decide +kernel
theorem dX9_readFrom_35 : decode cX9_readFrom 35 = .ok (.aload_n 0, 1) := by decide +kernel
theorem dX9_readFrom_36 : decode cX9_readFrom 36 = .ok (.aload_n 1, 1) := by decide +kernel
theorem dX9_readFrom_37 : decode cX9_readFrom 37 = .ok (.aload_n 2, 1) := by decide +kernel
theorem dX9_readFrom_38 : decode cX9_readFrom 38 = .ok (.invokevirtual 37, 3) := by decide +kernel
theorem dX9_readFrom_41 : decode cX9_readFrom 41 = .ok (.istore 4, 2) := by decide +kernel
theorem dX9_readFrom_43 : decode cX9_readFrom 43 = .ok (.iload 4, 2) := by decide +kernel
theorem dX9_readFrom_45 : decode cX9_readFrom 45 = .ok (.ifCond .ne 5, 3) := by decide +kernel
theorem dX9_readFrom_48 : decode cX9_readFrom 48 = .ok (.iconst 0, 1) := by decide +kernel
theorem dX9_readFrom_49 : decode cX9_readFrom 49 = .ok (.ireturn, 1) := by decide +kernel
theorem dX9_readFrom_50 : decode cX9_readFrom 50 = .ok (.iinc 3 1, 3) := by decide +kernel
theorem dX9_readFrom_53 : decode cX9_readFrom 53 = .ok (.goto (-51), 3) := by decide +kernel
theorem dX9_readFrom_56 : decode cX9_readFrom 56 = .ok (.aload_n 0, 1) := by decide +kernel
theorem dX9_readFrom_57 : decode cX9_readFrom 57 = .ok (.getfield 41, 3) := by decide +kernel
theorem dX9_readFrom_60 : decode cX9_readFrom 60 = .ok (.ifCond .eq 10, 3) := by decide +kernel
theorem dX9_readFrom_63 : decode cX9_readFrom 63 = .ok (.aload_n 1, 1) := by decide +kernel
theorem dX9_readFrom_64 : decode cX9_readFrom 64 = .ok (.invokevirtual 44, 3) := by decide +kernel
theorem dX9_readFrom_67 : decode cX9_readFrom 67 = .ok (.ifCond .eq 7, 3) := by decide +kernel
theorem dX9_readFrom_70 : decode cX9_readFrom 70 = .ok (.iconst 1, 1) := by decide +kernel
theorem dX9_readFrom_71 : decode cX9_readFrom 71 = .ok (.goto 4, 3) := by decide +kernel
theorem dX9_readFrom_74 : decode cX9_readFrom 74 = .ok (.iconst 0, 1) := by decide +kernel
theorem dX9_readFrom_75 : decode cX9_readFrom 75 = .ok (.ireturn, 1) := by decide +kernel
theorem dX9_readEnd_0 : decode cX9_readEnd 0 = .ok (.aload_n 0, 1) := by decide +kernel
theorem dX9_readEnd_1 : decode cX9_readEnd 1 = .ok (.getfield 41, 3) := by decide +kernel
theorem dX9_readEnd_4 : decode cX9_readEnd 4 = .ok (.iconst 1, 1) := by decide +kernel
theorem dX9_readEnd_5 : decode cX9_readEnd 5 = .ok (.iconst 3, 1) := by decide +kernel
theorem dX9_readEnd_6 : decode cX9_readEnd 6 = .ok (.invokestatic 48, 3) := by decide +kernel
theorem dX9_readEnd_9 : decode cX9_readEnd 9 = .ok (.ifCond .eq 12, 3) := by decide +kernel
theorem dX9_readEnd_12 : decode cX9_readEnd 12 = .ok (.aload_n 0, 1) := by decide +kernel
theorem dX9_readEnd_13 : decode cX9_readEnd 13 = .ok (.getfield 52, 3) := by decide +kernel
theorem dX9_readEnd_16 : decode cX9_readEnd 16 = .ok (.bipush 60, 2) := by decide +kernel
theorem dX9_readEnd_18 : decode cX9_readEnd 18 = .ok (.if_icmp .lt 8, 3) := by decide +kernel
theorem dX9_readEnd_21 : decode cX9_readEnd 21 = .ok (.aload_n 1, 1) := by decide +kernel
theorem dX9_readEnd_22 : decode cX9_readEnd 22 = .ok (.invokevirtual 44, 3) := by decide +kernel
theorem dX9_readEnd_25 : decode cX9_readEnd 25 = .ok (.ireturn, 1) := by decide +kernel
theorem dX9_readEnd_26 : decode cX9_readEnd 26 = .ok (.aload_n 0, 1) := by decide +kernel
theorem dX9_readEnd_27 : decode cX9_readEnd 27 = .ok (.getfield 24, 3) := by decide +kernel
theorem dX9_readEnd_30 : decode cX9_readEnd 30 = .ok (.aload_n 0, 1) := by decide +kernel
theorem dX9_readEnd_31 : decode cX9_readEnd 31 = .ok (.dup, 1) := by decide +kernel
theorem dX9_readEnd_32 : decode cX9_readEnd 32 = .ok (.getfield 41, 3) := by decide +kernel
theorem dX9_readEnd_35 : decode cX9_readEnd 35 = .ok (.iconst 1, 1) := by decide +kernel
theorem dX9_readEnd_36 : decode cX9_readEnd 36 = .ok (.isub, 1) := by decide +kernel
theorem dX9_readEnd_37 : decode cX9_readEnd 37 = .ok (.dup_x1, 1) := by decide +kernel
theorem dX9_readEnd_38 : decode cX9_readEnd 38 = .ok (.putfield 41, 3) := by decide +kernel
theorem dX9_readEnd_41 : decode cX9_readEnd 41 = .ok (.iaload, 1) := by decide +kernel
theorem dX9_readEnd_42 : decode cX9_readEnd 42 = .ok (.istore_n 2, 1) := by decide +kernel
theorem dX9_readEnd_43 : decode cX9_readEnd 43 = .ok (.aload_n 0, 1) := by decide +kernel
theorem dX9_readEnd_44 : decode cX9_readEnd 44 = .ok (.getfield 21, 3) := by decide +kernel
theorem dX9_readEnd_47 : decode cX9_readEnd 47 = .ok (.iload_n 2, 1) := by decide +kernel
theorem dX9_readEnd_48 : decode cX9_readEnd 48 = .ok (.aload_n 0, 1) := by decide +kernel
theorem dX9_readEnd_49 : decode cX9_readEnd 49 = .ok (.getfield 52, 3) := by decide +kernel
theorem dX9_readEnd_52 : decode cX9_readEnd 52 = .ok (.iastore, 1) := by decide +kernel
theorem dX9_readEnd_53 : decode cX9_readEnd 53 = .ok (.aload_n 0, 1) := by decide +kernel
theorem dX9_readEnd_54 : decode cX9_readEnd 54 = .ok (.getfield 21, 3) := by decide +kernel
theorem dX9_readEnd_57 : decode cX9_readEnd 57 = .ok (.aload_n 0, 1) := by decide +kernel
theorem dX9_readEnd_58 : decode cX9_readEnd 58 = .ok (.getfield 52, 3) := by decide +kernel
theorem dX9_readEnd_61 : decode cX9_readEnd 61 = .ok (.iload_n 2, 1) := by decide +kernel
theorem dX9_readEnd_62 : decode cX9_readEnd 62 = .ok (.iastore, 1) := by decide +kernel
theorem dX9_readEnd_63 : decode cX9_readEnd 63 = .ok (.aload_n 0, 1) := by decide +kernel
theorem dX9_readEnd_64 : decode cX9_readEnd 64 = .ok (.getfield 11, 3) := by decide +kernel
theorem dX9_readEnd_67 : decode cX9_readEnd 67 = .ok (.aload_n 0, 1) := by decide +kernel
theorem dX9_readEnd_68 : decode cX9_readEnd 68 = .ok (.dup, 1) := by decide +kernel
theorem dX9_readEnd_69 : decode cX9_readEnd 69 = .ok (.getfield 52, 3) := by decide +kernel
theorem dX9_readEnd_72 : decode cX9_readEnd 72 = .ok (.dup_x1, 1) := by decide +kernel
theorem dX9_readEnd_73 : decode cX9_readEnd 73 = .ok (.iconst 1, 1) := by decide +kernel
theorem dX9_readEnd_74 : decode cX9_readEnd 74 = .ok (.iadd, 1) := by decide +kernel
theorem dX9_readEnd_75 : decode cX9_readEnd 75 = .ok (.putfield 52, 3) := by decide +kernel
theorem dX9_readEnd_78 : decode cX9_readEnd 78 = .ok (.bipush 30, 2) := by decide +kernel
theorem dX9_readEnd_80 : decode cX9_readEnd 80 = .ok (.iastore, 1) := by decide +kernel
theorem dX9_readEnd_81 : decode cX9_readEnd 81 = .ok (.aload_n 1, 1) := by decide +kernel
theorem dX9_readEnd_82 : decode cX9_readEnd 82 = .ok (.invokevirtual 55, 3) := by decide +kernel
theorem dX9_readEnd_85 : decode cX9_readEnd 85 = .ok (.aload_n 1, 1) := by decide +kernel
theorem dX9_readEnd_86 : decode cX9_readEnd 86 = .ok (.bipush 59, 2) := by decide +kernel
theorem dX9_readEnd_88 : decode cX9_readEnd 88 = .ok (.invokevirtual 58, 3) := by decide +kernel
theorem dX9_readEnd_91 : decode cX9_readEnd 91 = .ok (.ireturn, 1) := by decide +kernel
theorem dX9_readStep_0 : decode cX9_readStep 0 = .ok (.aload_n 1, 1) := by decide +kernel
theorem dX9_readStep_1 : decode cX9_readStep 1 = .ok (.getfield 27, 3) := by decide +kernel
theorem dX9_readStep_4 : decode cX9_readStep 4 = .ok (.bipush 24, 2) := by decide +kernel
theorem dX9_readStep_6 : decode cX9_readStep 6 = .ok (.if_icmp .eq 12, 3) := by decide +kernel
theorem dX9_readStep_9 : decode cX9_readStep 9 = .ok (.aload_n 1, 1) := by decide +kernel
theorem dX9_readStep_10 : decode cX9_readStep 10 = .ok (.getfield 27, 3) := by decide +kernel
theorem dX9_readStep_13 : decode cX9_readStep 13 = .ok (.bipush 29, 2) := by decide +kernel
theorem dX9_readStep_15 : decode cX9_readStep 15 = .ok (.if_icmp .ne 7, 3) := by decide +kernel
theorem dX9_readStep_18 : decode cX9_readStep 18 = .ok (.iconst 1, 1) := by decide +kernel
theorem dX9_readStep_19 : decode cX9_readStep 19 = .ok (.goto 4, 3) := by decide +kernel
theorem dX9_readStep_22 : decode cX9_readStep 22 = .ok (.iconst 0, 1) := by decide +kernel
theorem dX9_readStep_23 : decode cX9_readStep 23 = .ok (.istore_n 3, 1) := by decide +kernel
theorem dX9_readStep_24 : decode cX9_readStep 24 = .ok (.iload_n 3, 1) := by decide +kernel
theorem dX9_readStep_25 : decode cX9_readStep 25 = .ok (.ifCond .ne 31, 3) := by decide +kernel
theorem dX9_readStep_28 : decode cX9_readStep 28 = .ok (.aload_n 1, 1) := by decide +kernel
theorem dX9_readStep_29 : decode cX9_readStep 29 = .ok (.getfield 27, 3) := by decide +kernel
theorem dX9_readStep_32 : decode cX9_readStep 32 = .ok (.bipush 19, 2) := by decide +kernel
theorem dX9_readStep_34 : decode cX9_readStep 34 = .ok (.bipush 23, 2) := by decide +kernel
theorem dX9_readStep_36 : decode cX9_readStep 36 = .ok (.invokestatic 48, 3) := by decide +kernel
theorem dX9_readStep_39 : decode cX9_readStep 39 = .ok (.ifCond .ne 17, 3) := by decide +kernel
theorem dX9_readStep_42 : decode cX9_readStep 42 = .ok (.aload_n 1, 1) := by decide +kernel
theorem dX9_readStep_43 : decode cX9_readStep 43 = .ok (.getfield 27, 3) := by decide +kernel
theorem dX9_readStep_46 : decode cX9_readStep 46 = .ok (.bipush 31, 2) := by decide +kernel
theorem dX9_readStep_48 : decode cX9_readStep 48 = .ok (.if_icmp .eq 8, 3) := by decide +kernel
theorem dX9_readStep_51 : decode cX9_readStep 51 = .ok (.aload_n 1, 1) := by decide +kernel
theorem dX9_readStep_52 : decode cX9_readStep 52 = .ok (.invokevirtual 44, 3) := by decide +kernel
theorem dX9_readStep_55 : decode cX9_readStep 55 = .ok (.ireturn, 1) := by decide +kernel
theorem dX9_readStep_56 : decode cX9_readStep 56 = .ok (.aload_n 0, 1) := by decide +kernel
theorem dX9_readStep_57 : decode cX9_readStep 57 = .ok (.getfield 62, 3) := by decide +kernel
theorem dX9_readStep_60 : decode cX9_readStep 60 = .ok (.bipush 30, 2) := by decide +kernel
theorem dX9_readStep_62 : decode cX9_readStep 62 = .ok (.if_icmp .ge 12, 3) := by decide +kernel
theorem dX9_readStep_65 : decode cX9_readStep 65 = .ok (.aload_n 0, 1) := by decide +kernel
theorem dX9_readStep_66 : decode cX9_readStep 66 = .ok (.getfield 52, 3) := by decide +kernel
theorem dX9_readStep_69 : decode cX9_readStep 69 = .ok (.bipush 60, 2) := by decide +kernel
theorem dX9_readStep_71 : decode cX9_readStep 71 = .ok (.if_icmp .lt 10, 3) := by decide +kernel
theorem dX9_readStep_74 : decode cX9_readStep 74 = .ok (.aload_n 1, 1) := by decide +kernel
theorem dX9_readStep_75 : decode cX9_readStep 75 = .ok (.bipush 6, 2) := by decide +kernel
theorem dX9_readStep_77 : decode cX9_readStep 77 = .ok (.invokevirtual 65, 3) := by decide +kernel
theorem dX9_readStep_80 : decode cX9_readStep 80 = .ok (.ireturn, 1) := by decide +kernel
theorem dX9_readStep_81 : decode cX9_readStep 81 = .ok (.iload_n 3, 1) := by decide +kernel
theorem dX9_readStep_82 : decode cX9_readStep 82 = .ok (.ifCond .eq 18, 3) := by decide +kernel
theorem dX9_readStep_85 : decode cX9_readStep 85 = .ok (.aload_n 0, 1) := by decide +kernel
theorem dX9_readStep_86 : decode cX9_readStep 86 = .ok (.getfield 41, 3) := by decide +kernel
theorem dX9_readStep_89 : decode cX9_readStep 89 = .ok (.iconst 3, 1) := by decide +kernel
theorem dX9_readStep_90 : decode cX9_readStep 90 = .ok (.if_icmp .lt 10, 3) := by decide +kernel
theorem dX9_readStep_93 : decode cX9_readStep 93 = .ok (.aload_n 1, 1) := by decide +kernel
theorem dX9_readStep_94 : decode cX9_readStep 94 = .ok (.bipush 7, 2) := by decide +kernel
theorem dX9_readStep_96 : decode cX9_readStep 96 = .ok (.invokevirtual 65, 3) := by decide +kernel
theorem dX9_readStep_99 : decode cX9_readStep 99 = .ok (.ireturn, 1) := by decide +kernel
theorem dX9_readStep_100 : decode cX9_readStep 100 = .ok (.aload_n 1, 1) := by decide +kernel
theorem dX9_readStep_101 : decode cX9_readStep 101 = .ok (.getfield 27, 3) := by decide +kernel
theorem dX9_readStep_104 : decode cX9_readStep 104 = .ok (.bipush 24, 2) := by decide +kernel
theorem dX9_readStep_106 : decode cX9_readStep 106 = .ok (.if_icmp .ne 26, 3) := by decide +kernel
theorem dX9_readStep_109 : decode cX9_readStep 109 = .ok (.aload_n 1, 1) := by decide +kernel
theorem dX9_readStep_110 : decode cX9_readStep 110 = .ok (.invokevirtual 55, 3) := by decide +kernel
theorem dX9_readStep_113 : decode cX9_readStep 113 = .ok (.aload_n 1, 1) := by decide +kernel
theorem dX9_readStep_114 : decode cX9_readStep 114 = .ok (.getfield 27, 3) := by decide +kernel
theorem dX9_readStep_117 : decode cX9_readStep 117 = .ok (.bipush 25, 2) := by decide +kernel
theorem dX9_readStep_119 : decode cX9_readStep 119 = .ok (.bipush 28, 2) := by decide +kernel
theorem dX9_readStep_121 : decode cX9_readStep 121 = .ok (.invokestatic 48, 3) := by decide +kernel
theorem dX9_readStep_124 : decode cX9_readStep 124 = .ok (.ifCond .ne 8, 3) := by decide +kernel
theorem dX9_readStep_127 : decode cX9_readStep 127 = .ok (.aload_n 1, 1) := by decide +kernel
theorem dX9_readStep_128 : decode cX9_readStep 128 = .ok (.invokevirtual 44, 3) := by decide +kernel
theorem dX9_readStep_131 : decode cX9_readStep 131 = .ok (.ireturn, 1) := by decide +kernel
theorem dX9_readStep_132 : decode cX9_readStep 132 = .ok (.aload_n 0, 1) := by decide +kernel
theorem dX9_readStep_133 : decode cX9_readStep 133 = .ok (.getfield 11, 3) := by decide +kernel
theorem dX9_readStep_136 : decode cX9_readStep 136 = .ok (.aload_n 0, 1) := by decide +kernel
theorem dX9_readStep_137 : decode cX9_readStep 137 = .ok (.getfield 52, 3) := by decide +kernel
theorem dX9_readStep_140 : decode cX9_readStep 140 = .ok (.aload_n 1, 1) := by decide +kernel
theorem dX9_readStep_141 : decode cX9_readStep 141 = .ok (.getfield 27, 3) := by decide +kernel
theorem dX9_readStep_144 : decode cX9_readStep 144 = .ok (.iastore, 1) := by decide +kernel
theorem dX9_readStep_145 : decode cX9_readStep 145 = .ok (.aload_n 1, 1) := by decide +kernel
theorem dX9_readStep_146 : decode cX9_readStep 146 = .ok (.invokevirtual 55, 3) := by decide +kernel
theorem dX9_readStep_149 : decode cX9_readStep 149 = .ok (.aload_n 1, 1) := by decide +kernel
theorem dX9_readStep_150 : decode cX9_readStep 150 = .ok (.iconst (-1), 1) := by decide +kernel
theorem dX9_readStep_151 : decode cX9_readStep 151 = .ok (.putfield 68, 3) := by decide +kernel
theorem dX9_readStep_154 : decode cX9_readStep 154 = .ok (.aload_n 0, 1) := by decide +kernel
theorem dX9_readStep_155 : decode cX9_readStep 155 = .ok (.aload_n 1, 1) := by decide +kernel
theorem dX9_readStep_156 : decode cX9_readStep 156 = .ok (.aload_n 2, 1) := by decide +kernel
theorem dX9_readStep_157 : decode cX9_readStep 157 = .ok (.invokevirtual 71, 3) := by decide +kernel
theorem dX9_readStep_160 : decode cX9_readStep 160 = .ok (.ifCond .eq 12, 3) := by decide +kernel
theorem dX9_readStep_163 : decode cX9_readStep 163 = .ok (.aload_n 1, 1) := by decide +kernel
theorem dX9_readStep_164 : decode cX9_readStep 164 = .ok (.bipush 59, 2) := by decide +kernel
theorem dX9_readStep_166 : decode cX9_readStep 166 = .ok (.invokevirtual 58, 3) := by decide +kernel
theorem dX9_readStep_169 : decode cX9_readStep 169 = .ok (.ifCond .ne 5, 3) := by decide +kernel
theorem dX9_readStep_172 : decode cX9_readStep 172 = .ok (.iconst 0, 1) := by decide +kernel
theorem dX9_readStep_173 : decode cX9_readStep 173 = .ok (.ireturn, 1) := by decide +kernel
theorem dX9_readStep_174 : decode cX9_readStep 174 = .ok (.aload_n 0, 1) := by decide +kernel
theorem dX9_readStep_175 : decode cX9_readStep 175 = .ok (.getfield 15, 3) := by decide +kernel
theorem dX9_readStep_178 : decode cX9_readStep 178 = .ok (.aload_n 0, 1) := by decide +kernel
theorem dX9_readStep_179 : decode cX9_readStep 179 = .ok (.getfield 52, 3) := by decide +kernel
theorem dX9_readStep_182 : decode cX9_readStep 182 = .ok (.aload_n 1, 1) := by decide +kernel
theorem dX9_readStep_183 : decode cX9_readStep 183 = .ok (.getfield 68, 3) := by decide +kernel
theorem dX9_readStep_186 : decode cX9_readStep 186 = .ok (.iastore, 1) := by decide +kernel
theorem dX9_readStep_187 : decode cX9_readStep 187 = .ok (.iload_n 3, 1) := by decide +kernel
theorem dX9_readStep_188 : decode cX9_readStep 188 = .ok (.ifCond .eq 23, 3) := by decide +kernel
theorem dX9_readStep_191 : decode cX9_readStep 191 = .ok (.aload_n 0, 1) := by decide +kernel
theorem dX9_readStep_192 : decode cX9_readStep 192 = .ok (.getfield 24, 3) := by decide +kernel
theorem dX9_readStep_195 : decode cX9_readStep 195 = .ok (.aload_n 0, 1) := by decide +kernel
theorem dX9_readStep_196 : decode cX9_readStep 196 = .ok (.dup, 1) := by decide +kernel
theorem dX9_readStep_197 : decode cX9_readStep 197 = .ok (.getfield 41, 3) := by decide +kernel
theorem dX9_readStep_200 : decode cX9_readStep 200 = .ok (.dup_x1, 1) := by decide +kernel
theorem dX9_readStep_201 : decode cX9_readStep 201 = .ok (.iconst 1, 1) := by decide +kernel
theorem dX9_readStep_202 : decode cX9_readStep 202 = .ok (.iadd, 1) := by decide +kernel
theorem dX9_readStep_203 : decode cX9_readStep 203 = .ok (.putfield 41, 3) := by decide +kernel
theorem dX9_readStep_206 : decode cX9_readStep 206 = .ok (.aload_n 0, 1) := by decide +kernel
theorem dX9_readStep_207 : decode cX9_readStep 207 = .ok (.getfield 52, 3) := by decide +kernel
theorem dX9_readStep_210 : decode cX9_readStep 210 = .ok (.iastore, 1) := by decide +kernel
theorem dX9_readStep_211 : decode cX9_readStep 211 = .ok (.aload_n 0, 1) := by decide +kernel
theorem dX9_readStep_212 : decode cX9_readStep 212 = .ok (.dup, 1) := by decide +kernel
theorem dX9_readStep_213 : decode cX9_readStep 213 = .ok (.getfield 52, 3) := by decide +kernel
theorem dX9_readStep_216 : decode cX9_readStep 216 = .ok (.iconst 1, 1) := by decide +kernel
theorem dX9_readStep_217 : decode cX9_readStep 217 = .ok (.iadd, 1) := by decide +kernel
theorem dX9_readStep_218 : decode cX9_readStep 218 = .ok (.putfield 52, 3) := by decide +kernel
theorem dX9_readStep_221 : decode cX9_readStep 221 = .ok (.aload_n 0, 1) := by decide +kernel
theorem dX9_readStep_222 : decode cX9_readStep 222 = .ok (.dup, 1) := by decide +kernel
theorem dX9_readStep_223 : decode cX9_readStep 223 = .ok (.getfield 62, 3) := by decide +kernel
theorem dX9_readStep_226 : decode cX9_readStep 226 = .ok (.iconst 1, 1) := by decide +kernel
theorem dX9_readStep_227 : decode cX9_readStep 227 = .ok (.iadd, 1) := by decide +kernel
theorem dX9_readStep_228 : decode cX9_readStep 228 = .ok (.putfield 62, 3) := by decide +kernel
theorem dX9_readStep_231 : decode cX9_readStep 231 = .ok (.iconst 1, 1) := by decide +kernel
theorem dX9_readStep_232 : decode cX9_readStep 232 = .ok (.ireturn, 1) := by decide +kernel
theorem dX9_readRest_0 : decode cX9_readRest 0 = .ok (.aload_n 0, 1) := by decide +kernel
theorem dX9_readRest_1 : decode cX9_readRest 1 = .ok (.getfield 11, 3) := by decide +kernel
theorem dX9_readRest_4 : decode cX9_readRest 4 = .ok (.aload_n 0, 1) := by decide +kernel
theorem dX9_readRest_5 : decode cX9_readRest 5 = .ok (.getfield 52, 3) := by decide +kernel
theorem dX9_readRest_8 : decode cX9_readRest 8 = .ok (.iaload, 1) := by decide +kernel
theorem dX9_readRest_9 : decode cX9_readRest 9 = .ok (.tableswitch 155 19 29 #[59, 89, 89, 102, 102, 155, 89, 102, 131, 123, 115], 59) := by decide +kernel
theorem dX9_readRest_68 : decode cX9_readRest 68 = .ok (.aload_n 1, 1) := by decide +kernel
theorem dX9_readRest_69 : decode cX9_readRest 69 = .ok (.getfield 27, 3) := by decide +kernel
theorem dX9_readRest_72 : decode cX9_readRest 72 = .ok (.bipush 59, 2) := by decide +kernel
theorem dX9_readRest_74 : decode cX9_readRest 74 = .ok (.if_icmp .eq 18, 3) := by decide +kernel
theorem dX9_readRest_77 : decode cX9_readRest 77 = .ok (.aload_n 1, 1) := by decide +kernel
theorem dX9_readRest_78 : decode cX9_readRest 78 = .ok (.aload_n 2, 1) := by decide +kernel
theorem dX9_readRest_79 : decode cX9_readRest 79 = .ok (.getfield 74, 3) := by decide +kernel
theorem dX9_readRest_82 : decode cX9_readRest 82 = .ok (.aload_n 2, 1) := by decide +kernel
theorem dX9_readRest_83 : decode cX9_readRest 83 = .ok (.getfield 80, 3) := by decide +kernel
theorem dX9_readRest_86 : decode cX9_readRest 86 = .ok (.invokevirtual 83, 3) := by decide +kernel
theorem dX9_readRest_89 : decode cX9_readRest 89 = .ok (.ifCond .eq 7, 3) := by decide +kernel
theorem dX9_readRest_92 : decode cX9_readRest 92 = .ok (.iconst 1, 1) := by decide +kernel
theorem dX9_readRest_93 : decode cX9_readRest 93 = .ok (.goto 4, 3) := by decide +kernel
theorem dX9_readRest_96 : decode cX9_readRest 96 = .ok (.iconst 0, 1) := by decide +kernel
theorem dX9_readRest_97 : decode cX9_readRest 97 = .ok (.ireturn, 1) := by decide +kernel
theorem dX9_readRest_98 : decode cX9_readRest 98 = .ok (.aload_n 1, 1) := by decide +kernel
theorem dX9_readRest_99 : decode cX9_readRest 99 = .ok (.aload_n 2, 1) := by decide +kernel
theorem dX9_readRest_100 : decode cX9_readRest 100 = .ok (.getfield 87, 3) := by decide +kernel
theorem dX9_readRest_103 : decode cX9_readRest 103 = .ok (.aload_n 2, 1) := by decide +kernel
theorem dX9_readRest_104 : decode cX9_readRest 104 = .ok (.getfield 90, 3) := by decide +kernel
theorem dX9_readRest_107 : decode cX9_readRest 107 = .ok (.invokevirtual 83, 3) := by decide +kernel
theorem dX9_readRest_110 : decode cX9_readRest 110 = .ok (.ireturn, 1) := by decide +kernel
theorem dX9_readRest_111 : decode cX9_readRest 111 = .ok (.aload_n 1, 1) := by decide +kernel
theorem dX9_readRest_112 : decode cX9_readRest 112 = .ok (.aload_n 2, 1) := by decide +kernel
theorem dX9_readRest_113 : decode cX9_readRest 113 = .ok (.getfield 93, 3) := by decide +kernel
theorem dX9_readRest_116 : decode cX9_readRest 116 = .ok (.aload_n 2, 1) := by decide +kernel
theorem dX9_readRest_117 : decode cX9_readRest 117 = .ok (.getfield 96, 3) := by decide +kernel
theorem dX9_readRest_120 : decode cX9_readRest 120 = .ok (.invokevirtual 83, 3) := by decide +kernel
theorem dX9_readRest_123 : decode cX9_readRest 123 = .ok (.ireturn, 1) := by decide +kernel
theorem dX9_readRest_124 : decode cX9_readRest 124 = .ok (.aload_n 1, 1) := by decide +kernel
theorem dX9_readRest_125 : decode cX9_readRest 125 = .ok (.iconst 1, 1) := by decide +kernel
theorem dX9_readRest_126 : decode cX9_readRest 126 = .ok (.bipush 99, 2) := by decide +kernel
theorem dX9_readRest_128 : decode cX9_readRest 128 = .ok (.invokevirtual 99, 3) := by decide +kernel
theorem dX9_readRest_131 : decode cX9_readRest 131 = .ok (.ireturn, 1) := by decide +kernel
theorem dX9_readRest_132 : decode cX9_readRest 132 = .ok (.aload_n 1, 1) := by decide +kernel
theorem dX9_readRest_133 : decode cX9_readRest 133 = .ok (.iconst 0, 1) := by decide +kernel
theorem dX9_readRest_134 : decode cX9_readRest 134 = .ok (.bipush 9, 2) := by decide +kernel
theorem dX9_readRest_136 : decode cX9_readRest 136 = .ok (.invokevirtual 99, 3) := by decide +kernel
theorem dX9_readRest_139 : decode cX9_readRest 139 = .ok (.ireturn, 1) := by decide +kernel
theorem dX9_readRest_140 : decode cX9_readRest 140 = .ok (.aload_n 0, 1) := by decide +kernel
theorem dX9_readRest_141 : decode cX9_readRest 141 = .ok (.aload_n 1, 1) := by decide +kernel
theorem dX9_readRest_142 : decode cX9_readRest 142 = .ok (.invokevirtual 103, 3) := by decide +kernel
theorem dX9_readRest_145 : decode cX9_readRest 145 = .ok (.ifCond .eq 17, 3) := by decide +kernel
theorem dX9_readRest_148 : decode cX9_readRest 148 = .ok (.aload_n 1, 1) := by decide +kernel
theorem dX9_readRest_149 : decode cX9_readRest 149 = .ok (.iconst 0, 1) := by decide +kernel
theorem dX9_readRest_150 : decode cX9_readRest 150 = .ok (.bipush 99, 2) := by decide +kernel
theorem dX9_readRest_152 : decode cX9_readRest 152 = .ok (.invokevirtual 99, 3) := by decide +kernel
theorem dX9_readRest_155 : decode cX9_readRest 155 = .ok (.ifCond .eq 7, 3) := by decide +kernel
theorem dX9_readRest_158 : decode cX9_readRest 158 = .ok (.iconst 1, 1) := by decide +kernel
theorem dX9_readRest_159 : decode cX9_readRest 159 = .ok (.goto 4, 3) := by decide +kernel
theorem dX9_readRest_162 : decode cX9_readRest 162 = .ok (.iconst 0, 1) := by decide +kernel
theorem dX9_readRest_163 : decode cX9_readRest 163 = .ok (.ireturn, 1) := by decide +kernel
theorem dX9_readRest_164 : decode cX9_readRest 164 = .ok (.iconst 1, 1) := by decide +kernel
theorem dX9_readRest_165 : decode cX9_readRest 165 = .ok (.ireturn, 1) := by decide +kernel
theorem dX9_readCompare_0 : decode cX9_readCompare 0 = .ok (.aload_n 1, 1) := by decide +kernel
theorem dX9_readCompare_1 : decode cX9_readCompare 1 = .ok (.getfield 27, 3) := by decide +kernel
theorem dX9_readCompare_4 : decode cX9_readCompare 4 = .ok (.bipush 60, 2) := by decide +kernel
theorem dX9_readCompare_6 : decode cX9_readCompare 6 = .ok (.if_icmp .eq 26, 3) := by decide +kernel
theorem dX9_readCompare_9 : decode cX9_readCompare 9 = .ok (.aload_n 1, 1) := by decide +kernel
theorem dX9_readCompare_10 : decode cX9_readCompare 10 = .ok (.getfield 27, 3) := by decide +kernel
theorem dX9_readCompare_13 : decode cX9_readCompare 13 = .ok (.bipush 62, 2) := by decide +kernel
theorem dX9_readCompare_15 : decode cX9_readCompare 15 = .ok (.if_icmp .eq 17, 3) := by decide +kernel
theorem dX9_readCompare_18 : decode cX9_readCompare 18 = .ok (.aload_n 1, 1) := by decide +kernel
theorem dX9_readCompare_19 : decode cX9_readCompare 19 = .ok (.getfield 27, 3) := by decide +kernel
theorem dX9_readCompare_22 : decode cX9_readCompare 22 = .ok (.bipush 61, 2) := by decide +kernel
theorem dX9_readCompare_24 : decode cX9_readCompare 24 = .ok (.if_icmp .eq 8, 3) := by decide +kernel
theorem dX9_readCompare_27 : decode cX9_readCompare 27 = .ok (.aload_n 1, 1) := by decide +kernel
theorem dX9_readCompare_28 : decode cX9_readCompare 28 = .ok (.invokevirtual 44, 3) := by decide +kernel
theorem dX9_readCompare_31 : decode cX9_readCompare 31 = .ok (.ireturn, 1) := by decide +kernel
theorem dX9_readCompare_32 : decode cX9_readCompare 32 = .ok (.aload_n 0, 1) := by decide +kernel
theorem dX9_readCompare_33 : decode cX9_readCompare 33 = .ok (.getfield 18, 3) := by decide +kernel
theorem dX9_readCompare_36 : decode cX9_readCompare 36 = .ok (.aload_n 0, 1) := by decide +kernel
theorem dX9_readCompare_37 : decode cX9_readCompare 37 = .ok (.getfield 52, 3) := by decide +kernel
theorem dX9_readCompare_40 : decode cX9_readCompare 40 = .ok (.aload_n 1, 1) := by decide +kernel
theorem dX9_readCompare_41 : decode cX9_readCompare 41 = .ok (.getfield 27, 3) := by decide +kernel
theorem dX9_readCompare_44 : decode cX9_readCompare 44 = .ok (.iastore, 1) := by decide +kernel
theorem dX9_readCompare_45 : decode cX9_readCompare 45 = .ok (.aload_n 1, 1) := by decide +kernel
theorem dX9_readCompare_46 : decode cX9_readCompare 46 = .ok (.invokevirtual 55, 3) := by decide +kernel
theorem dX9_readCompare_49 : decode cX9_readCompare 49 = .ok (.iconst 1, 1) := by decide +kernel
theorem dX9_readCompare_50 : decode cX9_readCompare 50 = .ok (.ireturn, 1) := by decide +kernel
theorem dX10_init_0 : decode cX10_init 0 = .ok (.aload_n 0, 1) := by decide +kernel
theorem dX10_init_1 : decode cX10_init 1 = .ok (.invokespecial 3, 3) := by decide +kernel
theorem dX10_init_4 : decode cX10_init 4 = .ok (.aload_n 0, 1) := by decide +kernel
theorem dX10_init_5 : decode cX10_init 5 = .ok (.new 9, 3) := by decide +kernel
theorem dX10_init_8 : decode cX10_init 8 = .ok (.dup, 1) := by decide +kernel
theorem dX10_init_9 : decode cX10_init 9 = .ok (.invokespecial 11, 3) := by decide +kernel
theorem dX10_init_12 : decode cX10_init 12 = .ok (.putfield 12, 3) := by decide +kernel
theorem dX10_init_15 : decode cX10_init 15 = .ok (.aload_n 0, 1) := by decide +kernel
theorem dX10_init_16 : decode cX10_init 16 = .ok (.bipush 60, 2) := by decide +kernel
theorem dX10_init_18 : decode cX10_init 18 = .ok (.newarray .int, 2) := by decide +kernel
theorem dX10_init_20 : decode cX10_init 20 = .ok (.putfield 20, 3) := by decide +kernel
theorem dX10_init_23 : decode cX10_init 23 = .ok (.return_, 1) := by decide +kernel
theorem dX10_go_0 : decode cX10_go 0 = .ok (.aload_n 1, 1) := by decide +kernel
theorem dX10_go_1 : decode cX10_go 1 = .ok (.getfield 24, 3) := by decide +kernel
theorem dX10_go_4 : decode cX10_go 4 = .ok (.astore 4, 2) := by decide +kernel
theorem dX10_go_6 : decode cX10_go 6 = .ok (.aload 4, 2) := by decide +kernel
theorem dX10_go_8 : decode cX10_go 8 = .ok (.ifnonnull 4, 3) := by decide +kernel
theorem dX10_go_11 : decode cX10_go 11 = .ok (.return_, 1) := by decide +kernel
theorem dX10_go_12 : decode cX10_go 12 = .ok (.aload_n 1, 1) := by decide +kernel
theorem dX10_go_13 : decode cX10_go 13 = .ok (.getfield 30, 3) := by decide +kernel
theorem dX10_go_16 : decode cX10_go 16 = .ok (.istore 5, 2) := by decide +kernel
theorem dX10_go_18 : decode cX10_go 18 = .ok (.aload_n 1, 1) := by decide +kernel
theorem dX10_go_19 : decode cX10_go 19 = .ok (.getfield 34, 3) := by decide +kernel
theorem dX10_go_22 : decode cX10_go 22 = .ok (.istore 6, 2) := by decide +kernel
theorem dX10_go_24 : decode cX10_go 24 = .ok (.aload_n 0, 1) := by decide +kernel
theorem dX10_go_25 : decode cX10_go 25 = .ok (.iload_n 2, 1) := by decide +kernel
theorem dX10_go_26 : decode cX10_go 26 = .ok (.iload_n 3, 1) := by decide +kernel
theorem dX10_go_27 : decode cX10_go 27 = .ok (.invokevirtual 37, 3) := by decide +kernel
theorem dX10_go_30 : decode cX10_go 30 = .ok (.iconst 0, 1) := by decide +kernel
theorem dX10_go_31 : decode cX10_go 31 = .ok (.istore 7, 2) := by decide +kernel
theorem dX10_go_33 : decode cX10_go 33 = .ok (.iconst 0, 1) := by decide +kernel
theorem dX10_go_34 : decode cX10_go 34 = .ok (.istore 8, 2) := by decide +kernel
theorem dX10_go_36 : decode cX10_go 36 = .ok (.iload 8, 2) := by decide +kernel
theorem dX10_go_38 : decode cX10_go 38 = .ok (.ldc 41, 2) := by decide +kernel
theorem dX10_go_40 : decode cX10_go 40 = .ok (.if_icmp .ge 67, 3) := by decide +kernel
theorem dX10_go_43 : decode cX10_go 43 = .ok (.iload 7, 2) := by decide +kernel
theorem dX10_go_45 : decode cX10_go 45 = .ok (.aload 4, 2) := by decide +kernel
theorem dX10_go_47 : decode cX10_go 47 = .ok (.getfield 42, 3) := by decide +kernel
theorem dX10_go_50 : decode cX10_go 50 = .ok (.invokestatic 45, 3) := by decide +kernel
theorem dX10_go_53 : decode cX10_go 53 = .ok (.ifCond .eq 54, 3) := by decide +kernel
theorem dX10_go_56 : decode cX10_go 56 = .ok (.aload_n 0, 1) := by decide +kernel
theorem dX10_go_57 : decode cX10_go 57 = .ok (.getfield 49, 3) := by decide +kernel
theorem dX10_go_60 : decode cX10_go 60 = .ok (.sipush 200, 3) := by decide +kernel
theorem dX10_go_63 : decode cX10_go 63 = .ok (.if_icmp .ge 44, 3) := by decide +kernel
theorem dX10_go_66 : decode cX10_go 66 = .ok (.aload 4, 2) := by decide +kernel
theorem dX10_go_68 : decode cX10_go 68 = .ok (.getfield 52, 3) := by decide +kernel
theorem dX10_go_71 : decode cX10_go 71 = .ok (.iload 7, 2) := by decide +kernel
theorem dX10_go_73 : decode cX10_go 73 = .ok (.iaload, 1) := by decide +kernel
theorem dX10_go_74 : decode cX10_go 74 = .ok (.bipush 30, 2) := by decide +kernel
theorem dX10_go_76 : decode cX10_go 76 = .ok (.if_icmp .ne 14, 3) := by decide +kernel
theorem dX10_go_79 : decode cX10_go 79 = .ok (.aload_n 0, 1) := by decide +kernel
theorem dX10_go_80 : decode cX10_go 80 = .ok (.aload 4, 2) := by decide +kernel
theorem dX10_go_82 : decode cX10_go 82 = .ok (.iload 7, 2) := by decide +kernel
theorem dX10_go_84 : decode cX10_go 84 = .ok (.invokevirtual 55, 3) := by decide +kernel
theorem dX10_go_87 : decode cX10_go 87 = .ok (.goto 12, 3) := by decide +kernel
theorem dX10_go_90 : decode cX10_go 90 = .ok (.aload_n 0, 1) := by decide +kernel
theorem dX10_go_91 : decode cX10_go 91 = .ok (.aload_n 1, 1) := by decide +kernel
theorem dX10_go_92 : decode cX10_go 92 = .ok (.aload 4, 2) := by decide +kernel
theorem dX10_go_94 : decode cX10_go 94 = .ok (.iload 7, 2) := by decide +kernel
theorem dX10_go_96 : decode cX10_go 96 = .ok (.invokevirtual 59, 3) := by decide +kernel
theorem dX10_go_99 : decode cX10_go 99 = .ok (.istore 7, 2) := by decide +kernel
theorem dX10_go_101 : decode cX10_go 101 = .ok (.iinc 8 1, 3) := by decide +kernel
theorem dX10_go_104 : decode cX10_go 104 = .ok (.goto (-68), 3) := by decide +kernel
theorem dX10_go_107 : decode cX10_go 107 = .ok (.aload_n 1, 1) := by decide +kernel
theorem dX10_go_108 : decode cX10_go 108 = .ok (.iload 5, 2) := by decide +kernel
theorem dX10_go_110 : decode cX10_go 110 = .ok (.putfield 30, 3) := by decide +kernel
theorem dX10_go_113 : decode cX10_go 113 = .ok (.aload_n 1, 1) := by decide +kernel
theorem dX10_go_114 : decode cX10_go 114 = .ok (.iload 6, 2) := by decide +kernel
theorem dX10_go_116 : decode cX10_go 116 = .ok (.putfield 34, 3) := by decide +kernel
theorem dX10_go_119 : decode cX10_go 119 = .ok (.aload_n 0, 1) := by decide +kernel
theorem dX10_go_120 : decode cX10_go 120 = .ok (.iconst 1, 1) := by decide +kernel
theorem dX10_go_121 : decode cX10_go 121 = .ok (.putfield 63, 3) := by decide +kernel
theorem dX10_go_124 : decode cX10_go 124 = .ok (.return_, 1) := by decide +kernel
theorem dX10_begin_0 : decode cX10_begin 0 = .ok (.aload_n 0, 1) := by decide +kernel
theorem dX10_begin_1 : decode cX10_begin 1 = .ok (.getfield 12, 3) := by decide +kernel
theorem dX10_begin_4 : decode cX10_begin 4 = .ok (.iload_n 1, 1) := by decide +kernel
theorem dX10_begin_5 : decode cX10_begin 5 = .ok (.invokevirtual 67, 3) := by decide +kernel
theorem dX10_begin_8 : decode cX10_begin 8 = .ok (.aload_n 0, 1) := by decide +kernel
theorem dX10_begin_9 : decode cX10_begin 9 = .ok (.iload_n 2, 1) := by decide +kernel
theorem dX10_begin_10 : decode cX10_begin 10 = .ok (.putfield 71, 3) := by decide +kernel
theorem dX10_begin_13 : decode cX10_begin 13 = .ok (.aload_n 0, 1) := by decide +kernel
theorem dX10_begin_14 : decode cX10_begin 14 = .ok (.iconst 0, 1) := by decide +kernel
theorem dX10_begin_15 : decode cX10_begin 15 = .ok (.putfield 74, 3) := by decide +kernel
theorem dX10_begin_18 : decode cX10_begin 18 = .ok (.aload_n 0, 1) := by decide +kernel
theorem dX10_begin_19 : decode cX10_begin 19 = .ok (.iconst 0, 1) := by decide +kernel
theorem dX10_begin_20 : decode cX10_begin 20 = .ok (.putfield 77, 3) := by decide +kernel
theorem dX10_begin_23 : decode cX10_begin 23 = .ok (.aload_n 0, 1) := by decide +kernel
theorem dX10_begin_24 : decode cX10_begin 24 = .ok (.iconst 0, 1) := by decide +kernel
theorem dX10_begin_25 : decode cX10_begin 25 = .ok (.putfield 49, 3) := by decide +kernel
theorem dX10_begin_28 : decode cX10_begin 28 = .ok (.aload_n 0, 1) := by decide +kernel
theorem dX10_begin_29 : decode cX10_begin 29 = .ok (.iconst 0, 1) := by decide +kernel
theorem dX10_begin_30 : decode cX10_begin 30 = .ok (.putfield 80, 3) := by decide +kernel
theorem dX10_begin_33 : decode cX10_begin 33 = .ok (.aload_n 0, 1) := by decide +kernel
theorem dX10_begin_34 : decode cX10_begin 34 = .ok (.iconst 0, 1) := by decide +kernel
theorem dX10_begin_35 : decode cX10_begin 35 = .ok (.putfield 83, 3) := by decide +kernel
theorem dX10_begin_38 : decode cX10_begin 38 = .ok (.aload_n 0, 1) := by decide +kernel
theorem dX10_begin_39 : decode cX10_begin 39 = .ok (.iconst 0, 1) := by decide +kernel
theorem dX10_begin_40 : decode cX10_begin 40 = .ok (.putfield 86, 3) := by decide +kernel
theorem dX10_begin_43 : decode cX10_begin 43 = .ok (.aload_n 0, 1) := by decide +kernel
theorem dX10_begin_44 : decode cX10_begin 44 = .ok (.iconst (-1), 1) := by decide +kernel
theorem dX10_begin_45 : decode cX10_begin 45 = .ok (.putfield 89, 3) := by decide +kernel
theorem dX10_begin_48 : decode cX10_begin 48 = .ok (.return_, 1) := by decide +kernel
theorem dX10_comeToEnd_0 : decode cX10_comeToEnd 0 = .ok (.aload_n 1, 1) := by decide +kernel
theorem dX10_comeToEnd_1 : decode cX10_comeToEnd 1 = .ok (.getfield 92, 3) := by decide +kernel
theorem dX10_comeToEnd_4 : decode cX10_comeToEnd 4 = .ok (.iload_n 2, 1) := by decide +kernel
theorem dX10_comeToEnd_5 : decode cX10_comeToEnd 5 = .ok (.iaload, 1) := by decide +kernel
theorem dX10_comeToEnd_6 : decode cX10_comeToEnd 6 = .ok (.istore_n 3, 1) := by decide +kernel
theorem dX10_comeToEnd_7 : decode cX10_comeToEnd 7 = .ok (.aload_n 1, 1) := by decide +kernel
theorem dX10_comeToEnd_8 : decode cX10_comeToEnd 8 = .ok (.getfield 52, 3) := by decide +kernel
theorem dX10_comeToEnd_11 : decode cX10_comeToEnd 11 = .ok (.iload_n 3, 1) := by decide +kernel
theorem dX10_comeToEnd_12 : decode cX10_comeToEnd 12 = .ok (.iaload, 1) := by decide +kernel
theorem dX10_comeToEnd_13 : decode cX10_comeToEnd 13 = .ok (.bipush 29, 2) := by decide +kernel
theorem dX10_comeToEnd_15 : decode cX10_comeToEnd 15 = .ok (.if_icmp .eq 7, 3) := by decide +kernel
theorem dX10_comeToEnd_18 : decode cX10_comeToEnd 18 = .ok (.iload_n 2, 1) := by decide +kernel
theorem dX10_comeToEnd_19 : decode cX10_comeToEnd 19 = .ok (.iconst 1, 1) := by decide +kernel
theorem dX10_comeToEnd_20 : decode cX10_comeToEnd 20 = .ok (.iadd, 1) := by decide +kernel
theorem dX10_comeToEnd_21 : decode cX10_comeToEnd 21 = .ok (.ireturn, 1) := by decide +kernel
theorem dX10_comeToEnd_22 : decode cX10_comeToEnd 22 = .ok (.aload_n 0, 1) := by decide +kernel
theorem dX10_comeToEnd_23 : decode cX10_comeToEnd 23 = .ok (.getfield 20, 3) := by decide +kernel
theorem dX10_comeToEnd_26 : decode cX10_comeToEnd 26 = .ok (.iload_n 3, 1) := by decide +kernel
theorem dX10_comeToEnd_27 : decode cX10_comeToEnd 27 = .ok (.dup2, 1) := by decide +kernel
theorem dX10_comeToEnd_28 : decode cX10_comeToEnd 28 = .ok (.iaload, 1) := by decide +kernel
theorem dX10_comeToEnd_29 : decode cX10_comeToEnd 29 = .ok (.iconst 1, 1) := by decide +kernel
theorem dX10_comeToEnd_30 : decode cX10_comeToEnd 30 = .ok (.isub, 1) := by decide +kernel
theorem dX10_comeToEnd_31 : decode cX10_comeToEnd 31 = .ok (.iastore, 1) := by decide +kernel
theorem dX10_comeToEnd_32 : decode cX10_comeToEnd 32 = .ok (.aload_n 0, 1) := by decide +kernel
theorem dX10_comeToEnd_33 : decode cX10_comeToEnd 33 = .ok (.getfield 20, 3) := by decide +kernel
theorem dX10_comeToEnd_36 : decode cX10_comeToEnd 36 = .ok (.iload_n 3, 1) := by decide +kernel
theorem dX10_comeToEnd_37 : decode cX10_comeToEnd 37 = .ok (.iaload, 1) := by decide +kernel
theorem dX10_comeToEnd_38 : decode cX10_comeToEnd 38 = .ok (.ifCond .le 9, 3) := by decide +kernel
theorem dX10_comeToEnd_41 : decode cX10_comeToEnd 41 = .ok (.iload_n 3, 1) := by decide +kernel
theorem dX10_comeToEnd_42 : decode cX10_comeToEnd 42 = .ok (.iconst 1, 1) := by decide +kernel
theorem dX10_comeToEnd_43 : decode cX10_comeToEnd 43 = .ok (.iadd, 1) := by decide +kernel
theorem dX10_comeToEnd_44 : decode cX10_comeToEnd 44 = .ok (.goto 6, 3) := by decide +kernel
theorem dX10_comeToEnd_47 : decode cX10_comeToEnd 47 = .ok (.iload_n 2, 1) := by decide +kernel
theorem dX10_comeToEnd_48 : decode cX10_comeToEnd 48 = .ok (.iconst 1, 1) := by decide +kernel
theorem dX10_comeToEnd_49 : decode cX10_comeToEnd 49 = .ok (.iadd, 1) := by decide +kernel
theorem dX10_comeToEnd_50 : decode cX10_comeToEnd 50 = .ok (.ireturn, 1) := by decide +kernel
theorem dX10_doStep_0 : decode cX10_doStep 0 = .ok (.aload_n 2, 1) := by decide +kernel
theorem dX10_doStep_1 : decode cX10_doStep 1 = .ok (.getfield 95, 3) := by decide +kernel
theorem dX10_doStep_4 : decode cX10_doStep 4 = .ok (.iload_n 3, 1) := by decide +kernel
theorem dX10_doStep_5 : decode cX10_doStep 5 = .ok (.iaload, 1) := by decide +kernel
theorem dX10_doStep_6 : decode cX10_doStep 6 = .ok (.istore 4, 2) := by decide +kernel
theorem dX10_doStep_8 : decode cX10_doStep 8 = .ok (.aload_n 0, 1) := by decide +kernel
theorem dX10_doStep_9 : decode cX10_doStep 9 = .ok (.dup, 1) := by decide +kernel
theorem dX10_doStep_10 : decode cX10_doStep 10 = .ok (.getfield 49, 3) := by decide +kernel
theorem dX10_doStep_13 : decode cX10_doStep 13 = .ok (.iconst 1, 1) := by decide +kernel
theorem dX10_doStep_14 : decode cX10_doStep 14 = .ok (.iadd, 1) := by decide +kernel
theorem dX10_doStep_15 : decode cX10_doStep 15 = .ok (.putfield 49, 3) := by decide +kernel
theorem dX10_doStep_18 : decode cX10_doStep 18 = .ok (.aload_n 2, 1) := by decide +kernel
theorem dX10_doStep_19 : decode cX10_doStep 19 = .ok (.getfield 52, 3) := by decide +kernel
theorem dX10_doStep_22 : decode cX10_doStep 22 = .ok (.iload_n 3, 1) := by decide +kernel
theorem dX10_doStep_23 : decode cX10_doStep 23 = .ok (.iaload, 1) := by decide +kernel
theorem dX10_doStep_24 : decode cX10_doStep 24 = .ok (.tableswitch 148 19 31 #[68, 79, 79, 105, 105, 148, 148, 148, 148, 148, 131, 148, 143], 68) := by decide +kernel
theorem dX10_doStep_92 : decode cX10_doStep 92 = .ok (.aload_n 0, 1) := by decide +kernel
theorem dX10_doStep_93 : decode cX10_doStep 93 = .ok (.aload_n 1, 1) := by decide +kernel
theorem dX10_doStep_94 : decode cX10_doStep 94 = .ok (.iload 4, 2) := by decide +kernel
theorem dX10_doStep_96 : decode cX10_doStep 96 = .ok (.invokevirtual 98, 3) := by decide +kernel
theorem dX10_doStep_99 : decode cX10_doStep 99 = .ok (.iload_n 3, 1) := by decide +kernel
theorem dX10_doStep_100 : decode cX10_doStep 100 = .ok (.iconst 1, 1) := by decide +kernel
theorem dX10_doStep_101 : decode cX10_doStep 101 = .ok (.iadd, 1) := by decide +kernel
theorem dX10_doStep_102 : decode cX10_doStep 102 = .ok (.ireturn, 1) := by decide +kernel
theorem dX10_doStep_103 : decode cX10_doStep 103 = .ok (.aload_n 1, 1) := by decide +kernel
theorem dX10_doStep_104 : decode cX10_doStep 104 = .ok (.iload 4, 2) := by decide +kernel
theorem dX10_doStep_106 : decode cX10_doStep 106 = .ok (.aload_n 2, 1) := by decide +kernel
theorem dX10_doStep_107 : decode cX10_doStep 107 = .ok (.getfield 52, 3) := by decide +kernel
theorem dX10_doStep_110 : decode cX10_doStep 110 = .ok (.iload_n 3, 1) := by decide +kernel
theorem dX10_doStep_111 : decode cX10_doStep 111 = .ok (.iaload, 1) := by decide +kernel
theorem dX10_doStep_112 : decode cX10_doStep 112 = .ok (.bipush 20, 2) := by decide +kernel
theorem dX10_doStep_114 : decode cX10_doStep 114 = .ok (.if_icmp .ne 7, 3) := by decide +kernel
theorem dX10_doStep_117 : decode cX10_doStep 117 = .ok (.iconst 1, 1) := by decide +kernel
theorem dX10_doStep_118 : decode cX10_doStep 118 = .ok (.goto 4, 3) := by decide +kernel
theorem dX10_doStep_121 : decode cX10_doStep 121 = .ok (.iconst 0, 1) := by decide +kernel
theorem dX10_doStep_122 : decode cX10_doStep 122 = .ok (.invokevirtual 102, 3) := by decide +kernel
theorem dX10_doStep_125 : decode cX10_doStep 125 = .ok (.iload_n 3, 1) := by decide +kernel
theorem dX10_doStep_126 : decode cX10_doStep 126 = .ok (.iconst 1, 1) := by decide +kernel
theorem dX10_doStep_127 : decode cX10_doStep 127 = .ok (.iadd, 1) := by decide +kernel
theorem dX10_doStep_128 : decode cX10_doStep 128 = .ok (.ireturn, 1) := by decide +kernel
theorem dX10_doStep_129 : decode cX10_doStep 129 = .ok (.aload_n 1, 1) := by decide +kernel
theorem dX10_doStep_130 : decode cX10_doStep 130 = .ok (.iload 4, 2) := by decide +kernel
theorem dX10_doStep_132 : decode cX10_doStep 132 = .ok (.aload_n 2, 1) := by decide +kernel
theorem dX10_doStep_133 : decode cX10_doStep 133 = .ok (.getfield 52, 3) := by decide +kernel
theorem dX10_doStep_136 : decode cX10_doStep 136 = .ok (.iload_n 3, 1) := by decide +kernel
theorem dX10_doStep_137 : decode cX10_doStep 137 = .ok (.iaload, 1) := by decide +kernel
theorem dX10_doStep_138 : decode cX10_doStep 138 = .ok (.bipush 22, 2) := by decide +kernel
theorem dX10_doStep_140 : decode cX10_doStep 140 = .ok (.if_icmp .ne 7, 3) := by decide +kernel
theorem dX10_doStep_143 : decode cX10_doStep 143 = .ok (.iconst 1, 1) := by decide +kernel
theorem dX10_doStep_144 : decode cX10_doStep 144 = .ok (.goto 4, 3) := by decide +kernel
theorem dX10_doStep_147 : decode cX10_doStep 147 = .ok (.iconst 0, 1) := by decide +kernel
theorem dX10_doStep_148 : decode cX10_doStep 148 = .ok (.invokevirtual 105, 3) := by decide +kernel
theorem dX10_doStep_151 : decode cX10_doStep 151 = .ok (.iload_n 3, 1) := by decide +kernel
theorem dX10_doStep_152 : decode cX10_doStep 152 = .ok (.iconst 1, 1) := by decide +kernel
theorem dX10_doStep_153 : decode cX10_doStep 153 = .ok (.iadd, 1) := by decide +kernel
theorem dX10_doStep_154 : decode cX10_doStep 154 = .ok (.ireturn, 1) := by decide +kernel
theorem dX10_doStep_155 : decode cX10_doStep 155 = .ok (.aload_n 0, 1) := by decide +kernel
theorem dX10_doStep_156 : decode cX10_doStep 156 = .ok (.getfield 20, 3) := by decide +kernel
theorem dX10_doStep_159 : decode cX10_doStep 159 = .ok (.iload_n 3, 1) := by decide +kernel
theorem dX10_doStep_160 : decode cX10_doStep 160 = .ok (.iload 4, 2) := by decide +kernel
theorem dX10_doStep_162 : decode cX10_doStep 162 = .ok (.iastore, 1) := by decide +kernel
theorem dX10_doStep_163 : decode cX10_doStep 163 = .ok (.iload_n 3, 1) := by decide +kernel
theorem dX10_doStep_164 : decode cX10_doStep 164 = .ok (.iconst 1, 1) := by decide +kernel
theorem dX10_doStep_165 : decode cX10_doStep 165 = .ok (.iadd, 1) := by decide +kernel
theorem dX10_doStep_166 : decode cX10_doStep 166 = .ok (.ireturn, 1) := by decide +kernel
theorem dX10_doStep_167 : decode cX10_doStep 167 = .ok (.aload_n 2, 1) := by decide +kernel
theorem dX10_doStep_168 : decode cX10_doStep 168 = .ok (.getfield 42, 3) := by decide +kernel
theorem dX10_doStep_171 : decode cX10_doStep 171 = .ok (.ireturn, 1) := by decide +kernel
theorem dX10_doStep_172 : decode cX10_doStep 172 = .ok (.aload_n 0, 1) := by decide +kernel
theorem dX10_doStep_173 : decode cX10_doStep 173 = .ok (.aload_n 1, 1) := by decide +kernel
theorem dX10_doStep_174 : decode cX10_doStep 174 = .ok (.aload_n 2, 1) := by decide +kernel
theorem dX10_doStep_175 : decode cX10_doStep 175 = .ok (.iload_n 3, 1) := by decide +kernel
theorem dX10_doStep_176 : decode cX10_doStep 176 = .ok (.invokevirtual 108, 3) := by decide +kernel
theorem dX10_doStep_179 : decode cX10_doStep 179 = .ok (.ifCond .eq 9, 3) := by decide +kernel
theorem dX10_doStep_182 : decode cX10_doStep 182 = .ok (.iload_n 3, 1) := by decide +kernel
theorem dX10_doStep_183 : decode cX10_doStep 183 = .ok (.iconst 1, 1) := by decide +kernel
theorem dX10_doStep_184 : decode cX10_doStep 184 = .ok (.iadd, 1) := by decide +kernel
theorem dX10_doStep_185 : decode cX10_doStep 185 = .ok (.goto 11, 3) := by decide +kernel
theorem dX10_doStep_188 : decode cX10_doStep 188 = .ok (.aload_n 2, 1) := by decide +kernel
theorem dX10_doStep_189 : decode cX10_doStep 189 = .ok (.getfield 92, 3) := by decide +kernel
theorem dX10_doStep_192 : decode cX10_doStep 192 = .ok (.iload_n 3, 1) := by decide +kernel
theorem dX10_doStep_193 : decode cX10_doStep 193 = .ok (.iaload, 1) := by decide +kernel
theorem dX10_doStep_194 : decode cX10_doStep 194 = .ok (.iconst 1, 1) := by decide +kernel
theorem dX10_doStep_195 : decode cX10_doStep 195 = .ok (.iadd, 1) := by decide +kernel
theorem dX10_doStep_196 : decode cX10_doStep 196 = .ok (.ireturn, 1) := by decide +kernel
theorem dX10_holds_0 : decode cX10_holds 0 = .ok (.aload_n 2, 1) := by decide +kernel
theorem dX10_holds_1 : decode cX10_holds 1 = .ok (.getfield 95, 3) := by decide +kernel
theorem dX10_holds_4 : decode cX10_holds 4 = .ok (.iload_n 3, 1) := by decide +kernel
theorem dX10_holds_5 : decode cX10_holds 5 = .ok (.iaload, 1) := by decide +kernel
theorem dX10_holds_6 : decode cX10_holds 6 = .ok (.istore 4, 2) := by decide +kernel
theorem dX10_holds_8 : decode cX10_holds 8 = .ok (.aload_n 2, 1) := by decide +kernel
theorem dX10_holds_9 : decode cX10_holds 9 = .ok (.getfield 52, 3) := by decide +kernel
theorem dX10_holds_12 : decode cX10_holds 12 = .ok (.iload_n 3, 1) := by decide +kernel
theorem dX10_holds_13 : decode cX10_holds 13 = .ok (.iaload, 1) := by decide +kernel
theorem dX10_holds_14 : decode cX10_holds 14 = .ok (.tableswitch 81 25 28 #[30, 48, 81, 66], 30) := by decide +kernel
theorem dX10_holds_44 : decode cX10_holds 44 = .ok (.aload_n 0, 1) := by decide +kernel
theorem dX10_holds_45 : decode cX10_holds 45 = .ok (.getfield 80, 3) := by decide +kernel
theorem dX10_holds_48 : decode cX10_holds 48 = .ok (.iload 4, 2) := by decide +kernel
theorem dX10_holds_50 : decode cX10_holds 50 = .ok (.ishr, 1) := by decide +kernel
theorem dX10_holds_51 : decode cX10_holds 51 = .ok (.iconst 1, 1) := by decide +kernel
theorem dX10_holds_52 : decode cX10_holds 52 = .ok (.iand, 1) := by decide +kernel
theorem dX10_holds_53 : decode cX10_holds 53 = .ok (.ifCond .eq 7, 3) := by decide +kernel
theorem dX10_holds_56 : decode cX10_holds 56 = .ok (.iconst 1, 1) := by decide +kernel
theorem dX10_holds_57 : decode cX10_holds 57 = .ok (.goto 4, 3) := by decide +kernel
theorem dX10_holds_60 : decode cX10_holds 60 = .ok (.iconst 0, 1) := by decide +kernel
theorem dX10_holds_61 : decode cX10_holds 61 = .ok (.ireturn, 1) := by decide +kernel
theorem dX10_holds_62 : decode cX10_holds 62 = .ok (.aload_n 1, 1) := by decide +kernel
theorem dX10_holds_63 : decode cX10_holds 63 = .ok (.getfield 34, 3) := by decide +kernel
theorem dX10_holds_66 : decode cX10_holds 66 = .ok (.iload 4, 2) := by decide +kernel
theorem dX10_holds_68 : decode cX10_holds 68 = .ok (.ishr, 1) := by decide +kernel
theorem dX10_holds_69 : decode cX10_holds 69 = .ok (.iconst 1, 1) := by decide +kernel
theorem dX10_holds_70 : decode cX10_holds 70 = .ok (.iand, 1) := by decide +kernel
theorem dX10_holds_71 : decode cX10_holds 71 = .ok (.ifCond .eq 7, 3) := by decide +kernel
theorem dX10_holds_74 : decode cX10_holds 74 = .ok (.iconst 1, 1) := by decide +kernel
theorem dX10_holds_75 : decode cX10_holds 75 = .ok (.goto 4, 3) := by decide +kernel
theorem dX10_holds_78 : decode cX10_holds 78 = .ok (.iconst 0, 1) := by decide +kernel
theorem dX10_holds_79 : decode cX10_holds 79 = .ok (.ireturn, 1) := by decide +kernel
theorem dX10_holds_80 : decode cX10_holds 80 = .ok (.aload_n 0, 1) := by decide +kernel
theorem dX10_holds_81 : decode cX10_holds 81 = .ok (.getfield 89, 3) := by decide +kernel
theorem dX10_holds_84 : decode cX10_holds 84 = .ok (.iload 4, 2) := by decide +kernel
theorem dX10_holds_86 : decode cX10_holds 86 = .ok (.if_icmp .ne 7, 3) := by decide +kernel
theorem dX10_holds_89 : decode cX10_holds 89 = .ok (.iconst 1, 1) := by decide +kernel
theorem dX10_holds_90 : decode cX10_holds 90 = .ok (.goto 4, 3) := by decide +kernel
theorem dX10_holds_93 : decode cX10_holds 93 = .ok (.iconst 0, 1) := by decide +kernel
theorem dX10_holds_94 : decode cX10_holds 94 = .ok (.ireturn, 1) := by decide +kernel
theorem dX10_holds_95 : decode cX10_holds 95 = .ok (.aload_n 2, 1) := by decide +kernel
theorem dX10_holds_96 : decode cX10_holds 96 = .ok (.getfield 112, 3) := by decide +kernel
theorem dX10_holds_99 : decode cX10_holds 99 = .ok (.iload_n 3, 1) := by decide +kernel
theorem dX10_holds_100 : decode cX10_holds 100 = .ok (.iaload, 1) := by decide +kernel
theorem dX10_holds_101 : decode cX10_holds 101 = .ok (.aload_n 0, 1) := by decide +kernel
theorem dX10_holds_102 : decode cX10_holds 102 = .ok (.getfield 74, 3) := by decide +kernel
theorem dX10_holds_105 : decode cX10_holds 105 = .ok (.iload 4, 2) := by decide +kernel
theorem dX10_holds_107 : decode cX10_holds 107 = .ok (.invokestatic 115, 3) := by decide +kernel
theorem dX10_holds_110 : decode cX10_holds 110 = .ok (.ireturn, 1) := by decide +kernel
theorem dX10_compares_0 : decode cX10_compares 0 = .ok (.iload_n 0, 1) := by decide +kernel
theorem dX10_compares_1 : decode cX10_compares 1 = .ok (.bipush 60, 2) := by decide +kernel
theorem dX10_compares_3 : decode cX10_compares 3 = .ok (.if_icmp .ne 14, 3) := by decide +kernel
theorem dX10_compares_6 : decode cX10_compares 6 = .ok (.iload_n 1, 1) := by decide +kernel
theorem dX10_compares_7 : decode cX10_compares 7 = .ok (.iload_n 2, 1) := by decide +kernel
theorem dX10_compares_8 : decode cX10_compares 8 = .ok (.if_icmp .ge 7, 3) := by decide +kernel
theorem dX10_compares_11 : decode cX10_compares 11 = .ok (.iconst 1, 1) := by decide +kernel
theorem dX10_compares_12 : decode cX10_compares 12 = .ok (.goto 4, 3) := by decide +kernel
theorem dX10_compares_15 : decode cX10_compares 15 = .ok (.iconst 0, 1) := by decide +kernel
theorem dX10_compares_16 : decode cX10_compares 16 = .ok (.ireturn, 1) := by decide +kernel
theorem dX10_compares_17 : decode cX10_compares 17 = .ok (.iload_n 0, 1) := by decide +kernel
theorem dX10_compares_18 : decode cX10_compares 18 = .ok (.bipush 62, 2) := by decide +kernel
theorem dX10_compares_20 : decode cX10_compares 20 = .ok (.if_icmp .ne 16, 3) := by decide +kernel
theorem dX10_compares_23 : decode cX10_compares 23 = .ok (.iload_n 1, 1) := by decide +kernel
theorem dX10_compares_24 : decode cX10_compares 24 = .ok (.iload_n 2, 1) := by decide +kernel
theorem dX10_compares_25 : decode cX10_compares 25 = .ok (.if_icmp .le 7, 3) := by decide +kernel
theorem dX10_compares_28 : decode cX10_compares 28 = .ok (.iconst 1, 1) := by decide +kernel
theorem dX10_compares_29 : decode cX10_compares 29 = .ok (.goto 17, 3) := by decide +kernel
theorem dX10_compares_32 : decode cX10_compares 32 = .ok (.iconst 0, 1) := by decide +kernel
theorem dX10_compares_33 : decode cX10_compares 33 = .ok (.goto 13, 3) := by decide +kernel
theorem dX10_compares_36 : decode cX10_compares 36 = .ok (.iload_n 1, 1) := by decide +kernel
theorem dX10_compares_37 : decode cX10_compares 37 = .ok (.iload_n 2, 1) := by decide +kernel
theorem dX10_compares_38 : decode cX10_compares 38 = .ok (.if_icmp .ne 7, 3) := by decide +kernel
theorem dX10_compares_41 : decode cX10_compares 41 = .ok (.iconst 1, 1) := by decide +kernel
theorem dX10_compares_42 : decode cX10_compares 42 = .ok (.goto 4, 3) := by decide +kernel
theorem dX10_compares_45 : decode cX10_compares 45 = .ok (.iconst 0, 1) := by decide +kernel
theorem dX10_compares_46 : decode cX10_compares 46 = .ok (.ireturn, 1) := by decide +kernel
theorem dX10_playNight_0 : decode cX10_playNight 0 = .ok (.aload_n 1, 1) := by decide +kernel
theorem dX10_playNight_1 : decode cX10_playNight 1 = .ok (.invokevirtual 118, 3) := by decide +kernel
theorem dX10_playNight_4 : decode cX10_playNight 4 = .ok (.ifCond .eq 13, 3) := by decide +kernel
theorem dX10_playNight_7 : decode cX10_playNight 7 = .ok (.aload_n 1, 1) := by decide +kernel
theorem dX10_playNight_8 : decode cX10_playNight 8 = .ok (.getfield 122, 3) := by decide +kernel
theorem dX10_playNight_11 : decode cX10_playNight 11 = .ok (.getfield 126, 3) := by decide +kernel
theorem dX10_playNight_14 : decode cX10_playNight 14 = .ok (.ifCond .ne 14, 3) := by decide +kernel
theorem dX10_playNight_17 : decode cX10_playNight 17 = .ok (.aload_n 0, 1) := by decide +kernel
theorem dX10_playNight_18 : decode cX10_playNight 18 = .ok (.dup, 1) := by decide +kernel
theorem dX10_playNight_19 : decode cX10_playNight 19 = .ok (.getfield 86, 3) := by decide +kernel
theorem dX10_playNight_22 : decode cX10_playNight 22 = .ok (.iconst 1, 1) := by decide +kernel
theorem dX10_playNight_23 : decode cX10_playNight 23 = .ok (.iadd, 1) := by decide +kernel
theorem dX10_playNight_24 : decode cX10_playNight 24 = .ok (.putfield 86, 3) := by decide +kernel
theorem dX10_playNight_27 : decode cX10_playNight 27 = .ok (.return_, 1) := by decide +kernel
theorem dX10_playNight_28 : decode cX10_playNight 28 = .ok (.aload_n 0, 1) := by decide +kernel
theorem dX10_playNight_29 : decode cX10_playNight 29 = .ok (.getfield 12, 3) := by decide +kernel
theorem dX10_playNight_32 : decode cX10_playNight 32 = .ok (.aload_n 1, 1) := by decide +kernel
theorem dX10_playNight_33 : decode cX10_playNight 33 = .ok (.iload_n 2, 1) := by decide +kernel
theorem dX10_playNight_34 : decode cX10_playNight 34 = .ok (.iconst (-1), 1) := by decide +kernel
theorem dX10_playNight_35 : decode cX10_playNight 35 = .ok (.if_icmp .ne 17, 3) := by decide +kernel
theorem dX10_playNight_38 : decode cX10_playNight 38 = .ok (.aload_n 0, 1) := by decide +kernel
theorem dX10_playNight_39 : decode cX10_playNight 39 = .ok (.getfield 12, 3) := by decide +kernel
theorem dX10_playNight_42 : decode cX10_playNight 42 = .ok (.aload_n 1, 1) := by decide +kernel
theorem dX10_playNight_43 : decode cX10_playNight 43 = .ok (.getfield 122, 3) := by decide +kernel
theorem dX10_playNight_46 : decode cX10_playNight 46 = .ok (.invokevirtual 131, 3) := by decide +kernel
theorem dX10_playNight_49 : decode cX10_playNight 49 = .ok (.goto 4, 3) := by decide +kernel
theorem dX10_playNight_52 : decode cX10_playNight 52 = .ok (.iload_n 2, 1) := by decide +kernel
theorem dX10_playNight_53 : decode cX10_playNight 53 = .ok (.invokevirtual 135, 3) := by decide +kernel
theorem dX10_playNight_56 : decode cX10_playNight 56 = .ok (.aload_n 0, 1) := by decide +kernel
theorem dX10_playNight_57 : decode cX10_playNight 57 = .ok (.dup, 1) := by decide +kernel
theorem dX10_playNight_58 : decode cX10_playNight 58 = .ok (.getfield 74, 3) := by decide +kernel
theorem dX10_playNight_61 : decode cX10_playNight 61 = .ok (.iconst 1, 1) := by decide +kernel
theorem dX10_playNight_62 : decode cX10_playNight 62 = .ok (.iadd, 1) := by decide +kernel
theorem dX10_playNight_63 : decode cX10_playNight 63 = .ok (.putfield 74, 3) := by decide +kernel
theorem dX10_playNight_66 : decode cX10_playNight 66 = .ok (.aload_n 0, 1) := by decide +kernel
theorem dX10_playNight_67 : decode cX10_playNight 67 = .ok (.dup, 1) := by decide +kernel
theorem dX10_playNight_68 : decode cX10_playNight 68 = .ok (.getfield 80, 3) := by decide +kernel
theorem dX10_playNight_71 : decode cX10_playNight 71 = .ok (.aload_n 0, 1) := by decide +kernel
theorem dX10_playNight_72 : decode cX10_playNight 72 = .ok (.getfield 12, 3) := by decide +kernel
theorem dX10_playNight_75 : decode cX10_playNight 75 = .ok (.getfield 138, 3) := by decide +kernel
theorem dX10_playNight_78 : decode cX10_playNight 78 = .ok (.ior, 1) := by decide +kernel
theorem dX10_playNight_79 : decode cX10_playNight 79 = .ok (.putfield 80, 3) := by decide +kernel
theorem dX10_playNight_82 : decode cX10_playNight 82 = .ok (.aload_n 0, 1) := by decide +kernel
theorem dX10_playNight_83 : decode cX10_playNight 83 = .ok (.dup, 1) := by decide +kernel
theorem dX10_playNight_84 : decode cX10_playNight 84 = .ok (.getfield 83, 3) := by decide +kernel
theorem dX10_playNight_87 : decode cX10_playNight 87 = .ok (.aload_n 0, 1) := by decide +kernel
theorem dX10_playNight_88 : decode cX10_playNight 88 = .ok (.getfield 12, 3) := by decide +kernel
theorem dX10_playNight_91 : decode cX10_playNight 91 = .ok (.getfield 139, 3) := by decide +kernel
theorem dX10_playNight_94 : decode cX10_playNight 94 = .ok (.iadd, 1) := by decide +kernel
theorem dX10_playNight_95 : decode cX10_playNight 95 = .ok (.putfield 83, 3) := by decide +kernel
theorem dX10_playNight_98 : decode cX10_playNight 98 = .ok (.aload_n 0, 1) := by decide +kernel
theorem dX10_playNight_99 : decode cX10_playNight 99 = .ok (.aload_n 0, 1) := by decide +kernel
theorem dX10_playNight_100 : decode cX10_playNight 100 = .ok (.getfield 12, 3) := by decide +kernel
theorem dX10_playNight_103 : decode cX10_playNight 103 = .ok (.getfield 140, 3) := by decide +kernel
theorem dX10_playNight_106 : decode cX10_playNight 106 = .ok (.iconst (-1), 1) := by decide +kernel
theorem dX10_playNight_107 : decode cX10_playNight 107 = .ok (.if_icmp .ne 8, 3) := by decide +kernel
theorem dX10_playNight_110 : decode cX10_playNight 110 = .ok (.bipush 9, 2) := by decide +kernel
theorem dX10_playNight_112 : decode cX10_playNight 112 = .ok (.goto 10, 3) := by decide +kernel
theorem dX10_playNight_115 : decode cX10_playNight 115 = .ok (.aload_n 0, 1) := by decide +kernel
theorem dX10_playNight_116 : decode cX10_playNight 116 = .ok (.getfield 12, 3) := by decide +kernel
theorem dX10_playNight_119 : decode cX10_playNight 119 = .ok (.getfield 140, 3) := by decide +kernel
theorem dX10_playNight_122 : decode cX10_playNight 122 = .ok (.putfield 89, 3) := by decide +kernel
theorem dX10_playNight_125 : decode cX10_playNight 125 = .ok (.aload_n 0, 1) := by decide +kernel
theorem dX10_playNight_126 : decode cX10_playNight 126 = .ok (.dup, 1) := by decide +kernel
theorem dX10_playNight_127 : decode cX10_playNight 127 = .ok (.getfield 77, 3) := by decide +kernel
theorem dX10_playNight_130 : decode cX10_playNight 130 = .ok (.iconst 1, 1) := by decide +kernel
theorem dX10_playNight_131 : decode cX10_playNight 131 = .ok (.aload_n 0, 1) := by decide +kernel
theorem dX10_playNight_132 : decode cX10_playNight 132 = .ok (.getfield 89, 3) := by decide +kernel
theorem dX10_playNight_135 : decode cX10_playNight 135 = .ok (.ishl, 1) := by decide +kernel
theorem dX10_playNight_136 : decode cX10_playNight 136 = .ok (.ior, 1) := by decide +kernel
theorem dX10_playNight_137 : decode cX10_playNight 137 = .ok (.putfield 77, 3) := by decide +kernel
theorem dX10_playNight_140 : decode cX10_playNight 140 = .ok (.aload_n 0, 1) := by decide +kernel
theorem dX10_playNight_141 : decode cX10_playNight 141 = .ok (.getfield 71, 3) := by decide +kernel
theorem dX10_playNight_144 : decode cX10_playNight 144 = .ok (.ifCond .eq 14, 3) := by decide +kernel
theorem dX10_playNight_147 : decode cX10_playNight 147 = .ok (.aload_n 1, 1) := by decide +kernel
theorem dX10_playNight_148 : decode cX10_playNight 148 = .ok (.getfield 143, 3) := by decide +kernel
theorem dX10_playNight_151 : decode cX10_playNight 151 = .ok (.aload_n 0, 1) := by decide +kernel
theorem dX10_playNight_152 : decode cX10_playNight 152 = .ok (.getfield 12, 3) := by decide +kernel
theorem dX10_playNight_155 : decode cX10_playNight 155 = .ok (.invokevirtual 147, 3) := by decide +kernel
theorem dX10_playNight_158 : decode cX10_playNight 158 = .ok (.return_, 1) := by decide +kernel
theorem dX10_told_0 : decode cX10_told 0 = .ok (.iload_n 1, 1) := by decide +kernel
theorem dX10_told_1 : decode cX10_told 1 = .ok (.tableswitch 51 0 3 #[31, 36, 41, 46], 31) := by decide +kernel
theorem dX10_told_32 : decode cX10_told 32 = .ok (.aload_n 0, 1) := by decide +kernel
theorem dX10_told_33 : decode cX10_told 33 = .ok (.getfield 49, 3) := by decide +kernel
theorem dX10_told_36 : decode cX10_told 36 = .ok (.ireturn, 1) := by decide +kernel
theorem dX10_told_37 : decode cX10_told 37 = .ok (.aload_n 0, 1) := by decide +kernel
theorem dX10_told_38 : decode cX10_told 38 = .ok (.getfield 80, 3) := by decide +kernel
theorem dX10_told_41 : decode cX10_told 41 = .ok (.ireturn, 1) := by decide +kernel
theorem dX10_told_42 : decode cX10_told 42 = .ok (.aload_n 0, 1) := by decide +kernel
theorem dX10_told_43 : decode cX10_told 43 = .ok (.getfield 77, 3) := by decide +kernel
theorem dX10_told_46 : decode cX10_told 46 = .ok (.ireturn, 1) := by decide +kernel
theorem dX10_told_47 : decode cX10_told 47 = .ok (.aload_n 0, 1) := by decide +kernel
theorem dX10_told_48 : decode cX10_told 48 = .ok (.getfield 83, 3) := by decide +kernel
theorem dX10_told_51 : decode cX10_told 51 = .ok (.ireturn, 1) := by decide +kernel
theorem dX10_told_52 : decode cX10_told 52 = .ok (.aload_n 0, 1) := by decide +kernel
theorem dX10_told_53 : decode cX10_told 53 = .ok (.getfield 86, 3) := by decide +kernel
theorem dX10_told_56 : decode cX10_told 56 = .ok (.ireturn, 1) := by decide +kernel
