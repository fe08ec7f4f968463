theorem dX0_init_0 : decode cX0_init 0 = .ok (.aload_n 0, 1) := by decide +kernel
theorem dX0_init_1 : decode cX0_init 1 = .ok (.invokespecial 1, 3) := by decide +kernel
theorem dX0_init_4 : decode cX0_init 4 = .ok (.aload_n 0, 1) := by decide +kernel
theorem dX0_init_5 : decode cX0_init 5 = .ok (.bipush 80, 2) := by decide +kernel
theorem dX0_init_7 : decode cX0_init 7 = .ok (.newarray .int, 2) := by decide +kernel
theorem dX0_init_9 : decode cX0_init 9 = .ok (.putfield 9, 3) := by decide +kernel
theorem dX0_init_12 : decode cX0_init 12 = .ok (.return_, 1) := by decide +kernel
theorem dX0_clear_0 : decode cX0_clear 0 = .ok (.aload_n 0, 1) := by decide +kernel
theorem dX0_clear_1 : decode cX0_clear 1 = .ok (.iconst 0, 1) := by decide +kernel
theorem dX0_clear_2 : decode cX0_clear 2 = .ok (.putfield 13, 3) := by decide +kernel
theorem dX0_clear_5 : decode cX0_clear 5 = .ok (.return_, 1) := by decide +kernel
theorem dX0_takeFrom_0 : decode cX0_takeFrom 0 = .ok (.aload_n 0, 1) := by decide +kernel
theorem dX0_takeFrom_1 : decode cX0_takeFrom 1 = .ok (.aload_n 1, 1) := by decide +kernel
theorem dX0_takeFrom_2 : decode cX0_takeFrom 2 = .ok (.getfield 13, 3) := by decide +kernel
theorem dX0_takeFrom_5 : decode cX0_takeFrom 5 = .ok (.putfield 13, 3) := by decide +kernel
theorem dX0_takeFrom_8 : decode cX0_takeFrom 8 = .ok (.aload_n 1, 1) := by decide +kernel
theorem dX0_takeFrom_9 : decode cX0_takeFrom 9 = .ok (.getfield 9, 3) := by decide +kernel
theorem dX0_takeFrom_12 : decode cX0_takeFrom 12 = .ok (.iconst 0, 1) := by decide +kernel
theorem dX0_takeFrom_13 : decode cX0_takeFrom 13 = .ok (.aload_n 0, 1) := by decide +kernel
theorem dX0_takeFrom_14 : decode cX0_takeFrom 14 = .ok (.getfield 9, 3) := by decide +kernel
theorem dX0_takeFrom_17 : decode cX0_takeFrom 17 = .ok (.iconst 0, 1) := by decide +kernel
theorem dX0_takeFrom_18 : decode cX0_takeFrom 18 = .ok (.aload_n 0, 1) := by decide +kernel
theorem dX0_takeFrom_19 : decode cX0_takeFrom 19 = .ok (.getfield 9, 3) := by decide +kernel
theorem dX0_takeFrom_22 : decode cX0_takeFrom 22 = .ok (.arraylength, 1) := by decide +kernel
theorem dX0_takeFrom_23 : decode cX0_takeFrom 23 = .ok (.invokestatic 17, 3) := by decide +kernel
theorem dX0_takeFrom_26 : decode cX0_takeFrom 26 = .ok (.return_, 1) := by decide +kernel
theorem dX0_note_0 : decode cX0_note 0 = .ok (.aload_n 0, 1) := by decide +kernel
theorem dX0_note_1 : decode cX0_note 1 = .ok (.getfield 9, 3) := by decide +kernel
theorem dX0_note_4 : decode cX0_note 4 = .ok (.iconst 0, 1) := by decide +kernel
theorem dX0_note_5 : decode cX0_note 5 = .ok (.aload_n 0, 1) := by decide +kernel
theorem dX0_note_6 : decode cX0_note 6 = .ok (.getfield 9, 3) := by decide +kernel
theorem dX0_note_9 : decode cX0_note 9 = .ok (.iconst 4, 1) := by decide +kernel
theorem dX0_note_10 : decode cX0_note 10 = .ok (.aload_n 0, 1) := by decide +kernel
theorem dX0_note_11 : decode cX0_note 11 = .ok (.getfield 9, 3) := by decide +kernel
theorem dX0_note_14 : decode cX0_note 14 = .ok (.arraylength, 1) := by decide +kernel
theorem dX0_note_15 : decode cX0_note 15 = .ok (.iconst 4, 1) := by decide +kernel
theorem dX0_note_16 : decode cX0_note 16 = .ok (.isub, 1) := by decide +kernel
theorem dX0_note_17 : decode cX0_note 17 = .ok (.invokestatic 17, 3) := by decide +kernel
theorem dX0_note_20 : decode cX0_note 20 = .ok (.aload_n 0, 1) := by decide +kernel
theorem dX0_note_21 : decode cX0_note 21 = .ok (.getfield 9, 3) := by decide +kernel
theorem dX0_note_24 : decode cX0_note 24 = .ok (.iconst 0, 1) := by decide +kernel
theorem dX0_note_25 : decode cX0_note 25 = .ok (.aload_n 1, 1) := by decide +kernel
theorem dX0_note_26 : decode cX0_note 26 = .ok (.getfield 23, 3) := by decide +kernel
theorem dX0_note_29 : decode cX0_note 29 = .ok (.iastore, 1) := by decide +kernel
theorem dX0_note_30 : decode cX0_note 30 = .ok (.aload_n 0, 1) := by decide +kernel
theorem dX0_note_31 : decode cX0_note 31 = .ok (.getfield 9, 3) := by decide +kernel
theorem dX0_note_34 : decode cX0_note 34 = .ok (.iconst 1, 1) := by decide +kernel
theorem dX0_note_35 : decode cX0_note 35 = .ok (.aload_n 1, 1) := by decide +kernel
theorem dX0_note_36 : decode cX0_note 36 = .ok (.getfield 28, 3) := by decide +kernel
theorem dX0_note_39 : decode cX0_note 39 = .ok (.iastore, 1) := by decide +kernel
theorem dX0_note_40 : decode cX0_note 40 = .ok (.aload_n 0, 1) := by decide +kernel
theorem dX0_note_41 : decode cX0_note 41 = .ok (.getfield 9, 3) := by decide +kernel
theorem dX0_note_44 : decode cX0_note 44 = .ok (.iconst 2, 1) := by decide +kernel
theorem dX0_note_45 : decode cX0_note 45 = .ok (.aload_n 1, 1) := by decide +kernel
theorem dX0_note_46 : decode cX0_note 46 = .ok (.getfield 31, 3) := by decide +kernel
theorem dX0_note_49 : decode cX0_note 49 = .ok (.iastore, 1) := by decide +kernel
theorem dX0_note_50 : decode cX0_note 50 = .ok (.aload_n 0, 1) := by decide +kernel
theorem dX0_note_51 : decode cX0_note 51 = .ok (.getfield 9, 3) := by decide +kernel
theorem dX0_note_54 : decode cX0_note 54 = .ok (.iconst 3, 1) := by decide +kernel
theorem dX0_note_55 : decode cX0_note 55 = .ok (.aload_n 1, 1) := by decide +kernel
theorem dX0_note_56 : decode cX0_note 56 = .ok (.getfield 34, 3) := by decide +kernel
theorem dX0_note_59 : decode cX0_note 59 = .ok (.iastore, 1) := by decide +kernel
theorem dX0_note_60 : decode cX0_note 60 = .ok (.aload_n 0, 1) := by decide +kernel
theorem dX0_note_61 : decode cX0_note 61 = .ok (.aload_n 0, 1) := by decide +kernel
theorem dX0_note_62 : decode cX0_note 62 = .ok (.getfield 13, 3) := by decide +kernel
theorem dX0_note_65 : decode cX0_note 65 = .ok (.iconst 1, 1) := by decide +kernel
theorem dX0_note_66 : decode cX0_note 66 = .ok (.iadd, 1) := by decide +kernel
theorem dX0_note_67 : decode cX0_note 67 = .ok (.bipush 20, 2) := by decide +kernel
theorem dX0_note_69 : decode cX0_note 69 = .ok (.invokestatic 37, 3) := by decide +kernel
theorem dX0_note_72 : decode cX0_note 72 = .ok (.putfield 13, 3) := by decide +kernel
theorem dX0_note_75 : decode cX0_note 75 = .ok (.return_, 1) := by decide +kernel
theorem dX0_entry_0 : decode cX0_entry 0 = .ok (.aload_n 0, 1) := by decide +kernel
theorem dX0_entry_1 : decode cX0_entry 1 = .ok (.getfield 9, 3) := by decide +kernel
theorem dX0_entry_4 : decode cX0_entry 4 = .ok (.iload_n 1, 1) := by decide +kernel
theorem dX0_entry_5 : decode cX0_entry 5 = .ok (.iconst 4, 1) := by decide +kernel
theorem dX0_entry_6 : decode cX0_entry 6 = .ok (.imul, 1) := by decide +kernel
theorem dX0_entry_7 : decode cX0_entry 7 = .ok (.iload_n 2, 1) := by decide +kernel
theorem dX0_entry_8 : decode cX0_entry 8 = .ok (.iadd, 1) := by decide +kernel
theorem dX0_entry_9 : decode cX0_entry 9 = .ok (.iaload, 1) := by decide +kernel
theorem dX0_entry_10 : decode cX0_entry 10 = .ok (.ireturn, 1) := by decide +kernel
theorem dX0_seenInAll_0 : decode cX0_seenInAll 0 = .ok (.iconst 0, 1) := by decide +kernel
theorem dX0_seenInAll_1 : decode cX0_seenInAll 1 = .ok (.istore_n 1, 1) := by decide +kernel
theorem dX0_seenInAll_2 : decode cX0_seenInAll 2 = .ok (.iconst 0, 1) := by decide +kernel
theorem dX0_seenInAll_3 : decode cX0_seenInAll 3 = .ok (.istore_n 2, 1) := by decide +kernel
theorem dX0_seenInAll_4 : decode cX0_seenInAll 4 = .ok (.iload_n 2, 1) := by decide +kernel
theorem dX0_seenInAll_5 : decode cX0_seenInAll 5 = .ok (.aload_n 0, 1) := by decide +kernel
theorem dX0_seenInAll_6 : decode cX0_seenInAll 6 = .ok (.getfield 13, 3) := by decide +kernel
theorem dX0_seenInAll_9 : decode cX0_seenInAll 9 = .ok (.if_icmp .ge 18, 3) := by decide +kernel
theorem dX0_seenInAll_12 : decode cX0_seenInAll 12 = .ok (.iload_n 1, 1) := by decide +kernel
theorem dX0_seenInAll_13 : decode cX0_seenInAll 13 = .ok (.aload_n 0, 1) := by decide +kernel
theorem dX0_seenInAll_14 : decode cX0_seenInAll 14 = .ok (.iload_n 2, 1) := by decide +kernel
theorem dX0_seenInAll_15 : decode cX0_seenInAll 15 = .ok (.iconst 0, 1) := by decide +kernel
theorem dX0_seenInAll_16 : decode cX0_seenInAll 16 = .ok (.invokevirtual 43, 3) := by decide +kernel
theorem dX0_seenInAll_19 : decode cX0_seenInAll 19 = .ok (.ior, 1) := by decide +kernel
theorem dX0_seenInAll_20 : decode cX0_seenInAll 20 = .ok (.istore_n 1, 1) := by decide +kernel
theorem dX0_seenInAll_21 : decode cX0_seenInAll 21 = .ok (.iinc 2 1, 3) := by decide +kernel
theorem dX0_seenInAll_24 : decode cX0_seenInAll 24 = .ok (.goto (-20), 3) := by decide +kernel
theorem dX0_seenInAll_27 : decode cX0_seenInAll 27 = .ok (.iload_n 1, 1) := by decide +kernel
theorem dX0_seenInAll_28 : decode cX0_seenInAll 28 = .ok (.ireturn, 1) := by decide +kernel
theorem dX0_timesSeen_0 : decode cX0_timesSeen 0 = .ok (.iconst 0, 1) := by decide +kernel
theorem dX0_timesSeen_1 : decode cX0_timesSeen 1 = .ok (.istore_n 2, 1) := by decide +kernel
theorem dX0_timesSeen_2 : decode cX0_timesSeen 2 = .ok (.iconst 0, 1) := by decide +kernel
theorem dX0_timesSeen_3 : decode cX0_timesSeen 3 = .ok (.istore_n 3, 1) := by decide +kernel
theorem dX0_timesSeen_4 : decode cX0_timesSeen 4 = .ok (.iload_n 3, 1) := by decide +kernel
theorem dX0_timesSeen_5 : decode cX0_timesSeen 5 = .ok (.aload_n 0, 1) := by decide +kernel
theorem dX0_timesSeen_6 : decode cX0_timesSeen 6 = .ok (.getfield 13, 3) := by decide +kernel
theorem dX0_timesSeen_9 : decode cX0_timesSeen 9 = .ok (.if_icmp .ge 22, 3) := by decide +kernel
theorem dX0_timesSeen_12 : decode cX0_timesSeen 12 = .ok (.iload_n 2, 1) := by decide +kernel
theorem dX0_timesSeen_13 : decode cX0_timesSeen 13 = .ok (.aload_n 0, 1) := by decide +kernel
theorem dX0_timesSeen_14 : decode cX0_timesSeen 14 = .ok (.iload_n 3, 1) := by decide +kernel
theorem dX0_timesSeen_15 : decode cX0_timesSeen 15 = .ok (.iconst 0, 1) := by decide +kernel
theorem dX0_timesSeen_16 : decode cX0_timesSeen 16 = .ok (.invokevirtual 43, 3) := by decide +kernel
theorem dX0_timesSeen_19 : decode cX0_timesSeen 19 = .ok (.iload_n 1, 1) := by decide +kernel
theorem dX0_timesSeen_20 : decode cX0_timesSeen 20 = .ok (.ishr, 1) := by decide +kernel
theorem dX0_timesSeen_21 : decode cX0_timesSeen 21 = .ok (.iconst 1, 1) := by decide +kernel
theorem dX0_timesSeen_22 : decode cX0_timesSeen 22 = .ok (.iand, 1) := by decide +kernel
theorem dX0_timesSeen_23 : decode cX0_timesSeen 23 = .ok (.iadd, 1) := by decide +kernel
theorem dX0_timesSeen_24 : decode cX0_timesSeen 24 = .ok (.istore_n 2, 1) := by decide +kernel
theorem dX0_timesSeen_25 : decode cX0_timesSeen 25 = .ok (.iinc 3 1, 3) := by decide +kernel
theorem dX0_timesSeen_28 : decode cX0_timesSeen 28 = .ok (.goto (-24), 3) := by decide +kernel
theorem dX0_timesSeen_31 : decode cX0_timesSeen 31 = .ok (.iload_n 2, 1) := by decide +kernel
theorem dX0_timesSeen_32 : decode cX0_timesSeen 32 = .ok (.ireturn, 1) := by decide +kernel
theorem dX0_seenWith_0 : decode cX0_seenWith 0 = .ok (.iconst 0, 1) := by decide +kernel
theorem dX0_seenWith_1 : decode cX0_seenWith 1 = .ok (.istore_n 2, 1) := by decide +kernel
theorem dX0_seenWith_2 : decode cX0_seenWith 2 = .ok (.iconst 0, 1) := by decide +kernel
theorem dX0_seenWith_3 : decode cX0_seenWith 3 = .ok (.istore_n 3, 1) := by decide +kernel
theorem dX0_seenWith_4 : decode cX0_seenWith 4 = .ok (.iload_n 3, 1) := by decide +kernel
theorem dX0_seenWith_5 : decode cX0_seenWith 5 = .ok (.aload_n 0, 1) := by decide +kernel
theorem dX0_seenWith_6 : decode cX0_seenWith 6 = .ok (.getfield 13, 3) := by decide +kernel
theorem dX0_seenWith_9 : decode cX0_seenWith 9 = .ok (.if_icmp .ge 28, 3) := by decide +kernel
theorem dX0_seenWith_12 : decode cX0_seenWith 12 = .ok (.aload_n 0, 1) := by decide +kernel
theorem dX0_seenWith_13 : decode cX0_seenWith 13 = .ok (.iload_n 3, 1) := by decide +kernel
theorem dX0_seenWith_14 : decode cX0_seenWith 14 = .ok (.iconst 1, 1) := by decide +kernel
theorem dX0_seenWith_15 : decode cX0_seenWith 15 = .ok (.invokevirtual 43, 3) := by decide +kernel
theorem dX0_seenWith_18 : decode cX0_seenWith 18 = .ok (.iload_n 1, 1) := by decide +kernel
theorem dX0_seenWith_19 : decode cX0_seenWith 19 = .ok (.if_icmp .ne 12, 3) := by decide +kernel
theorem dX0_seenWith_22 : decode cX0_seenWith 22 = .ok (.iload_n 2, 1) := by decide +kernel
theorem dX0_seenWith_23 : decode cX0_seenWith 23 = .ok (.aload_n 0, 1) := by decide +kernel
theorem dX0_seenWith_24 : decode cX0_seenWith 24 = .ok (.iload_n 3, 1) := by decide +kernel
theorem dX0_seenWith_25 : decode cX0_seenWith 25 = .ok (.iconst 0, 1) := by decide +kernel
theorem dX0_seenWith_26 : decode cX0_seenWith 26 = .ok (.invokevirtual 43, 3) := by decide +kernel
theorem dX0_seenWith_29 : decode cX0_seenWith 29 = .ok (.ior, 1) := by decide +kernel
theorem dX0_seenWith_30 : decode cX0_seenWith 30 = .ok (.istore_n 2, 1) := by decide +kernel
theorem dX0_seenWith_31 : decode cX0_seenWith 31 = .ok (.iinc 3 1, 3) := by decide +kernel
theorem dX0_seenWith_34 : decode cX0_seenWith 34 = .ok (.goto (-30), 3) := by decide +kernel
theorem dX0_seenWith_37 : decode cX0_seenWith 37 = .ok (.iload_n 2, 1) := by decide +kernel
theorem dX0_seenWith_38 : decode cX0_seenWith 38 = .ok (.ireturn, 1) := by decide +kernel
theorem dX1_init_0 : decode cX1_init 0 = .ok (.aload_n 0, 1) := by decide +kernel
theorem dX1_init_1 : decode cX1_init 1 = .ok (.invokespecial 3, 3) := by decide +kernel
theorem dX1_init_4 : decode cX1_init 4 = .ok (.aload_n 0, 1) := by decide +kernel
theorem dX1_init_5 : decode cX1_init 5 = .ok (.bipush 6, 2) := by decide +kernel
theorem dX1_init_7 : decode cX1_init 7 = .ok (.newarray .int, 2) := by decide +kernel
theorem dX1_init_9 : decode cX1_init 9 = .ok (.putfield 9, 3) := by decide +kernel
theorem dX1_init_12 : decode cX1_init 12 = .ok (.aload_n 0, 1) := by decide +kernel
theorem dX1_init_13 : decode cX1_init 13 = .ok (.bipush 6, 2) := by decide +kernel
theorem dX1_init_15 : decode cX1_init 15 = .ok (.newarray .int, 2) := by decide +kernel
theorem dX1_init_17 : decode cX1_init 17 = .ok (.putfield 15, 3) := by decide +kernel
theorem dX1_init_20 : decode cX1_init 20 = .ok (.aload_n 0, 1) := by decide +kernel
theorem dX1_init_21 : decode cX1_init 21 = .ok (.bipush 6, 2) := by decide +kernel
theorem dX1_init_23 : decode cX1_init 23 = .ok (.newarray .int, 2) := by decide +kernel
theorem dX1_init_25 : decode cX1_init 25 = .ok (.putfield 18, 3) := by decide +kernel
theorem dX1_init_28 : decode cX1_init 28 = .ok (.aload_n 0, 1) := by decide +kernel
theorem dX1_init_29 : decode cX1_init 29 = .ok (.bipush 6, 2) := by decide +kernel
theorem dX1_init_31 : decode cX1_init 31 = .ok (.newarray .int, 2) := by decide +kernel
theorem dX1_init_33 : decode cX1_init 33 = .ok (.putfield 21, 3) := by decide +kernel
theorem dX1_init_36 : decode cX1_init 36 = .ok (.aload_n 0, 1) := by decide +kernel
theorem dX1_init_37 : decode cX1_init 37 = .ok (.bipush 6, 2) := by decide +kernel
theorem dX1_init_39 : decode cX1_init 39 = .ok (.newarray .int, 2) := by decide +kernel
theorem dX1_init_41 : decode cX1_init 41 = .ok (.putfield 24, 3) := by decide +kernel
theorem dX1_init_44 : decode cX1_init 44 = .ok (.aload_n 0, 1) := by decide +kernel
theorem dX1_init_45 : decode cX1_init 45 = .ok (.bipush 6, 2) := by decide +kernel
theorem dX1_init_47 : decode cX1_init 47 = .ok (.newarray .int, 2) := by decide +kernel
theorem dX1_init_49 : decode cX1_init 49 = .ok (.putfield 27, 3) := by decide +kernel
theorem dX1_init_52 : decode cX1_init 52 = .ok (.aload_n 0, 1) := by decide +kernel
theorem dX1_init_53 : decode cX1_init 53 = .ok (.bipush 6, 2) := by decide +kernel
theorem dX1_init_55 : decode cX1_init 55 = .ok (.newarray .int, 2) := by decide +kernel
theorem dX1_init_57 : decode cX1_init 57 = .ok (.putfield 30, 3) := by decide +kernel
theorem dX1_init_60 : decode cX1_init 60 = .ok (.aload_n 0, 1) := by decide +kernel
theorem dX1_init_61 : decode cX1_init 61 = .ok (.getfield 9, 3) := by decide +kernel
theorem dX1_init_64 : decode cX1_init 64 = .ok (.iconst (-1), 1) := by decide +kernel
theorem dX1_init_65 : decode cX1_init 65 = .ok (.invokestatic 33, 3) := by decide +kernel
theorem dX1_init_68 : decode cX1_init 68 = .ok (.return_, 1) := by decide +kernel
theorem dX1_findBest_0 : decode cX1_findBest 0 = .ok (.iconst 0, 1) := by decide +kernel
theorem dX1_findBest_1 : decode cX1_findBest 1 = .ok (.istore_n 3, 1) := by decide +kernel
theorem dX1_findBest_2 : decode cX1_findBest 2 = .ok (.iload_n 3, 1) := by decide +kernel
theorem dX1_findBest_3 : decode cX1_findBest 3 = .ok (.aload_n 1, 1) := by decide +kernel
theorem dX1_findBest_4 : decode cX1_findBest 4 = .ok (.getfield 39, 3) := by decide +kernel
theorem dX1_findBest_7 : decode cX1_findBest 7 = .ok (.if_icmp .ge 33, 3) := by decide +kernel
theorem dX1_findBest_10 : decode cX1_findBest 10 = .ok (.aload_n 0, 1) := by decide +kernel
theorem dX1_findBest_11 : decode cX1_findBest 11 = .ok (.getfield 21, 3) := by decide +kernel
theorem dX1_findBest_14 : decode cX1_findBest 14 = .ok (.iload_n 3, 1) := by decide +kernel
theorem dX1_findBest_15 : decode cX1_findBest 15 = .ok (.aload_n 1, 1) := by decide +kernel
theorem dX1_findBest_16 : decode cX1_findBest 16 = .ok (.iload_n 3, 1) := by decide +kernel
theorem dX1_findBest_17 : decode cX1_findBest 17 = .ok (.invokevirtual 45, 3) := by decide +kernel
theorem dX1_findBest_20 : decode cX1_findBest 20 = .ok (.iload_n 2, 1) := by decide +kernel
theorem dX1_findBest_21 : decode cX1_findBest 21 = .ok (.imul, 1) := by decide +kernel
theorem dX1_findBest_22 : decode cX1_findBest 22 = .ok (.iastore, 1) := by decide +kernel
theorem dX1_findBest_23 : decode cX1_findBest 23 = .ok (.aload_n 0, 1) := by decide +kernel
theorem dX1_findBest_24 : decode cX1_findBest 24 = .ok (.getfield 24, 3) := by decide +kernel
theorem dX1_findBest_27 : decode cX1_findBest 27 = .ok (.iload_n 3, 1) := by decide +kernel
theorem dX1_findBest_28 : decode cX1_findBest 28 = .ok (.aload_n 1, 1) := by decide +kernel
theorem dX1_findBest_29 : decode cX1_findBest 29 = .ok (.iload_n 3, 1) := by decide +kernel
theorem dX1_findBest_30 : decode cX1_findBest 30 = .ok (.invokevirtual 49, 3) := by decide +kernel
theorem dX1_findBest_33 : decode cX1_findBest 33 = .ok (.iastore, 1) := by decide +kernel
theorem dX1_findBest_34 : decode cX1_findBest 34 = .ok (.iinc 3 1, 3) := by decide +kernel
theorem dX1_findBest_37 : decode cX1_findBest 37 = .ok (.goto (-35), 3) := by decide +kernel
theorem dX1_findBest_40 : decode cX1_findBest 40 = .ok (.aload_n 0, 1) := by decide +kernel
theorem dX1_findBest_41 : decode cX1_findBest 41 = .ok (.getfield 15, 3) := by decide +kernel
theorem dX1_findBest_44 : decode cX1_findBest 44 = .ok (.iconst (-1), 1) := by decide +kernel
theorem dX1_findBest_45 : decode cX1_findBest 45 = .ok (.invokestatic 33, 3) := by decide +kernel
theorem dX1_findBest_48 : decode cX1_findBest 48 = .ok (.aload_n 0, 1) := by decide +kernel
theorem dX1_findBest_49 : decode cX1_findBest 49 = .ok (.getfield 27, 3) := by decide +kernel
theorem dX1_findBest_52 : decode cX1_findBest 52 = .ok (.iconst 0, 1) := by decide +kernel
theorem dX1_findBest_53 : decode cX1_findBest 53 = .ok (.invokestatic 33, 3) := by decide +kernel
theorem dX1_findBest_56 : decode cX1_findBest 56 = .ok (.aload_n 0, 1) := by decide +kernel
theorem dX1_findBest_57 : decode cX1_findBest 57 = .ok (.getfield 30, 3) := by decide +kernel
theorem dX1_findBest_60 : decode cX1_findBest 60 = .ok (.iconst 0, 1) := by decide +kernel
theorem dX1_findBest_61 : decode cX1_findBest 61 = .ok (.invokestatic 33, 3) := by decide +kernel
theorem dX1_findBest_64 : decode cX1_findBest 64 = .ok (.aload_n 0, 1) := by decide +kernel
theorem dX1_findBest_65 : decode cX1_findBest 65 = .ok (.iconst (-1), 1) := by decide +kernel
theorem dX1_findBest_66 : decode cX1_findBest 66 = .ok (.putfield 52, 3) := by decide +kernel
theorem dX1_findBest_69 : decode cX1_findBest 69 = .ok (.aload_n 0, 1) := by decide +kernel
theorem dX1_findBest_70 : decode cX1_findBest 70 = .ok (.aload_n 1, 1) := by decide +kernel
theorem dX1_findBest_71 : decode cX1_findBest 71 = .ok (.iconst 0, 1) := by decide +kernel
theorem dX1_findBest_72 : decode cX1_findBest 72 = .ok (.iconst 0, 1) := by decide +kernel
theorem dX1_findBest_73 : decode cX1_findBest 73 = .ok (.invokevirtual 55, 3) := by decide +kernel
theorem dX1_findBest_76 : decode cX1_findBest 76 = .ok (.aload_n 0, 1) := by decide +kernel
theorem dX1_findBest_77 : decode cX1_findBest 77 = .ok (.getfield 52, 3) := by decide +kernel
theorem dX1_findBest_80 : decode cX1_findBest 80 = .ok (.iconst (-1), 1) := by decide +kernel
theorem dX1_findBest_81 : decode cX1_findBest 81 = .ok (.if_icmp .eq 18, 3) := by decide +kernel
theorem dX1_findBest_84 : decode cX1_findBest 84 = .ok (.aload_n 0, 1) := by decide +kernel
theorem dX1_findBest_85 : decode cX1_findBest 85 = .ok (.getfield 18, 3) := by decide +kernel
theorem dX1_findBest_88 : decode cX1_findBest 88 = .ok (.iconst 0, 1) := by decide +kernel
theorem dX1_findBest_89 : decode cX1_findBest 89 = .ok (.aload_n 0, 1) := by decide +kernel
theorem dX1_findBest_90 : decode cX1_findBest 90 = .ok (.getfield 9, 3) := by decide +kernel
theorem dX1_findBest_93 : decode cX1_findBest 93 = .ok (.iconst 0, 1) := by decide +kernel
theorem dX1_findBest_94 : decode cX1_findBest 94 = .ok (.bipush 6, 2) := by decide +kernel
theorem dX1_findBest_96 : decode cX1_findBest 96 = .ok (.invokestatic 59, 3) := by decide +kernel
theorem dX1_findBest_99 : decode cX1_findBest 99 = .ok (.aload_n 0, 1) := by decide +kernel
theorem dX1_findBest_100 : decode cX1_findBest 100 = .ok (.getfield 52, 3) := by decide +kernel
theorem dX1_findBest_103 : decode cX1_findBest 103 = .ok (.ireturn, 1) := by decide +kernel
theorem dX1_choose_0 : decode cX1_choose 0 = .ok (.aload_n 0, 1) := by decide +kernel
theorem dX1_choose_1 : decode cX1_choose 1 = .ok (.getfield 52, 3) := by decide +kernel
theorem dX1_choose_4 : decode cX1_choose 4 = .ok (.iconst (-1), 1) := by decide +kernel
theorem dX1_choose_5 : decode cX1_choose 5 = .ok (.if_icmp .eq 12, 3) := by decide +kernel
theorem dX1_choose_8 : decode cX1_choose 8 = .ok (.iload_n 3, 1) := by decide +kernel
theorem dX1_choose_9 : decode cX1_choose 9 = .ok (.aload_n 0, 1) := by decide +kernel
theorem dX1_choose_10 : decode cX1_choose 10 = .ok (.getfield 52, 3) := by decide +kernel
theorem dX1_choose_13 : decode cX1_choose 13 = .ok (.if_icmp .lt 4, 3) := by decide +kernel
theorem dX1_choose_16 : decode cX1_choose 16 = .ok (.return_, 1) := by decide +kernel
theorem dX1_choose_17 : decode cX1_choose 17 = .ok (.iload_n 2, 1) := by decide +kernel
theorem dX1_choose_18 : decode cX1_choose 18 = .ok (.istore 4, 2) := by decide +kernel
theorem dX1_choose_20 : decode cX1_choose 20 = .ok (.iload 4, 2) := by decide +kernel
theorem dX1_choose_22 : decode cX1_choose 22 = .ok (.aload_n 1, 1) := by decide +kernel
theorem dX1_choose_23 : decode cX1_choose 23 = .ok (.getfield 39, 3) := by decide +kernel
theorem dX1_choose_26 : decode cX1_choose 26 = .ok (.if_icmp .ge 26, 3) := by decide +kernel
theorem dX1_choose_29 : decode cX1_choose 29 = .ok (.iload 4, 2) := by decide +kernel
theorem dX1_choose_31 : decode cX1_choose 31 = .ok (.bipush 6, 2) := by decide +kernel
theorem dX1_choose_33 : decode cX1_choose 33 = .ok (.if_icmp .ge 19, 3) := by decide +kernel
theorem dX1_choose_36 : decode cX1_choose 36 = .ok (.aload_n 0, 1) := by decide +kernel
theorem dX1_choose_37 : decode cX1_choose 37 = .ok (.getfield 24, 3) := by decide +kernel
theorem dX1_choose_40 : decode cX1_choose 40 = .ok (.iload 4, 2) := by decide +kernel
theorem dX1_choose_42 : decode cX1_choose 42 = .ok (.iaload, 1) := by decide +kernel
theorem dX1_choose_43 : decode cX1_choose 43 = .ok (.ifCond .ne 9, 3) := by decide +kernel
theorem dX1_choose_46 : decode cX1_choose 46 = .ok (.iinc 4 1, 3) := by decide +kernel
theorem dX1_choose_49 : decode cX1_choose 49 = .ok (.goto (-29), 3) := by decide +kernel
theorem dX1_choose_52 : decode cX1_choose 52 = .ok (.iload 4, 2) := by decide +kernel
theorem dX1_choose_54 : decode cX1_choose 54 = .ok (.aload_n 1, 1) := by decide +kernel
theorem dX1_choose_55 : decode cX1_choose 55 = .ok (.getfield 39, 3) := by decide +kernel
theorem dX1_choose_58 : decode cX1_choose 58 = .ok (.if_icmp .ge 10, 3) := by decide +kernel
theorem dX1_choose_61 : decode cX1_choose 61 = .ok (.iload 4, 2) := by decide +kernel
theorem dX1_choose_63 : decode cX1_choose 63 = .ok (.bipush 6, 2) := by decide +kernel
theorem dX1_choose_65 : decode cX1_choose 65 = .ok (.if_icmp .lt 24, 3) := by decide +kernel
theorem dX1_choose_68 : decode cX1_choose 68 = .ok (.aload_n 0, 1) := by decide +kernel
theorem dX1_choose_69 : decode cX1_choose 69 = .ok (.iload_n 3, 1) := by decide +kernel
theorem dX1_choose_70 : decode cX1_choose 70 = .ok (.putfield 52, 3) := by decide +kernel
theorem dX1_choose_73 : decode cX1_choose 73 = .ok (.aload_n 0, 1) := by decide +kernel
theorem dX1_choose_74 : decode cX1_choose 74 = .ok (.getfield 15, 3) := by decide +kernel
theorem dX1_choose_77 : decode cX1_choose 77 = .ok (.iconst 0, 1) := by decide +kernel
theorem dX1_choose_78 : decode cX1_choose 78 = .ok (.aload_n 0, 1) := by decide +kernel
theorem dX1_choose_79 : decode cX1_choose 79 = .ok (.getfield 18, 3) := by decide +kernel
theorem dX1_choose_82 : decode cX1_choose 82 = .ok (.iconst 0, 1) := by decide +kernel
theorem dX1_choose_83 : decode cX1_choose 83 = .ok (.bipush 6, 2) := by decide +kernel
theorem dX1_choose_85 : decode cX1_choose 85 = .ok (.invokestatic 59, 3) := by decide +kernel
theorem dX1_choose_88 : decode cX1_choose 88 = .ok (.return_, 1) := by decide +kernel
theorem dX1_choose_89 : decode cX1_choose 89 = .ok (.aload_n 0, 1) := by decide +kernel
theorem dX1_choose_90 : decode cX1_choose 90 = .ok (.aload_n 1, 1) := by decide +kernel
theorem dX1_choose_91 : decode cX1_choose 91 = .ok (.iload 4, 2) := by decide +kernel
theorem dX1_choose_93 : decode cX1_choose 93 = .ok (.iload_n 3, 1) := by decide +kernel
theorem dX1_choose_94 : decode cX1_choose 94 = .ok (.invokevirtual 65, 3) := by decide +kernel
theorem dX1_choose_97 : decode cX1_choose 97 = .ok (.return_, 1) := by decide +kernel
theorem dX1_tryActors_0 : decode cX1_tryActors 0 = .ok (.iconst 0, 1) := by decide +kernel
theorem dX1_tryActors_1 : decode cX1_tryActors 1 = .ok (.istore 4, 2) := by decide +kernel
theorem dX1_tryActors_3 : decode cX1_tryActors 3 = .ok (.iload 4, 2) := by decide +kernel
theorem dX1_tryActors_5 : decode cX1_tryActors 5 = .ok (.aload_n 1, 1) := by decide +kernel
theorem dX1_tryActors_6 : decode cX1_tryActors 6 = .ok (.getfield 68, 3) := by decide +kernel
theorem dX1_tryActors_9 : decode cX1_tryActors 9 = .ok (.if_icmp .ge 112, 3) := by decide +kernel
theorem dX1_tryActors_12 : decode cX1_tryActors 12 = .ok (.aload_n 0, 1) := by decide +kernel
theorem dX1_tryActors_13 : decode cX1_tryActors 13 = .ok (.aload_n 1, 1) := by decide +kernel
theorem dX1_tryActors_14 : decode cX1_tryActors 14 = .ok (.iload 4, 2) := by decide +kernel
theorem dX1_tryActors_16 : decode cX1_tryActors 16 = .ok (.iload_n 2, 1) := by decide +kernel
theorem dX1_tryActors_17 : decode cX1_tryActors 17 = .ok (.invokevirtual 71, 3) := by decide +kernel
theorem dX1_tryActors_20 : decode cX1_tryActors 20 = .ok (.ifCond .eq 95, 3) := by decide +kernel
theorem dX1_tryActors_23 : decode cX1_tryActors 23 = .ok (.aload_n 0, 1) := by decide +kernel
theorem dX1_tryActors_24 : decode cX1_tryActors 24 = .ok (.getfield 15, 3) := by decide +kernel
theorem dX1_tryActors_27 : decode cX1_tryActors 27 = .ok (.iload_n 2, 1) := by decide +kernel
theorem dX1_tryActors_28 : decode cX1_tryActors 28 = .ok (.iload 4, 2) := by decide +kernel
theorem dX1_tryActors_30 : decode cX1_tryActors 30 = .ok (.iastore, 1) := by decide +kernel
theorem dX1_tryActors_31 : decode cX1_tryActors 31 = .ok (.aload_n 0, 1) := by decide +kernel
theorem dX1_tryActors_32 : decode cX1_tryActors 32 = .ok (.getfield 27, 3) := by decide +kernel
theorem dX1_tryActors_35 : decode cX1_tryActors 35 = .ok (.iload 4, 2) := by decide +kernel
theorem dX1_tryActors_37 : decode cX1_tryActors 37 = .ok (.dup2, 1) := by decide +kernel
theorem dX1_tryActors_38 : decode cX1_tryActors 38 = .ok (.iaload, 1) := by decide +kernel
theorem dX1_tryActors_39 : decode cX1_tryActors 39 = .ok (.iconst 1, 1) := by decide +kernel
theorem dX1_tryActors_40 : decode cX1_tryActors 40 = .ok (.iload_n 2, 1) := by decide +kernel
theorem dX1_tryActors_41 : decode cX1_tryActors 41 = .ok (.ishl, 1) := by decide +kernel
theorem dX1_tryActors_42 : decode cX1_tryActors 42 = .ok (.ior, 1) := by decide +kernel
theorem dX1_tryActors_43 : decode cX1_tryActors 43 = .ok (.iastore, 1) := by decide +kernel
theorem dX1_tryActors_44 : decode cX1_tryActors 44 = .ok (.aload_n 0, 1) := by decide +kernel
theorem dX1_tryActors_45 : decode cX1_tryActors 45 = .ok (.getfield 30, 3) := by decide +kernel
theorem dX1_tryActors_48 : decode cX1_tryActors 48 = .ok (.iload 4, 2) := by decide +kernel
theorem dX1_tryActors_50 : decode cX1_tryActors 50 = .ok (.dup2, 1) := by decide +kernel
theorem dX1_tryActors_51 : decode cX1_tryActors 51 = .ok (.iaload, 1) := by decide +kernel
theorem dX1_tryActors_52 : decode cX1_tryActors 52 = .ok (.aload_n 0, 1) := by decide +kernel
theorem dX1_tryActors_53 : decode cX1_tryActors 53 = .ok (.getfield 21, 3) := by decide +kernel
theorem dX1_tryActors_56 : decode cX1_tryActors 56 = .ok (.iload_n 2, 1) := by decide +kernel
theorem dX1_tryActors_57 : decode cX1_tryActors 57 = .ok (.iaload, 1) := by decide +kernel
theorem dX1_tryActors_58 : decode cX1_tryActors 58 = .ok (.iadd, 1) := by decide +kernel
theorem dX1_tryActors_59 : decode cX1_tryActors 59 = .ok (.iastore, 1) := by decide +kernel
theorem dX1_tryActors_60 : decode cX1_tryActors 60 = .ok (.aload_n 0, 1) := by decide +kernel
theorem dX1_tryActors_61 : decode cX1_tryActors 61 = .ok (.aload_n 1, 1) := by decide +kernel
theorem dX1_tryActors_62 : decode cX1_tryActors 62 = .ok (.iload_n 2, 1) := by decide +kernel
theorem dX1_tryActors_63 : decode cX1_tryActors 63 = .ok (.iconst 1, 1) := by decide +kernel
theorem dX1_tryActors_64 : decode cX1_tryActors 64 = .ok (.iadd, 1) := by decide +kernel
theorem dX1_tryActors_65 : decode cX1_tryActors 65 = .ok (.iload_n 3, 1) := by decide +kernel
theorem dX1_tryActors_66 : decode cX1_tryActors 66 = .ok (.aload_n 0, 1) := by decide +kernel
theorem dX1_tryActors_67 : decode cX1_tryActors 67 = .ok (.getfield 21, 3) := by decide +kernel
theorem dX1_tryActors_70 : decode cX1_tryActors 70 = .ok (.iload_n 2, 1) := by decide +kernel
theorem dX1_tryActors_71 : decode cX1_tryActors 71 = .ok (.iaload, 1) := by decide +kernel
theorem dX1_tryActors_72 : decode cX1_tryActors 72 = .ok (.aload_n 1, 1) := by decide +kernel
theorem dX1_tryActors_73 : decode cX1_tryActors 73 = .ok (.getfield 75, 3) := by decide +kernel
theorem dX1_tryActors_76 : decode cX1_tryActors 76 = .ok (.iload 4, 2) := by decide +kernel
theorem dX1_tryActors_78 : decode cX1_tryActors 78 = .ok (.iaload, 1) := by decide +kernel
theorem dX1_tryActors_79 : decode cX1_tryActors 79 = .ok (.imul, 1) := by decide +kernel
theorem dX1_tryActors_80 : decode cX1_tryActors 80 = .ok (.iadd, 1) := by decide +kernel
theorem dX1_tryActors_81 : decode cX1_tryActors 81 = .ok (.invokevirtual 55, 3) := by decide +kernel
theorem dX1_tryActors_84 : decode cX1_tryActors 84 = .ok (.aload_n 0, 1) := by decide +kernel
theorem dX1_tryActors_85 : decode cX1_tryActors 85 = .ok (.getfield 30, 3) := by decide +kernel
theorem dX1_tryActors_88 : decode cX1_tryActors 88 = .ok (.iload 4, 2) := by decide +kernel
theorem dX1_tryActors_90 : decode cX1_tryActors 90 = .ok (.dup2, 1) := by decide +kernel
theorem dX1_tryActors_91 : decode cX1_tryActors 91 = .ok (.iaload, 1) := by decide +kernel
theorem dX1_tryActors_92 : decode cX1_tryActors 92 = .ok (.aload_n 0, 1) := by decide +kernel
theorem dX1_tryActors_93 : decode cX1_tryActors 93 = .ok (.getfield 21, 3) := by decide +kernel
theorem dX1_tryActors_96 : decode cX1_tryActors 96 = .ok (.iload_n 2, 1) := by decide +kernel
theorem dX1_tryActors_97 : decode cX1_tryActors 97 = .ok (.iaload, 1) := by decide +kernel
theorem dX1_tryActors_98 : decode cX1_tryActors 98 = .ok (.isub, 1) := by decide +kernel
theorem dX1_tryActors_99 : decode cX1_tryActors 99 = .ok (.iastore, 1) := by decide +kernel
theorem dX1_tryActors_100 : decode cX1_tryActors 100 = .ok (.aload_n 0, 1) := by decide +kernel
theorem dX1_tryActors_101 : decode cX1_tryActors 101 = .ok (.getfield 27, 3) := by decide +kernel
theorem dX1_tryActors_104 : decode cX1_tryActors 104 = .ok (.iload 4, 2) := by decide +kernel
theorem dX1_tryActors_106 : decode cX1_tryActors 106 = .ok (.dup2, 1) := by decide +kernel
theorem dX1_tryActors_107 : decode cX1_tryActors 107 = .ok (.iaload, 1) := by decide +kernel
theorem dX1_tryActors_108 : decode cX1_tryActors 108 = .ok (.iconst 1, 1) := by decide +kernel
theorem dX1_tryActors_109 : decode cX1_tryActors 109 = .ok (.iload_n 2, 1) := by decide +kernel
theorem dX1_tryActors_110 : decode cX1_tryActors 110 = .ok (.ishl, 1) := by decide +kernel
theorem dX1_tryActors_111 : decode cX1_tryActors 111 = .ok (.iconst (-1), 1) := by decide +kernel
theorem dX1_tryActors_112 : decode cX1_tryActors 112 = .ok (.ixor, 1) := by decide +kernel
theorem dX1_tryActors_113 : decode cX1_tryActors 113 = .ok (.iand, 1) := by decide +kernel
theorem dX1_tryActors_114 : decode cX1_tryActors 114 = .ok (.iastore, 1) := by decide +kernel
theorem dX1_tryActors_115 : decode cX1_tryActors 115 = .ok (.iinc 4 1, 3) := by decide +kernel
theorem dX1_tryActors_118 : decode cX1_tryActors 118 = .ok (.goto (-115), 3) := by decide +kernel
theorem dX1_tryActors_121 : decode cX1_tryActors 121 = .ok (.return_, 1) := by decide +kernel
theorem dX1_mayPlay_0 : decode cX1_mayPlay 0 = .ok (.aload_n 1, 1) := by decide +kernel
theorem dX1_mayPlay_1 : decode cX1_mayPlay 1 = .ok (.getfield 78, 3) := by decide +kernel
theorem dX1_mayPlay_4 : decode cX1_mayPlay 4 = .ok (.iload_n 2, 1) := by decide +kernel
theorem dX1_mayPlay_5 : decode cX1_mayPlay 5 = .ok (.iaload, 1) := by decide +kernel
theorem dX1_mayPlay_6 : decode cX1_mayPlay 6 = .ok (.iload_n 3, 1) := by decide +kernel
theorem dX1_mayPlay_7 : decode cX1_mayPlay 7 = .ok (.ishr, 1) := by decide +kernel
theorem dX1_mayPlay_8 : decode cX1_mayPlay 8 = .ok (.iconst 1, 1) := by decide +kernel
theorem dX1_mayPlay_9 : decode cX1_mayPlay 9 = .ok (.iand, 1) := by decide +kernel
theorem dX1_mayPlay_10 : decode cX1_mayPlay 10 = .ok (.ifCond .ne 45, 3) := by decide +kernel
theorem dX1_mayPlay_13 : decode cX1_mayPlay 13 = .ok (.aload_n 0, 1) := by decide +kernel
theorem dX1_mayPlay_14 : decode cX1_mayPlay 14 = .ok (.getfield 27, 3) := by decide +kernel
theorem dX1_mayPlay_17 : decode cX1_mayPlay 17 = .ok (.iload_n 2, 1) := by decide +kernel
theorem dX1_mayPlay_18 : decode cX1_mayPlay 18 = .ok (.iaload, 1) := by decide +kernel
theorem dX1_mayPlay_19 : decode cX1_mayPlay 19 = .ok (.aload_n 0, 1) := by decide +kernel
theorem dX1_mayPlay_20 : decode cX1_mayPlay 20 = .ok (.getfield 24, 3) := by decide +kernel
theorem dX1_mayPlay_23 : decode cX1_mayPlay 23 = .ok (.iload_n 3, 1) := by decide +kernel
theorem dX1_mayPlay_24 : decode cX1_mayPlay 24 = .ok (.iaload, 1) := by decide +kernel
theorem dX1_mayPlay_25 : decode cX1_mayPlay 25 = .ok (.iand, 1) := by decide +kernel
theorem dX1_mayPlay_26 : decode cX1_mayPlay 26 = .ok (.ifCond .ne 29, 3) := by decide +kernel
theorem dX1_mayPlay_29 : decode cX1_mayPlay 29 = .ok (.aload_n 0, 1) := by decide +kernel
theorem dX1_mayPlay_30 : decode cX1_mayPlay 30 = .ok (.getfield 30, 3) := by decide +kernel
theorem dX1_mayPlay_33 : decode cX1_mayPlay 33 = .ok (.iload_n 2, 1) := by decide +kernel
theorem dX1_mayPlay_34 : decode cX1_mayPlay 34 = .ok (.iaload, 1) := by decide +kernel
theorem dX1_mayPlay_35 : decode cX1_mayPlay 35 = .ok (.aload_n 0, 1) := by decide +kernel
theorem dX1_mayPlay_36 : decode cX1_mayPlay 36 = .ok (.getfield 21, 3) := by decide +kernel
theorem dX1_mayPlay_39 : decode cX1_mayPlay 39 = .ok (.iload_n 3, 1) := by decide +kernel
theorem dX1_mayPlay_40 : decode cX1_mayPlay 40 = .ok (.iaload, 1) := by decide +kernel
theorem dX1_mayPlay_41 : decode cX1_mayPlay 41 = .ok (.iadd, 1) := by decide +kernel
theorem dX1_mayPlay_42 : decode cX1_mayPlay 42 = .ok (.aload_n 1, 1) := by decide +kernel
theorem dX1_mayPlay_43 : decode cX1_mayPlay 43 = .ok (.getfield 81, 3) := by decide +kernel
theorem dX1_mayPlay_46 : decode cX1_mayPlay 46 = .ok (.iload_n 2, 1) := by decide +kernel
theorem dX1_mayPlay_47 : decode cX1_mayPlay 47 = .ok (.iaload, 1) := by decide +kernel
theorem dX1_mayPlay_48 : decode cX1_mayPlay 48 = .ok (.if_icmp .gt 7, 3) := by decide +kernel
theorem dX1_mayPlay_51 : decode cX1_mayPlay 51 = .ok (.iconst 1, 1) := by decide +kernel
theorem dX1_mayPlay_52 : decode cX1_mayPlay 52 = .ok (.goto 4, 3) := by decide +kernel
theorem dX1_mayPlay_55 : decode cX1_mayPlay 55 = .ok (.iconst 0, 1) := by decide +kernel
theorem dX1_mayPlay_56 : decode cX1_mayPlay 56 = .ok (.ireturn, 1) := by decide +kernel
theorem dX2_init_0 : decode cX2_init 0 = .ok (.aload_n 0, 1) := by decide +kernel
theorem dX2_init_1 : decode cX2_init 1 = .ok (.invokespecial 3, 3) := by decide +kernel
theorem dX2_init_4 : decode cX2_init 4 = .ok (.aload_n 0, 1) := by decide +kernel
theorem dX2_init_5 : decode cX2_init 5 = .ok (.new 9, 3) := by decide +kernel
theorem dX2_init_8 : decode cX2_init 8 = .ok (.dup, 1) := by decide +kernel
theorem dX2_init_9 : decode cX2_init 9 = .ok (.invokespecial 11, 3) := by decide +kernel
theorem dX2_init_12 : decode cX2_init 12 = .ok (.putfield 12, 3) := by decide +kernel
theorem dX2_init_15 : decode cX2_init 15 = .ok (.aload_n 0, 1) := by decide +kernel
theorem dX2_init_16 : decode cX2_init 16 = .ok (.aload_n 1, 1) := by decide +kernel
theorem dX2_init_17 : decode cX2_init 17 = .ok (.putfield 18, 3) := by decide +kernel
theorem dX2_init_20 : decode cX2_init 20 = .ok (.return_, 1) := by decide +kernel
theorem dX2_takeFrom_0 : decode cX2_takeFrom 0 = .ok (.aload_n 0, 1) := by decide +kernel
theorem dX2_takeFrom_1 : decode cX2_takeFrom 1 = .ok (.aload_n 1, 1) := by decide +kernel
theorem dX2_takeFrom_2 : decode cX2_takeFrom 2 = .ok (.getfield 18, 3) := by decide +kernel
theorem dX2_takeFrom_5 : decode cX2_takeFrom 5 = .ok (.putfield 18, 3) := by decide +kernel
theorem dX2_takeFrom_8 : decode cX2_takeFrom 8 = .ok (.aload_n 0, 1) := by decide +kernel
theorem dX2_takeFrom_9 : decode cX2_takeFrom 9 = .ok (.aload_n 1, 1) := by decide +kernel
theorem dX2_takeFrom_10 : decode cX2_takeFrom 10 = .ok (.getfield 22, 3) := by decide +kernel
theorem dX2_takeFrom_13 : decode cX2_takeFrom 13 = .ok (.putfield 22, 3) := by decide +kernel
theorem dX2_takeFrom_16 : decode cX2_takeFrom 16 = .ok (.aload_n 0, 1) := by decide +kernel
theorem dX2_takeFrom_17 : decode cX2_takeFrom 17 = .ok (.aload_n 1, 1) := by decide +kernel
theorem dX2_takeFrom_18 : decode cX2_takeFrom 18 = .ok (.getfield 26, 3) := by decide +kernel
theorem dX2_takeFrom_21 : decode cX2_takeFrom 21 = .ok (.putfield 26, 3) := by decide +kernel
theorem dX2_takeFrom_24 : decode cX2_takeFrom 24 = .ok (.aload_n 0, 1) := by decide +kernel
theorem dX2_takeFrom_25 : decode cX2_takeFrom 25 = .ok (.aload_n 1, 1) := by decide +kernel
theorem dX2_takeFrom_26 : decode cX2_takeFrom 26 = .ok (.getfield 30, 3) := by decide +kernel
theorem dX2_takeFrom_29 : decode cX2_takeFrom 29 = .ok (.putfield 30, 3) := by decide +kernel
theorem dX2_takeFrom_32 : decode cX2_takeFrom 32 = .ok (.aload_n 0, 1) := by decide +kernel
theorem dX2_takeFrom_33 : decode cX2_takeFrom 33 = .ok (.getfield 12, 3) := by decide +kernel
theorem dX2_takeFrom_36 : decode cX2_takeFrom 36 = .ok (.aload_n 1, 1) := by decide +kernel
theorem dX2_takeFrom_37 : decode cX2_takeFrom 37 = .ok (.getfield 12, 3) := by decide +kernel
theorem dX2_takeFrom_40 : decode cX2_takeFrom 40 = .ok (.invokevirtual 33, 3) := by decide +kernel
theorem dX2_takeFrom_43 : decode cX2_takeFrom 43 = .ok (.return_, 1) := by decide +kernel
theorem dX2_raise_0 : decode cX2_raise 0 = .ok (.aload_n 0, 1) := by decide +kernel
theorem dX2_raise_1 : decode cX2_raise 1 = .ok (.aload_n 1, 1) := by decide +kernel
theorem dX2_raise_2 : decode cX2_raise 2 = .ok (.putfield 18, 3) := by decide +kernel
theorem dX2_raise_5 : decode cX2_raise 5 = .ok (.aload_n 0, 1) := by decide +kernel
theorem dX2_raise_6 : decode cX2_raise 6 = .ok (.aconst_null, 1) := by decide +kernel
theorem dX2_raise_7 : decode cX2_raise 7 = .ok (.putfield 22, 3) := by decide +kernel
theorem dX2_raise_10 : decode cX2_raise 10 = .ok (.aload_n 0, 1) := by decide +kernel
theorem dX2_raise_11 : decode cX2_raise 11 = .ok (.iconst 0, 1) := by decide +kernel
theorem dX2_raise_12 : decode cX2_raise 12 = .ok (.putfield 26, 3) := by decide +kernel
theorem dX2_raise_15 : decode cX2_raise 15 = .ok (.aload_n 0, 1) := by decide +kernel
theorem dX2_raise_16 : decode cX2_raise 16 = .ok (.iconst 0, 1) := by decide +kernel
theorem dX2_raise_17 : decode cX2_raise 17 = .ok (.putfield 30, 3) := by decide +kernel
theorem dX2_raise_20 : decode cX2_raise 20 = .ok (.aload_n 0, 1) := by decide +kernel
theorem dX2_raise_21 : decode cX2_raise 21 = .ok (.getfield 12, 3) := by decide +kernel
theorem dX2_raise_24 : decode cX2_raise 24 = .ok (.invokevirtual 37, 3) := by decide +kernel
theorem dX2_raise_27 : decode cX2_raise 27 = .ok (.return_, 1) := by decide +kernel
theorem dX2_setBarred_0 : decode cX2_setBarred 0 = .ok (.aload_n 0, 1) := by decide +kernel
theorem dX2_setBarred_1 : decode cX2_setBarred 1 = .ok (.iload_n 2, 1) := by decide +kernel
theorem dX2_setBarred_2 : decode cX2_setBarred 2 = .ok (.ifCond .eq 14, 3) := by decide +kernel
theorem dX2_setBarred_5 : decode cX2_setBarred 5 = .ok (.aload_n 0, 1) := by decide +kernel
theorem dX2_setBarred_6 : decode cX2_setBarred 6 = .ok (.getfield 26, 3) := by decide +kernel
theorem dX2_setBarred_9 : decode cX2_setBarred 9 = .ok (.iconst 1, 1) := by decide +kernel
theorem dX2_setBarred_10 : decode cX2_setBarred 10 = .ok (.iload_n 1, 1) := by decide +kernel
theorem dX2_setBarred_11 : decode cX2_setBarred 11 = .ok (.ishl, 1) := by decide +kernel
theorem dX2_setBarred_12 : decode cX2_setBarred 12 = .ok (.ior, 1) := by decide +kernel
theorem dX2_setBarred_13 : decode cX2_setBarred 13 = .ok (.goto 13, 3) := by decide +kernel
theorem dX2_setBarred_16 : decode cX2_setBarred 16 = .ok (.aload_n 0, 1) := by decide +kernel
theorem dX2_setBarred_17 : decode cX2_setBarred 17 = .ok (.getfield 26, 3) := by decide +kernel
theorem dX2_setBarred_20 : decode cX2_setBarred 20 = .ok (.iconst 1, 1) := by decide +kernel
theorem dX2_setBarred_21 : decode cX2_setBarred 21 = .ok (.iload_n 1, 1) := by decide +kernel
theorem dX2_setBarred_22 : decode cX2_setBarred 22 = .ok (.ishl, 1) := by decide +kernel
theorem dX2_setBarred_23 : decode cX2_setBarred 23 = .ok (.iconst (-1), 1) := by decide +kernel
theorem dX2_setBarred_24 : decode cX2_setBarred 24 = .ok (.ixor, 1) := by decide +kernel
theorem dX2_setBarred_25 : decode cX2_setBarred 25 = .ok (.iand, 1) := by decide +kernel
theorem dX2_setBarred_26 : decode cX2_setBarred 26 = .ok (.putfield 26, 3) := by decide +kernel
theorem dX2_setBarred_29 : decode cX2_setBarred 29 = .ok (.return_, 1) := by decide +kernel
theorem dX2_setDead_0 : decode cX2_setDead 0 = .ok (.aload_n 0, 1) := by decide +kernel
theorem dX2_setDead_1 : decode cX2_setDead 1 = .ok (.iload_n 2, 1) := by decide +kernel
theorem dX2_setDead_2 : decode cX2_setDead 2 = .ok (.ifCond .eq 14, 3) := by decide +kernel
theorem dX2_setDead_5 : decode cX2_setDead 5 = .ok (.aload_n 0, 1) := by decide +kernel
theorem dX2_setDead_6 : decode cX2_setDead 6 = .ok (.getfield 30, 3) := by decide +kernel
theorem dX2_setDead_9 : decode cX2_setDead 9 = .ok (.iconst 1, 1) := by decide +kernel
theorem dX2_setDead_10 : decode cX2_setDead 10 = .ok (.iload_n 1, 1) := by decide +kernel
theorem dX2_setDead_11 : decode cX2_setDead 11 = .ok (.ishl, 1) := by decide +kernel
theorem dX2_setDead_12 : decode cX2_setDead 12 = .ok (.ior, 1) := by decide +kernel
theorem dX2_setDead_13 : decode cX2_setDead 13 = .ok (.goto 13, 3) := by decide +kernel
theorem dX2_setDead_16 : decode cX2_setDead 16 = .ok (.aload_n 0, 1) := by decide +kernel
theorem dX2_setDead_17 : decode cX2_setDead 17 = .ok (.getfield 30, 3) := by decide +kernel
theorem dX2_setDead_20 : decode cX2_setDead 20 = .ok (.iconst 1, 1) := by decide +kernel
theorem dX2_setDead_21 : decode cX2_setDead 21 = .ok (.iload_n 1, 1) := by decide +kernel
theorem dX2_setDead_22 : decode cX2_setDead 22 = .ok (.ishl, 1) := by decide +kernel
theorem dX2_setDead_23 : decode cX2_setDead 23 = .ok (.iconst (-1), 1) := by decide +kernel
theorem dX2_setDead_24 : decode cX2_setDead 24 = .ok (.ixor, 1) := by decide +kernel
theorem dX2_setDead_25 : decode cX2_setDead 25 = .ok (.iand, 1) := by decide +kernel
theorem dX2_setDead_26 : decode cX2_setDead 26 = .ok (.putfield 30, 3) := by decide +kernel
theorem dX2_setDead_29 : decode cX2_setDead 29 = .ok (.return_, 1) := by decide +kernel
theorem dX2_canOpen_0 : decode cX2_canOpen 0 = .ok (.aload_n 0, 1) := by decide +kernel
theorem dX2_canOpen_1 : decode cX2_canOpen 1 = .ok (.aload_n 0, 1) := by decide +kernel
theorem dX2_canOpen_2 : decode cX2_canOpen 2 = .ok (.getfield 30, 3) := by decide +kernel
theorem dX2_canOpen_5 : decode cX2_canOpen 5 = .ok (.invokevirtual 40, 3) := by decide +kernel
theorem dX2_canOpen_8 : decode cX2_canOpen 8 = .ok (.iconst (-1), 1) := by decide +kernel
theorem dX2_canOpen_9 : decode cX2_canOpen 9 = .ok (.if_icmp .eq 7, 3) := by decide +kernel
theorem dX2_canOpen_12 : decode cX2_canOpen 12 = .ok (.iconst 1, 1) := by decide +kernel
theorem dX2_canOpen_13 : decode cX2_canOpen 13 = .ok (.goto 4, 3) := by decide +kernel
theorem dX2_canOpen_16 : decode cX2_canOpen 16 = .ok (.iconst 0, 1) := by decide +kernel
theorem dX2_canOpen_17 : decode cX2_canOpen 17 = .ok (.ireturn, 1) := by decide +kernel
theorem dX2_opening_0 : decode cX2_opening 0 = .ok (.aload_n 0, 1) := by decide +kernel
theorem dX2_opening_1 : decode cX2_opening 1 = .ok (.aload_n 0, 1) := by decide +kernel
theorem dX2_opening_2 : decode cX2_opening 2 = .ok (.getfield 18, 3) := by decide +kernel
theorem dX2_opening_5 : decode cX2_opening 5 = .ok (.getfield 44, 3) := by decide +kernel
theorem dX2_opening_8 : decode cX2_opening 8 = .ok (.iconst 1, 1) := by decide +kernel
theorem dX2_opening_9 : decode cX2_opening 9 = .ok (.isub, 1) := by decide +kernel
theorem dX2_opening_10 : decode cX2_opening 10 = .ok (.iload_n 1, 1) := by decide +kernel
theorem dX2_opening_11 : decode cX2_opening 11 = .ok (.invokevirtual 49, 3) := by decide +kernel
theorem dX2_opening_14 : decode cX2_opening 14 = .ok (.ireturn, 1) := by decide +kernel
theorem dX2_onward_0 : decode cX2_onward 0 = .ok (.aload_n 0, 1) := by decide +kernel
theorem dX2_onward_1 : decode cX2_onward 1 = .ok (.getfield 18, 3) := by decide +kernel
theorem dX2_onward_4 : decode cX2_onward 4 = .ok (.getfield 53, 3) := by decide +kernel
theorem dX2_onward_7 : decode cX2_onward 7 = .ok (.iload_n 1, 1) := by decide +kernel
theorem dX2_onward_8 : decode cX2_onward 8 = .ok (.iconst 4, 1) := by decide +kernel
theorem dX2_onward_9 : decode cX2_onward 9 = .ok (.imul, 1) := by decide +kernel
theorem dX2_onward_10 : decode cX2_onward 10 = .ok (.iload_n 2, 1) := by decide +kernel
theorem dX2_onward_11 : decode cX2_onward 11 = .ok (.iadd, 1) := by decide +kernel
theorem dX2_onward_12 : decode cX2_onward 12 = .ok (.iaload, 1) := by decide +kernel
theorem dX2_onward_13 : decode cX2_onward 13 = .ok (.istore 4, 2) := by decide +kernel
theorem dX2_onward_15 : decode cX2_onward 15 = .ok (.aload_n 0, 1) := by decide +kernel
theorem dX2_onward_16 : decode cX2_onward 16 = .ok (.iload 4, 2) := by decide +kernel
theorem dX2_onward_18 : decode cX2_onward 18 = .ok (.iconst (-1), 1) := by decide +kernel
theorem dX2_onward_19 : decode cX2_onward 19 = .ok (.if_icmp .ne 17, 3) := by decide +kernel
theorem dX2_onward_22 : decode cX2_onward 22 = .ok (.aload_n 0, 1) := by decide +kernel
theorem dX2_onward_23 : decode cX2_onward 23 = .ok (.getfield 18, 3) := by decide +kernel
theorem dX2_onward_26 : decode cX2_onward 26 = .ok (.getfield 53, 3) := by decide +kernel
theorem dX2_onward_29 : decode cX2_onward 29 = .ok (.iload_n 1, 1) := by decide +kernel
theorem dX2_onward_30 : decode cX2_onward 30 = .ok (.iconst 4, 1) := by decide +kernel
theorem dX2_onward_31 : decode cX2_onward 31 = .ok (.imul, 1) := by decide +kernel
theorem dX2_onward_32 : decode cX2_onward 32 = .ok (.iaload, 1) := by decide +kernel
theorem dX2_onward_33 : decode cX2_onward 33 = .ok (.goto 5, 3) := by decide +kernel
theorem dX2_onward_36 : decode cX2_onward 36 = .ok (.iload 4, 2) := by decide +kernel
theorem dX2_onward_38 : decode cX2_onward 38 = .ok (.iload_n 3, 1) := by decide +kernel
theorem dX2_onward_39 : decode cX2_onward 39 = .ok (.invokevirtual 49, 3) := by decide +kernel
theorem dX2_onward_42 : decode cX2_onward 42 = .ok (.ireturn, 1) := by decide +kernel
theorem dX2_playable_0 : decode cX2_playable 0 = .ok (.iload_n 1, 1) := by decide +kernel
theorem dX2_playable_1 : decode cX2_playable 1 = .ok (.ifCond .lt 25, 3) := by decide +kernel
theorem dX2_playable_4 : decode cX2_playable 4 = .ok (.iload_n 1, 1) := by decide +kernel
theorem dX2_playable_5 : decode cX2_playable 5 = .ok (.aload_n 0, 1) := by decide +kernel
theorem dX2_playable_6 : decode cX2_playable 6 = .ok (.getfield 18, 3) := by decide +kernel
theorem dX2_playable_9 : decode cX2_playable 9 = .ok (.getfield 44, 3) := by decide +kernel
theorem dX2_playable_12 : decode cX2_playable 12 = .ok (.if_icmp .ge 14, 3) := by decide +kernel
theorem dX2_playable_15 : decode cX2_playable 15 = .ok (.aload_n 0, 1) := by decide +kernel
theorem dX2_playable_16 : decode cX2_playable 16 = .ok (.getfield 26, 3) := by decide +kernel
theorem dX2_playable_19 : decode cX2_playable 19 = .ok (.iload_n 1, 1) := by decide +kernel
theorem dX2_playable_20 : decode cX2_playable 20 = .ok (.ishr, 1) := by decide +kernel
theorem dX2_playable_21 : decode cX2_playable 21 = .ok (.iconst 1, 1) := by decide +kernel
theorem dX2_playable_22 : decode cX2_playable 22 = .ok (.iand, 1) := by decide +kernel
theorem dX2_playable_23 : decode cX2_playable 23 = .ok (.ifCond .eq 5, 3) := by decide +kernel
theorem dX2_playable_26 : decode cX2_playable 26 = .ok (.iconst (-1), 1) := by decide +kernel
theorem dX2_playable_27 : decode cX2_playable 27 = .ok (.ireturn, 1) := by decide +kernel
theorem dX2_playable_28 : decode cX2_playable 28 = .ok (.aload_n 0, 1) := by decide +kernel
theorem dX2_playable_29 : decode cX2_playable 29 = .ok (.getfield 18, 3) := by decide +kernel
theorem dX2_playable_32 : decode cX2_playable 32 = .ok (.getfield 57, 3) := by decide +kernel
theorem dX2_playable_35 : decode cX2_playable 35 = .ok (.iload_n 1, 1) := by decide +kernel
theorem dX2_playable_36 : decode cX2_playable 36 = .ok (.iaload, 1) := by decide +kernel
theorem dX2_playable_37 : decode cX2_playable 37 = .ok (.iload_n 2, 1) := by decide +kernel
theorem dX2_playable_38 : decode cX2_playable 38 = .ok (.iand, 1) := by decide +kernel
theorem dX2_playable_39 : decode cX2_playable 39 = .ok (.ifCond .ne 7, 3) := by decide +kernel
theorem dX2_playable_42 : decode cX2_playable 42 = .ok (.iload_n 1, 1) := by decide +kernel
theorem dX2_playable_43 : decode cX2_playable 43 = .ok (.goto 4, 3) := by decide +kernel
theorem dX2_playable_46 : decode cX2_playable 46 = .ok (.iconst (-1), 1) := by decide +kernel
theorem dX2_playable_47 : decode cX2_playable 47 = .ok (.ireturn, 1) := by decide +kernel
theorem dX3_init_0 : decode cX3_init 0 = .ok (.aload_n 0, 1) := by decide +kernel
theorem dX3_init_1 : decode cX3_init 1 = .ok (.invokespecial 3, 3) := by decide +kernel
theorem dX3_init_4 : decode cX3_init 4 = .ok (.return_, 1) := by decide +kernel
theorem dX3_sow_0 : decode cX3_sow 0 = .ok (.aload_n 0, 1) := by decide +kernel
theorem dX3_sow_1 : decode cX3_sow 1 = .ok (.iload_n 1, 1) := by decide +kernel
theorem dX3_sow_2 : decode cX3_sow 2 = .ok (.putfield 9, 3) := by decide +kernel
theorem dX3_sow_5 : decode cX3_sow 5 = .ok (.return_, 1) := by decide +kernel
theorem dX3_draw_0 : decode cX3_draw 0 = .ok (.aload_n 0, 1) := by decide +kernel
theorem dX3_draw_1 : decode cX3_draw 1 = .ok (.aload_n 0, 1) := by decide +kernel
theorem dX3_draw_2 : decode cX3_draw 2 = .ok (.getfield 9, 3) := by decide +kernel
theorem dX3_draw_5 : decode cX3_draw 5 = .ok (.sipush 2903, 3) := by decide +kernel
theorem dX3_draw_8 : decode cX3_draw 8 = .ok (.imul, 1) := by decide +kernel
theorem dX3_draw_9 : decode cX3_draw 9 = .ok (.sipush 7187, 3) := by decide +kernel
theorem dX3_draw_12 : decode cX3_draw 12 = .ok (.iadd, 1) := by decide +kernel
theorem dX3_draw_13 : decode cX3_draw 13 = .ok (.ldc 15, 2) := by decide +kernel
theorem dX3_draw_15 : decode cX3_draw 15 = .ok (.iand, 1) := by decide +kernel
theorem dX3_draw_16 : decode cX3_draw 16 = .ok (.putfield 9, 3) := by decide +kernel
theorem dX3_draw_19 : decode cX3_draw 19 = .ok (.iload_n 1, 1) := by decide +kernel
theorem dX3_draw_20 : decode cX3_draw 20 = .ok (.ifCond .le 15, 3) := by decide +kernel
theorem dX3_draw_23 : decode cX3_draw 23 = .ok (.aload_n 0, 1) := by decide +kernel
theorem dX3_draw_24 : decode cX3_draw 24 = .ok (.getfield 9, 3) := by decide +kernel
theorem dX3_draw_27 : decode cX3_draw 27 = .ok (.bipush 8, 2) := by decide +kernel
theorem dX3_draw_29 : decode cX3_draw 29 = .ok (.idiv, 1) := by decide +kernel
theorem dX3_draw_30 : decode cX3_draw 30 = .ok (.iload_n 1, 1) := by decide +kernel
theorem dX3_draw_31 : decode cX3_draw 31 = .ok (.irem, 1) := by decide +kernel
theorem dX3_draw_32 : decode cX3_draw 32 = .ok (.goto 4, 3) := by decide +kernel
theorem dX3_draw_35 : decode cX3_draw 35 = .ok (.iconst 0, 1) := by decide +kernel
theorem dX3_draw_36 : decode cX3_draw 36 = .ok (.ireturn, 1) := by decide +kernel
theorem dX3_drawKind_0 : decode cX3_drawKind 0 = .ok (.aload_n 0, 1) := by decide +kernel
theorem dX3_drawKind_1 : decode cX3_drawKind 1 = .ok (.aload_n 1, 1) := by decide +kernel
theorem dX3_drawKind_2 : decode cX3_drawKind 2 = .ok (.invokevirtual 16, 3) := by decide +kernel
theorem dX3_drawKind_5 : decode cX3_drawKind 5 = .ok (.invokevirtual 22, 3) := by decide +kernel
theorem dX3_drawKind_8 : decode cX3_drawKind 8 = .ok (.istore_n 2, 1) := by decide +kernel
theorem dX3_drawKind_9 : decode cX3_drawKind 9 = .ok (.iconst 0, 1) := by decide +kernel
theorem dX3_drawKind_10 : decode cX3_drawKind 10 = .ok (.istore_n 3, 1) := by decide +kernel
theorem dX3_drawKind_11 : decode cX3_drawKind 11 = .ok (.iload_n 3, 1) := by decide +kernel
theorem dX3_drawKind_12 : decode cX3_drawKind 12 = .ok (.aload_n 1, 1) := by decide +kernel
theorem dX3_drawKind_13 : decode cX3_drawKind 13 = .ok (.getfield 26, 3) := by decide +kernel
theorem dX3_drawKind_16 : decode cX3_drawKind 16 = .ok (.iconst 1, 1) := by decide +kernel
theorem dX3_drawKind_17 : decode cX3_drawKind 17 = .ok (.isub, 1) := by decide +kernel
theorem dX3_drawKind_18 : decode cX3_drawKind 18 = .ok (.if_icmp .ge 28, 3) := by decide +kernel
theorem dX3_drawKind_21 : decode cX3_drawKind 21 = .ok (.iload_n 2, 1) := by decide +kernel
theorem dX3_drawKind_22 : decode cX3_drawKind 22 = .ok (.aload_n 1, 1) := by decide +kernel
theorem dX3_drawKind_23 : decode cX3_drawKind 23 = .ok (.getfield 29, 3) := by decide +kernel
theorem dX3_drawKind_26 : decode cX3_drawKind 26 = .ok (.iload_n 3, 1) := by decide +kernel
theorem dX3_drawKind_27 : decode cX3_drawKind 27 = .ok (.iaload, 1) := by decide +kernel
theorem dX3_drawKind_28 : decode cX3_drawKind 28 = .ok (.if_icmp .lt 18, 3) := by decide +kernel
theorem dX3_drawKind_31 : decode cX3_drawKind 31 = .ok (.iload_n 2, 1) := by decide +kernel
theorem dX3_drawKind_32 : decode cX3_drawKind 32 = .ok (.aload_n 1, 1) := by decide +kernel
theorem dX3_drawKind_33 : decode cX3_drawKind 33 = .ok (.getfield 29, 3) := by decide +kernel
theorem dX3_drawKind_36 : decode cX3_drawKind 36 = .ok (.iload_n 3, 1) := by decide +kernel
theorem dX3_drawKind_37 : decode cX3_drawKind 37 = .ok (.iaload, 1) := by decide +kernel
theorem dX3_drawKind_38 : decode cX3_drawKind 38 = .ok (.isub, 1) := by decide +kernel
theorem dX3_drawKind_39 : decode cX3_drawKind 39 = .ok (.istore_n 2, 1) := by decide +kernel
theorem dX3_drawKind_40 : decode cX3_drawKind 40 = .ok (.iinc 3 1, 3) := by decide +kernel
theorem dX3_drawKind_43 : decode cX3_drawKind 43 = .ok (.goto (-32), 3) := by decide +kernel
theorem dX3_drawKind_46 : decode cX3_drawKind 46 = .ok (.iload_n 3, 1) := by decide +kernel
theorem dX3_drawKind_47 : decode cX3_drawKind 47 = .ok (.ireturn, 1) := by decide +kernel
theorem dX3_drawDeed_0 : decode cX3_drawDeed 0 = .ok (.aload_n 0, 1) := by decide +kernel
theorem dX3_drawDeed_1 : decode cX3_drawDeed 1 = .ok (.bipush 16, 2) := by decide +kernel
theorem dX3_drawDeed_3 : decode cX3_drawDeed 3 = .ok (.invokevirtual 22, 3) := by decide +kernel
theorem dX3_drawDeed_6 : decode cX3_drawDeed 6 = .ok (.istore_n 3, 1) := by decide +kernel
theorem dX3_drawDeed_7 : decode cX3_drawDeed 7 = .ok (.iconst 1, 1) := by decide +kernel
theorem dX3_drawDeed_8 : decode cX3_drawDeed 8 = .ok (.istore 4, 2) := by decide +kernel
theorem dX3_drawDeed_10 : decode cX3_drawDeed 10 = .ok (.iload 4, 2) := by decide +kernel
theorem dX3_drawDeed_12 : decode cX3_drawDeed 12 = .ok (.iconst 4, 1) := by decide +kernel
theorem dX3_drawDeed_13 : decode cX3_drawDeed 13 = .ok (.if_icmp .ge 36, 3) := by decide +kernel
theorem dX3_drawDeed_16 : decode cX3_drawDeed 16 = .ok (.aload_n 1, 1) := by decide +kernel
theorem dX3_drawDeed_17 : decode cX3_drawDeed 17 = .ok (.getfield 33, 3) := by decide +kernel
theorem dX3_drawDeed_20 : decode cX3_drawDeed 20 = .ok (.iload_n 2, 1) := by decide +kernel
theorem dX3_drawDeed_21 : decode cX3_drawDeed 21 = .ok (.iconst 4, 1) := by decide +kernel
theorem dX3_drawDeed_22 : decode cX3_drawDeed 22 = .ok (.imul, 1) := by decide +kernel
theorem dX3_drawDeed_23 : decode cX3_drawDeed 23 = .ok (.iload 4, 2) := by decide +kernel
theorem dX3_drawDeed_25 : decode cX3_drawDeed 25 = .ok (.iadd, 1) := by decide +kernel
theorem dX3_drawDeed_26 : decode cX3_drawDeed 26 = .ok (.iaload, 1) := by decide +kernel
theorem dX3_drawDeed_27 : decode cX3_drawDeed 27 = .ok (.istore 5, 2) := by decide +kernel
theorem dX3_drawDeed_29 : decode cX3_drawDeed 29 = .ok (.iload_n 3, 1) := by decide +kernel
theorem dX3_drawDeed_30 : decode cX3_drawDeed 30 = .ok (.iload 5, 2) := by decide +kernel
theorem dX3_drawDeed_32 : decode cX3_drawDeed 32 = .ok (.if_icmp .ge 6, 3) := by decide +kernel
theorem dX3_drawDeed_35 : decode cX3_drawDeed 35 = .ok (.iload 4, 2) := by decide +kernel
theorem dX3_drawDeed_37 : decode cX3_drawDeed 37 = .ok (.ireturn, 1) := by decide +kernel
theorem dX3_drawDeed_38 : decode cX3_drawDeed 38 = .ok (.iload_n 3, 1) := by decide +kernel
theorem dX3_drawDeed_39 : decode cX3_drawDeed 39 = .ok (.iload 5, 2) := by decide +kernel
theorem dX3_drawDeed_41 : decode cX3_drawDeed 41 = .ok (.isub, 1) := by decide +kernel
theorem dX3_drawDeed_42 : decode cX3_drawDeed 42 = .ok (.istore_n 3, 1) := by decide +kernel
theorem dX3_drawDeed_43 : decode cX3_drawDeed 43 = .ok (.iinc 4 1, 3) := by decide +kernel
theorem dX3_drawDeed_46 : decode cX3_drawDeed 46 = .ok (.goto (-36), 3) := by decide +kernel
theorem dX3_drawDeed_49 : decode cX3_drawDeed 49 = .ok (.iconst 0, 1) := by decide +kernel
theorem dX3_drawDeed_50 : decode cX3_drawDeed 50 = .ok (.ireturn, 1) := by decide +kernel
theorem dX3_playByHand_0 : decode cX3_playByHand 0 = .ok (.aload_n 0, 1) := by decide +kernel
theorem dX3_playByHand_1 : decode cX3_playByHand 1 = .ok (.aload_n 1, 1) := by decide +kernel
theorem dX3_playByHand_2 : decode cX3_playByHand 2 = .ok (.iconst (-1), 1) := by decide +kernel
theorem dX3_playByHand_3 : decode cX3_playByHand 3 = .ok (.invokevirtual 36, 3) := by decide +kernel
theorem dX3_playByHand_6 : decode cX3_playByHand 6 = .ok (.iconst 0, 1) := by decide +kernel
theorem dX3_playByHand_7 : decode cX3_playByHand 7 = .ok (.istore 4, 2) := by decide +kernel
theorem dX3_playByHand_9 : decode cX3_playByHand 9 = .ok (.iload 4, 2) := by decide +kernel
theorem dX3_playByHand_11 : decode cX3_playByHand 11 = .ok (.bipush 12, 2) := by decide +kernel
theorem dX3_playByHand_13 : decode cX3_playByHand 13 = .ok (.if_icmp .ge 44, 3) := by decide +kernel
theorem dX3_playByHand_16 : decode cX3_playByHand 16 = .ok (.aload_n 0, 1) := by decide +kernel
theorem dX3_playByHand_17 : decode cX3_playByHand 17 = .ok (.getfield 40, 3) := by decide +kernel
theorem dX3_playByHand_20 : decode cX3_playByHand 20 = .ok (.iconst (-1), 1) := by decide +kernel
theorem dX3_playByHand_21 : decode cX3_playByHand 21 = .ok (.if_icmp .eq 36, 3) := by decide +kernel
theorem dX3_playByHand_24 : decode cX3_playByHand 24 = .ok (.aload_n 0, 1) := by decide +kernel
theorem dX3_playByHand_25 : decode cX3_playByHand 25 = .ok (.aload_n 1, 1) := by decide +kernel
theorem dX3_playByHand_26 : decode cX3_playByHand 26 = .ok (.iload 4, 2) := by decide +kernel
theorem dX3_playByHand_28 : decode cX3_playByHand 28 = .ok (.iload_n 3, 1) := by decide +kernel
theorem dX3_playByHand_29 : decode cX3_playByHand 29 = .ok (.if_icmp .ge 18, 3) := by decide +kernel
theorem dX3_playByHand_32 : decode cX3_playByHand 32 = .ok (.iload 4, 2) := by decide +kernel
theorem dX3_playByHand_34 : decode cX3_playByHand 34 = .ok (.aload_n 2, 1) := by decide +kernel
theorem dX3_playByHand_35 : decode cX3_playByHand 35 = .ok (.arraylength, 1) := by decide +kernel
theorem dX3_playByHand_36 : decode cX3_playByHand 36 = .ok (.if_icmp .ge 11, 3) := by decide +kernel
theorem dX3_playByHand_39 : decode cX3_playByHand 39 = .ok (.aload_n 2, 1) := by decide +kernel
theorem dX3_playByHand_40 : decode cX3_playByHand 40 = .ok (.iload 4, 2) := by decide +kernel
theorem dX3_playByHand_42 : decode cX3_playByHand 42 = .ok (.laload, 1) := by decide +kernel
theorem dX3_playByHand_43 : decode cX3_playByHand 43 = .ok (.l2i, 1) := by decide +kernel
theorem dX3_playByHand_44 : decode cX3_playByHand 44 = .ok (.goto 4, 3) := by decide +kernel
theorem dX3_playByHand_47 : decode cX3_playByHand 47 = .ok (.iconst 0, 1) := by decide +kernel
theorem dX3_playByHand_48 : decode cX3_playByHand 48 = .ok (.invokevirtual 43, 3) := by decide +kernel
theorem dX3_playByHand_51 : decode cX3_playByHand 51 = .ok (.iinc 4 1, 3) := by decide +kernel
theorem dX3_playByHand_54 : decode cX3_playByHand 54 = .ok (.goto (-45), 3) := by decide +kernel
theorem dX3_playByHand_57 : decode cX3_playByHand 57 = .ok (.return_, 1) := by decide +kernel
theorem dX3_playFor_0 : decode cX3_playFor 0 = .ok (.aload_n 0, 1) := by decide +kernel
theorem dX3_playFor_1 : decode cX3_playFor 1 = .ok (.aload_n 1, 1) := by decide +kernel
theorem dX3_playFor_2 : decode cX3_playFor 2 = .ok (.iload_n 2, 1) := by decide +kernel
theorem dX3_playFor_3 : decode cX3_playFor 3 = .ok (.invokevirtual 36, 3) := by decide +kernel
theorem dX3_playFor_6 : decode cX3_playFor 6 = .ok (.iconst 0, 1) := by decide +kernel
theorem dX3_playFor_7 : decode cX3_playFor 7 = .ok (.istore_n 3, 1) := by decide +kernel
theorem dX3_playFor_8 : decode cX3_playFor 8 = .ok (.iload_n 3, 1) := by decide +kernel
theorem dX3_playFor_9 : decode cX3_playFor 9 = .ok (.bipush 12, 2) := by decide +kernel
theorem dX3_playFor_11 : decode cX3_playFor 11 = .ok (.if_icmp .ge 31, 3) := by decide +kernel
theorem dX3_playFor_14 : decode cX3_playFor 14 = .ok (.aload_n 0, 1) := by decide +kernel
theorem dX3_playFor_15 : decode cX3_playFor 15 = .ok (.getfield 40, 3) := by decide +kernel
theorem dX3_playFor_18 : decode cX3_playFor 18 = .ok (.iconst (-1), 1) := by decide +kernel
theorem dX3_playFor_19 : decode cX3_playFor 19 = .ok (.if_icmp .eq 23, 3) := by decide +kernel
theorem dX3_playFor_22 : decode cX3_playFor 22 = .ok (.aload_n 0, 1) := by decide +kernel
theorem dX3_playFor_23 : decode cX3_playFor 23 = .ok (.aload_n 1, 1) := by decide +kernel
theorem dX3_playFor_24 : decode cX3_playFor 24 = .ok (.aload_n 0, 1) := by decide +kernel
theorem dX3_playFor_25 : decode cX3_playFor 25 = .ok (.aload_n 1, 1) := by decide +kernel
theorem dX3_playFor_26 : decode cX3_playFor 26 = .ok (.getfield 46, 3) := by decide +kernel
theorem dX3_playFor_29 : decode cX3_playFor 29 = .ok (.iload_n 2, 1) := by decide +kernel
theorem dX3_playFor_30 : decode cX3_playFor 30 = .ok (.invokevirtual 52, 3) := by decide +kernel
theorem dX3_playFor_33 : decode cX3_playFor 33 = .ok (.invokevirtual 43, 3) := by decide +kernel
theorem dX3_playFor_36 : decode cX3_playFor 36 = .ok (.iinc 3 1, 3) := by decide +kernel
theorem dX3_playFor_39 : decode cX3_playFor 39 = .ok (.goto (-31), 3) := by decide +kernel
theorem dX3_playFor_42 : decode cX3_playFor 42 = .ok (.return_, 1) := by decide +kernel
theorem dX3_open_0 : decode cX3_open 0 = .ok (.aload_n 0, 1) := by decide +kernel
theorem dX3_open_1 : decode cX3_open 1 = .ok (.iconst 0, 1) := by decide +kernel
theorem dX3_open_2 : decode cX3_open 2 = .ok (.putfield 56, 3) := by decide +kernel
theorem dX3_open_5 : decode cX3_open 5 = .ok (.aload_n 0, 1) := by decide +kernel
theorem dX3_open_6 : decode cX3_open 6 = .ok (.iconst (-1), 1) := by decide +kernel
theorem dX3_open_7 : decode cX3_open 7 = .ok (.putfield 59, 3) := by decide +kernel
theorem dX3_open_10 : decode cX3_open 10 = .ok (.aload_n 0, 1) := by decide +kernel
theorem dX3_open_11 : decode cX3_open 11 = .ok (.iload_n 2, 1) := by decide +kernel
theorem dX3_open_12 : decode cX3_open 12 = .ok (.putfield 62, 3) := by decide +kernel
theorem dX3_open_15 : decode cX3_open 15 = .ok (.aload_n 0, 1) := by decide +kernel
theorem dX3_open_16 : decode cX3_open 16 = .ok (.iconst 0, 1) := by decide +kernel
theorem dX3_open_17 : decode cX3_open 17 = .ok (.putfield 65, 3) := by decide +kernel
theorem dX3_open_20 : decode cX3_open 20 = .ok (.aload_n 0, 1) := by decide +kernel
theorem dX3_open_21 : decode cX3_open 21 = .ok (.aload_n 1, 1) := by decide +kernel
theorem dX3_open_22 : decode cX3_open 22 = .ok (.getfield 68, 3) := by decide +kernel
theorem dX3_open_25 : decode cX3_open 25 = .ok (.putfield 71, 3) := by decide +kernel
theorem dX3_open_28 : decode cX3_open 28 = .ok (.aload_n 0, 1) := by decide +kernel
theorem dX3_open_29 : decode cX3_open 29 = .ok (.aload_n 1, 1) := by decide +kernel
theorem dX3_open_30 : decode cX3_open 30 = .ok (.aload_n 0, 1) := by decide +kernel
theorem dX3_open_31 : decode cX3_open 31 = .ok (.getfield 71, 3) := by decide +kernel
theorem dX3_open_34 : decode cX3_open 34 = .ok (.invokevirtual 74, 3) := by decide +kernel
theorem dX3_open_37 : decode cX3_open 37 = .ok (.putfield 40, 3) := by decide +kernel
theorem dX3_open_40 : decode cX3_open 40 = .ok (.return_, 1) := by decide +kernel
theorem dX3_playScene_0 : decode cX3_playScene 0 = .ok (.aload_n 0, 1) := by decide +kernel
theorem dX3_playScene_1 : decode cX3_playScene 1 = .ok (.dup, 1) := by decide +kernel
theorem dX3_playScene_2 : decode cX3_playScene 2 = .ok (.getfield 56, 3) := by decide +kernel
theorem dX3_playScene_5 : decode cX3_playScene 5 = .ok (.iconst 1, 1) := by decide +kernel
theorem dX3_playScene_6 : decode cX3_playScene 6 = .ok (.aload_n 0, 1) := by decide +kernel
theorem dX3_playScene_7 : decode cX3_playScene 7 = .ok (.getfield 40, 3) := by decide +kernel
theorem dX3_playScene_10 : decode cX3_playScene 10 = .ok (.ishl, 1) := by decide +kernel
theorem dX3_playScene_11 : decode cX3_playScene 11 = .ok (.ior, 1) := by decide +kernel
theorem dX3_playScene_12 : decode cX3_playScene 12 = .ok (.putfield 56, 3) := by decide +kernel
theorem dX3_playScene_15 : decode cX3_playScene 15 = .ok (.aload_n 0, 1) := by decide +kernel
theorem dX3_playScene_16 : decode cX3_playScene 16 = .ok (.aload_n 1, 1) := by decide +kernel
theorem dX3_playScene_17 : decode cX3_playScene 17 = .ok (.getfield 46, 3) := by decide +kernel
theorem dX3_playScene_20 : decode cX3_playScene 20 = .ok (.getfield 77, 3) := by decide +kernel
theorem dX3_playScene_23 : decode cX3_playScene 23 = .ok (.aload_n 0, 1) := by decide +kernel
theorem dX3_playScene_24 : decode cX3_playScene 24 = .ok (.getfield 40, 3) := by decide +kernel
theorem dX3_playScene_27 : decode cX3_playScene 27 = .ok (.iaload, 1) := by decide +kernel
theorem dX3_playScene_28 : decode cX3_playScene 28 = .ok (.putfield 59, 3) := by decide +kernel
theorem dX3_playScene_31 : decode cX3_playScene 31 = .ok (.aload_n 0, 1) := by decide +kernel
theorem dX3_playScene_32 : decode cX3_playScene 32 = .ok (.dup, 1) := by decide +kernel
theorem dX3_playScene_33 : decode cX3_playScene 33 = .ok (.getfield 65, 3) := by decide +kernel
theorem dX3_playScene_36 : decode cX3_playScene 36 = .ok (.aload_n 1, 1) := by decide +kernel
theorem dX3_playScene_37 : decode cX3_playScene 37 = .ok (.getfield 46, 3) := by decide +kernel
theorem dX3_playScene_40 : decode cX3_playScene 40 = .ok (.aload_n 0, 1) := by decide +kernel
theorem dX3_playScene_41 : decode cX3_playScene 41 = .ok (.getfield 40, 3) := by decide +kernel
theorem dX3_playScene_44 : decode cX3_playScene 44 = .ok (.invokevirtual 79, 3) := by decide +kernel
theorem dX3_playScene_47 : decode cX3_playScene 47 = .ok (.iadd, 1) := by decide +kernel
theorem dX3_playScene_48 : decode cX3_playScene 48 = .ok (.putfield 65, 3) := by decide +kernel
theorem dX3_playScene_51 : decode cX3_playScene 51 = .ok (.aload_n 0, 1) := by decide +kernel
theorem dX3_playScene_52 : decode cX3_playScene 52 = .ok (.dup, 1) := by decide +kernel
theorem dX3_playScene_53 : decode cX3_playScene 53 = .ok (.getfield 71, 3) := by decide +kernel
theorem dX3_playScene_56 : decode cX3_playScene 56 = .ok (.aload_n 1, 1) := by decide +kernel
theorem dX3_playScene_57 : decode cX3_playScene 57 = .ok (.getfield 46, 3) := by decide +kernel
theorem dX3_playScene_60 : decode cX3_playScene 60 = .ok (.aload_n 0, 1) := by decide +kernel
theorem dX3_playScene_61 : decode cX3_playScene 61 = .ok (.getfield 40, 3) := by decide +kernel
theorem dX3_playScene_64 : decode cX3_playScene 64 = .ok (.invokevirtual 82, 3) := by decide +kernel
theorem dX3_playScene_67 : decode cX3_playScene 67 = .ok (.ior, 1) := by decide +kernel
theorem dX3_playScene_68 : decode cX3_playScene 68 = .ok (.putfield 71, 3) := by decide +kernel
theorem dX3_playScene_71 : decode cX3_playScene 71 = .ok (.aload_n 0, 1) := by decide +kernel
theorem dX3_playScene_72 : decode cX3_playScene 72 = .ok (.aload_n 1, 1) := by decide +kernel
theorem dX3_playScene_73 : decode cX3_playScene 73 = .ok (.aload_n 0, 1) := by decide +kernel
theorem dX3_playScene_74 : decode cX3_playScene 74 = .ok (.getfield 40, 3) := by decide +kernel
theorem dX3_playScene_77 : decode cX3_playScene 77 = .ok (.iload_n 2, 1) := by decide +kernel
theorem dX3_playScene_78 : decode cX3_playScene 78 = .ok (.aload_n 0, 1) := by decide +kernel
theorem dX3_playScene_79 : decode cX3_playScene 79 = .ok (.getfield 71, 3) := by decide +kernel
theorem dX3_playScene_82 : decode cX3_playScene 82 = .ok (.invokevirtual 85, 3) := by decide +kernel
theorem dX3_playScene_85 : decode cX3_playScene 85 = .ok (.putfield 40, 3) := by decide +kernel
theorem dX3_playScene_88 : decode cX3_playScene 88 = .ok (.return_, 1) := by decide +kernel
theorem dX4_init_0 : decode cX4_init 0 = .ok (.aload_n 0, 1) := by decide +kernel
theorem dX4_init_1 : decode cX4_init 1 = .ok (.invokespecial 3, 3) := by decide +kernel
theorem dX4_init_4 : decode cX4_init 4 = .ok (.aload_n 0, 1) := by decide +kernel
theorem dX4_init_5 : decode cX4_init 5 = .ok (.sipush 768, 3) := by decide +kernel
theorem dX4_init_8 : decode cX4_init 8 = .ok (.newarray .long, 2) := by decide +kernel
theorem dX4_init_10 : decode cX4_init 10 = .ok (.putfield 9, 3) := by decide +kernel
theorem dX4_init_13 : decode cX4_init 13 = .ok (.aload_n 0, 1) := by decide +kernel
theorem dX4_init_14 : decode cX4_init 14 = .ok (.bipush 10, 2) := by decide +kernel
theorem dX4_init_16 : decode cX4_init 16 = .ok (.newarray .long, 2) := by decide +kernel
theorem dX4_init_18 : decode cX4_init 18 = .ok (.putfield 15, 3) := by decide +kernel
theorem dX4_init_21 : decode cX4_init 21 = .ok (.aload_n 0, 1) := by decide +kernel
theorem dX4_init_22 : decode cX4_init 22 = .ok (.bipush 12, 2) := by decide +kernel
theorem dX4_init_24 : decode cX4_init 24 = .ok (.newarray .long, 2) := by decide +kernel
theorem dX4_init_26 : decode cX4_init 26 = .ok (.putfield 18, 3) := by decide +kernel
theorem dX4_init_29 : decode cX4_init 29 = .ok (.return_, 1) := by decide +kernel
theorem dX4_gather_0 : decode cX4_gather 0 = .ok (.aload_n 0, 1) := by decide +kernel
theorem dX4_gather_1 : decode cX4_gather 1 = .ok (.getfield 15, 3) := by decide +kernel
theorem dX4_gather_4 : decode cX4_gather 4 = .ok (.lconst 0, 1) := by decide +kernel
theorem dX4_gather_5 : decode cX4_gather 5 = .ok (.invokestatic 21, 3) := by decide +kernel
theorem dX4_gather_8 : decode cX4_gather 8 = .ok (.aload_n 0, 1) := by decide +kernel
theorem dX4_gather_9 : decode cX4_gather 9 = .ok (.getfield 18, 3) := by decide +kernel
theorem dX4_gather_12 : decode cX4_gather 12 = .ok (.lconst 0, 1) := by decide +kernel
theorem dX4_gather_13 : decode cX4_gather 13 = .ok (.invokestatic 21, 3) := by decide +kernel
theorem dX4_gather_16 : decode cX4_gather 16 = .ok (.aload_n 0, 1) := by decide +kernel
theorem dX4_gather_17 : decode cX4_gather 17 = .ok (.lconst 0, 1) := by decide +kernel
theorem dX4_gather_18 : decode cX4_gather 18 = .ok (.putfield 27, 3) := by decide +kernel
theorem dX4_gather_21 : decode cX4_gather 21 = .ok (.iconst 0, 1) := by decide +kernel
theorem dX4_gather_22 : decode cX4_gather 22 = .ok (.istore 4, 2) := by decide +kernel
theorem dX4_gather_24 : decode cX4_gather 24 = .ok (.iload 4, 2) := by decide +kernel
theorem dX4_gather_26 : decode cX4_gather 26 = .ok (.aload_n 1, 1) := by decide +kernel
theorem dX4_gather_27 : decode cX4_gather 27 = .ok (.getfield 31, 3) := by decide +kernel
theorem dX4_gather_30 : decode cX4_gather 30 = .ok (.getfield 37, 3) := by decide +kernel
theorem dX4_gather_33 : decode cX4_gather 33 = .ok (.if_icmp .ge 57, 3) := by decide +kernel
theorem dX4_gather_36 : decode cX4_gather 36 = .ok (.iload_n 2, 1) := by decide +kernel
theorem dX4_gather_37 : decode cX4_gather 37 = .ok (.iconst (-1), 1) := by decide +kernel
theorem dX4_gather_38 : decode cX4_gather 38 = .ok (.if_icmp .ne 29, 3) := by decide +kernel
theorem dX4_gather_41 : decode cX4_gather 41 = .ok (.aload_n 0, 1) := by decide +kernel
theorem dX4_gather_42 : decode cX4_gather 42 = .ok (.aload_n 1, 1) := by decide +kernel
theorem dX4_gather_43 : decode cX4_gather 43 = .ok (.iload 4, 2) := by decide +kernel
theorem dX4_gather_45 : decode cX4_gather 45 = .ok (.aload_n 1, 1) := by decide +kernel
theorem dX4_gather_46 : decode cX4_gather 46 = .ok (.getfield 31, 3) := by decide +kernel
theorem dX4_gather_49 : decode cX4_gather 49 = .ok (.getfield 43, 3) := by decide +kernel
theorem dX4_gather_52 : decode cX4_gather 52 = .ok (.iload 4, 2) := by decide +kernel
theorem dX4_gather_54 : decode cX4_gather 54 = .ok (.iaload, 1) := by decide +kernel
theorem dX4_gather_55 : decode cX4_gather 55 = .ok (.i2l, 1) := by decide +kernel
theorem dX4_gather_56 : decode cX4_gather 56 = .ok (.ldc2_w 47, 3) := by decide +kernel
theorem dX4_gather_59 : decode cX4_gather 59 = .ok (.lmul, 1) := by decide +kernel
theorem dX4_gather_60 : decode cX4_gather 60 = .ok (.iload_n 3, 1) := by decide +kernel
theorem dX4_gather_61 : decode cX4_gather 61 = .ok (.invokevirtual 49, 3) := by decide +kernel
theorem dX4_gather_64 : decode cX4_gather 64 = .ok (.goto 20, 3) := by decide +kernel
theorem dX4_gather_67 : decode cX4_gather 67 = .ok (.iload_n 2, 1) := by decide +kernel
theorem dX4_gather_68 : decode cX4_gather 68 = .ok (.iload 4, 2) := by decide +kernel
theorem dX4_gather_70 : decode cX4_gather 70 = .ok (.if_icmp .ne 14, 3) := by decide +kernel
theorem dX4_gather_73 : decode cX4_gather 73 = .ok (.aload_n 0, 1) := by decide +kernel
theorem dX4_gather_74 : decode cX4_gather 74 = .ok (.aload_n 1, 1) := by decide +kernel
theorem dX4_gather_75 : decode cX4_gather 75 = .ok (.iload 4, 2) := by decide +kernel
theorem dX4_gather_77 : decode cX4_gather 77 = .ok (.ldc2_w 47, 3) := by decide +kernel
theorem dX4_gather_80 : decode cX4_gather 80 = .ok (.iload_n 3, 1) := by decide +kernel
theorem dX4_gather_81 : decode cX4_gather 81 = .ok (.invokevirtual 49, 3) := by decide +kernel
theorem dX4_gather_84 : decode cX4_gather 84 = .ok (.iinc 4 1, 3) := by decide +kernel
theorem dX4_gather_87 : decode cX4_gather 87 = .ok (.goto (-63), 3) := by decide +kernel
theorem dX4_gather_90 : decode cX4_gather 90 = .ok (.return_, 1) := by decide +kernel
theorem dX4_spread_0 : decode cX4_spread 0 = .ok (.aload_n 0, 1) := by decide +kernel
theorem dX4_spread_1 : decode cX4_spread 1 = .ok (.dup, 1) := by decide +kernel
theorem dX4_spread_2 : decode cX4_spread 2 = .ok (.getfield 27, 3) := by decide +kernel
theorem dX4_spread_5 : decode cX4_spread 5 = .ok (.lload_n 3, 1) := by decide +kernel
theorem dX4_spread_6 : decode cX4_spread 6 = .ok (.ladd, 1) := by decide +kernel
theorem dX4_spread_7 : decode cX4_spread 7 = .ok (.putfield 27, 3) := by decide +kernel
theorem dX4_spread_10 : decode cX4_spread 10 = .ok (.aload_n 1, 1) := by decide +kernel
theorem dX4_spread_11 : decode cX4_spread 11 = .ok (.iload 5, 2) := by decide +kernel
theorem dX4_spread_13 : decode cX4_spread 13 = .ok (.invokevirtual 53, 3) := by decide +kernel
theorem dX4_spread_16 : decode cX4_spread 16 = .ok (.istore 6, 2) := by decide +kernel
theorem dX4_spread_18 : decode cX4_spread 18 = .ok (.iload 6, 2) := by decide +kernel
theorem dX4_spread_20 : decode cX4_spread 20 = .ok (.iconst (-1), 1) := by decide +kernel
theorem dX4_spread_21 : decode cX4_spread 21 = .ok (.if_icmp .ne 4, 3) := by decide +kernel
theorem dX4_spread_24 : decode cX4_spread 24 = .ok (.return_, 1) := by decide +kernel
theorem dX4_spread_25 : decode cX4_spread 25 = .ok (.aload_n 0, 1) := by decide +kernel
theorem dX4_spread_26 : decode cX4_spread 26 = .ok (.getfield 9, 3) := by decide +kernel
theorem dX4_spread_29 : decode cX4_spread 29 = .ok (.iload 6, 2) := by decide +kernel
theorem dX4_spread_31 : decode cX4_spread 31 = .ok (.bipush 64, 2) := by decide +kernel
theorem dX4_spread_33 : decode cX4_spread 33 = .ok (.imul, 1) := by decide +kernel
theorem dX4_spread_34 : decode cX4_spread 34 = .ok (.iload 5, 2) := by decide +kernel
theorem dX4_spread_36 : decode cX4_spread 36 = .ok (.iadd, 1) := by decide +kernel
theorem dX4_spread_37 : decode cX4_spread 37 = .ok (.lload_n 3, 1) := by decide +kernel
theorem dX4_spread_38 : decode cX4_spread 38 = .ok (.lastore, 1) := by decide +kernel
theorem dX4_spread_39 : decode cX4_spread 39 = .ok (.iload 6, 2) := by decide +kernel
theorem dX4_spread_41 : decode cX4_spread 41 = .ok (.istore 7, 2) := by decide +kernel
theorem dX4_spread_43 : decode cX4_spread 43 = .ok (.iload 7, 2) := by decide +kernel
theorem dX4_spread_45 : decode cX4_spread 45 = .ok (.ifCond .lt 53, 3) := by decide +kernel
theorem dX4_spread_48 : decode cX4_spread 48 = .ok (.iconst 0, 1) := by decide +kernel
theorem dX4_spread_49 : decode cX4_spread 49 = .ok (.istore 8, 2) := by decide +kernel
theorem dX4_spread_51 : decode cX4_spread 51 = .ok (.iload 8, 2) := by decide +kernel
theorem dX4_spread_53 : decode cX4_spread 53 = .ok (.bipush 64, 2) := by decide +kernel
theorem dX4_spread_55 : decode cX4_spread 55 = .ok (.if_icmp .ge 37, 3) := by decide +kernel
theorem dX4_spread_58 : decode cX4_spread 58 = .ok (.aload_n 0, 1) := by decide +kernel
theorem dX4_spread_59 : decode cX4_spread 59 = .ok (.getfield 9, 3) := by decide +kernel
theorem dX4_spread_62 : decode cX4_spread 62 = .ok (.iload 7, 2) := by decide +kernel
theorem dX4_spread_64 : decode cX4_spread 64 = .ok (.bipush 64, 2) := by decide +kernel
theorem dX4_spread_66 : decode cX4_spread 66 = .ok (.imul, 1) := by decide +kernel
theorem dX4_spread_67 : decode cX4_spread 67 = .ok (.iload 8, 2) := by decide +kernel
theorem dX4_spread_69 : decode cX4_spread 69 = .ok (.iadd, 1) := by decide +kernel
theorem dX4_spread_70 : decode cX4_spread 70 = .ok (.laload, 1) := by decide +kernel
theorem dX4_spread_71 : decode cX4_spread 71 = .ok (.lconst 0, 1) := by decide +kernel
theorem dX4_spread_72 : decode cX4_spread 72 = .ok (.lcmp, 1) := by decide +kernel
theorem dX4_spread_73 : decode cX4_spread 73 = .ok (.ifCond .eq 13, 3) := by decide +kernel
theorem dX4_spread_76 : decode cX4_spread 76 = .ok (.aload_n 0, 1) := by decide +kernel
theorem dX4_spread_77 : decode cX4_spread 77 = .ok (.aload_n 1, 1) := by decide +kernel
theorem dX4_spread_78 : decode cX4_spread 78 = .ok (.iload_n 2, 1) := by decide +kernel
theorem dX4_spread_79 : decode cX4_spread 79 = .ok (.iload 7, 2) := by decide +kernel
theorem dX4_spread_81 : decode cX4_spread 81 = .ok (.iload 8, 2) := by decide +kernel
theorem dX4_spread_83 : decode cX4_spread 83 = .ok (.invokevirtual 57, 3) := by decide +kernel
theorem dX4_spread_86 : decode cX4_spread 86 = .ok (.iinc 8 1, 3) := by decide +kernel
theorem dX4_spread_89 : decode cX4_spread 89 = .ok (.goto (-38), 3) := by decide +kernel
theorem dX4_spread_92 : decode cX4_spread 92 = .ok (.iinc 7 (-1), 3) := by decide +kernel
theorem dX4_spread_95 : decode cX4_spread 95 = .ok (.goto (-52), 3) := by decide +kernel
theorem dX4_spread_98 : decode cX4_spread 98 = .ok (.return_, 1) := by decide +kernel
theorem dX4_passOn_0 : decode cX4_passOn 0 = .ok (.aload_n 0, 1) := by decide +kernel
theorem dX4_passOn_1 : decode cX4_passOn 1 = .ok (.getfield 9, 3) := by decide +kernel
theorem dX4_passOn_4 : decode cX4_passOn 4 = .ok (.iload_n 3, 1) := by decide +kernel
theorem dX4_passOn_5 : decode cX4_passOn 5 = .ok (.bipush 64, 2) := by decide +kernel
theorem dX4_passOn_7 : decode cX4_passOn 7 = .ok (.imul, 1) := by decide +kernel
theorem dX4_passOn_8 : decode cX4_passOn 8 = .ok (.iload 4, 2) := by decide +kernel
theorem dX4_passOn_10 : decode cX4_passOn 10 = .ok (.iadd, 1) := by decide +kernel
theorem dX4_passOn_11 : decode cX4_passOn 11 = .ok (.laload, 1) := by decide +kernel
theorem dX4_passOn_12 : decode cX4_passOn 12 = .ok (.lstore 5, 2) := by decide +kernel
theorem dX4_passOn_14 : decode cX4_passOn 14 = .ok (.aload_n 0, 1) := by decide +kernel
theorem dX4_passOn_15 : decode cX4_passOn 15 = .ok (.getfield 9, 3) := by decide +kernel
theorem dX4_passOn_18 : decode cX4_passOn 18 = .ok (.iload_n 3, 1) := by decide +kernel
theorem dX4_passOn_19 : decode cX4_passOn 19 = .ok (.bipush 64, 2) := by decide +kernel
theorem dX4_passOn_21 : decode cX4_passOn 21 = .ok (.imul, 1) := by decide +kernel
theorem dX4_passOn_22 : decode cX4_passOn 22 = .ok (.iload 4, 2) := by decide +kernel
theorem dX4_passOn_24 : decode cX4_passOn 24 = .ok (.iadd, 1) := by decide +kernel
theorem dX4_passOn_25 : decode cX4_passOn 25 = .ok (.lconst 0, 1) := by decide +kernel
theorem dX4_passOn_26 : decode cX4_passOn 26 = .ok (.lastore, 1) := by decide +kernel
theorem dX4_passOn_27 : decode cX4_passOn 27 = .ok (.aload_n 0, 1) := by decide +kernel
theorem dX4_passOn_28 : decode cX4_passOn 28 = .ok (.getfield 18, 3) := by decide +kernel
theorem dX4_passOn_31 : decode cX4_passOn 31 = .ok (.iload_n 3, 1) := by decide +kernel
theorem dX4_passOn_32 : decode cX4_passOn 32 = .ok (.dup2, 1) := by decide +kernel
theorem dX4_passOn_33 : decode cX4_passOn 33 = .ok (.laload, 1) := by decide +kernel
theorem dX4_passOn_34 : decode cX4_passOn 34 = .ok (.lload 5, 2) := by decide +kernel
theorem dX4_passOn_36 : decode cX4_passOn 36 = .ok (.ladd, 1) := by decide +kernel
theorem dX4_passOn_37 : decode cX4_passOn 37 = .ok (.lastore, 1) := by decide +kernel
theorem dX4_passOn_38 : decode cX4_passOn 38 = .ok (.iload 4, 2) := by decide +kernel
theorem dX4_passOn_40 : decode cX4_passOn 40 = .ok (.aload_n 1, 1) := by decide +kernel
theorem dX4_passOn_41 : decode cX4_passOn 41 = .ok (.getfield 31, 3) := by decide +kernel
theorem dX4_passOn_44 : decode cX4_passOn 44 = .ok (.iload_n 3, 1) := by decide +kernel
theorem dX4_passOn_45 : decode cX4_passOn 45 = .ok (.invokevirtual 61, 3) := by decide +kernel
theorem dX4_passOn_48 : decode cX4_passOn 48 = .ok (.ior, 1) := by decide +kernel
theorem dX4_passOn_49 : decode cX4_passOn 49 = .ok (.istore 7, 2) := by decide +kernel
theorem dX4_passOn_51 : decode cX4_passOn 51 = .ok (.iconst 0, 1) := by decide +kernel
theorem dX4_passOn_52 : decode cX4_passOn 52 = .ok (.istore 8, 2) := by decide +kernel
theorem dX4_passOn_54 : decode cX4_passOn 54 = .ok (.iconst 0, 1) := by decide +kernel
theorem dX4_passOn_55 : decode cX4_passOn 55 = .ok (.istore 9, 2) := by decide +kernel
theorem dX4_passOn_57 : decode cX4_passOn 57 = .ok (.iload 9, 2) := by decide +kernel
theorem dX4_passOn_59 : decode cX4_passOn 59 = .ok (.iconst 4, 1) := by decide +kernel
theorem dX4_passOn_60 : decode cX4_passOn 60 = .ok (.if_icmp .ge 78, 3) := by decide +kernel
theorem dX4_passOn_63 : decode cX4_passOn 63 = .ok (.aload_n 1, 1) := by decide +kernel
theorem dX4_passOn_64 : decode cX4_passOn 64 = .ok (.getfield 31, 3) := by decide +kernel
theorem dX4_passOn_67 : decode cX4_passOn 67 = .ok (.getfield 64, 3) := by decide +kernel
theorem dX4_passOn_70 : decode cX4_passOn 70 = .ok (.iload_n 2, 1) := by decide +kernel
theorem dX4_passOn_71 : decode cX4_passOn 71 = .ok (.iconst 4, 1) := by decide +kernel
theorem dX4_passOn_72 : decode cX4_passOn 72 = .ok (.imul, 1) := by decide +kernel
theorem dX4_passOn_73 : decode cX4_passOn 73 = .ok (.iload 9, 2) := by decide +kernel
theorem dX4_passOn_75 : decode cX4_passOn 75 = .ok (.iadd, 1) := by decide +kernel
theorem dX4_passOn_76 : decode cX4_passOn 76 = .ok (.iaload, 1) := by decide +kernel
theorem dX4_passOn_77 : decode cX4_passOn 77 = .ok (.istore 10, 2) := by decide +kernel
theorem dX4_passOn_79 : decode cX4_passOn 79 = .ok (.aload_n 1, 1) := by decide +kernel
theorem dX4_passOn_80 : decode cX4_passOn 80 = .ok (.iload_n 3, 1) := by decide +kernel
theorem dX4_passOn_81 : decode cX4_passOn 81 = .ok (.iload 9, 2) := by decide +kernel
theorem dX4_passOn_83 : decode cX4_passOn 83 = .ok (.iload 7, 2) := by decide +kernel
theorem dX4_passOn_85 : decode cX4_passOn 85 = .ok (.invokevirtual 67, 3) := by decide +kernel
theorem dX4_passOn_88 : decode cX4_passOn 88 = .ok (.istore 11, 2) := by decide +kernel
theorem dX4_passOn_90 : decode cX4_passOn 90 = .ok (.iload 11, 2) := by decide +kernel
theorem dX4_passOn_92 : decode cX4_passOn 92 = .ok (.iconst (-1), 1) := by decide +kernel
theorem dX4_passOn_93 : decode cX4_passOn 93 = .ok (.if_icmp .ne 13, 3) := by decide +kernel
theorem dX4_passOn_96 : decode cX4_passOn 96 = .ok (.iload 8, 2) := by decide +kernel
theorem dX4_passOn_98 : decode cX4_passOn 98 = .ok (.iload 10, 2) := by decide +kernel
theorem dX4_passOn_100 : decode cX4_passOn 100 = .ok (.iadd, 1) := by decide +kernel
theorem dX4_passOn_101 : decode cX4_passOn 101 = .ok (.istore 8, 2) := by decide +kernel
theorem dX4_passOn_103 : decode cX4_passOn 103 = .ok (.goto 29, 3) := by decide +kernel
theorem dX4_passOn_106 : decode cX4_passOn 106 = .ok (.aload_n 0, 1) := by decide +kernel
theorem dX4_passOn_107 : decode cX4_passOn 107 = .ok (.getfield 9, 3) := by decide +kernel
theorem dX4_passOn_110 : decode cX4_passOn 110 = .ok (.iload 11, 2) := by decide +kernel
theorem dX4_passOn_112 : decode cX4_passOn 112 = .ok (.bipush 64, 2) := by decide +kernel
theorem dX4_passOn_114 : decode cX4_passOn 114 = .ok (.imul, 1) := by decide +kernel
theorem dX4_passOn_115 : decode cX4_passOn 115 = .ok (.iload 7, 2) := by decide +kernel
theorem dX4_passOn_117 : decode cX4_passOn 117 = .ok (.iadd, 1) := by decide +kernel
theorem dX4_passOn_118 : decode cX4_passOn 118 = .ok (.dup2, 1) := by decide +kernel
theorem dX4_passOn_119 : decode cX4_passOn 119 = .ok (.laload, 1) := by decide +kernel
theorem dX4_passOn_120 : decode cX4_passOn 120 = .ok (.lload 5, 2) := by decide +kernel
theorem dX4_passOn_122 : decode cX4_passOn 122 = .ok (.ldc2_w 71, 3) := by decide +kernel
theorem dX4_passOn_125 : decode cX4_passOn 125 = .ok (.ldiv, 1) := by decide +kernel
theorem dX4_passOn_126 : decode cX4_passOn 126 = .ok (.iload 10, 2) := by decide +kernel
theorem dX4_passOn_128 : decode cX4_passOn 128 = .ok (.i2l, 1) := by decide +kernel
theorem dX4_passOn_129 : decode cX4_passOn 129 = .ok (.lmul, 1) := by decide +kernel
theorem dX4_passOn_130 : decode cX4_passOn 130 = .ok (.ladd, 1) := by decide +kernel
theorem dX4_passOn_131 : decode cX4_passOn 131 = .ok (.lastore, 1) := by decide +kernel
theorem dX4_passOn_132 : decode cX4_passOn 132 = .ok (.iinc 9 1, 3) := by decide +kernel
theorem dX4_passOn_135 : decode cX4_passOn 135 = .ok (.goto (-78), 3) := by decide +kernel
theorem dX4_passOn_138 : decode cX4_passOn 138 = .ok (.aload_n 0, 1) := by decide +kernel
theorem dX4_passOn_139 : decode cX4_passOn 139 = .ok (.getfield 15, 3) := by decide +kernel
theorem dX4_passOn_142 : decode cX4_passOn 142 = .ok (.aload_n 1, 1) := by decide +kernel
theorem dX4_passOn_143 : decode cX4_passOn 143 = .ok (.getfield 31, 3) := by decide +kernel
theorem dX4_passOn_146 : decode cX4_passOn 146 = .ok (.iload_n 3, 1) := by decide +kernel
theorem dX4_passOn_147 : decode cX4_passOn 147 = .ok (.invokevirtual 73, 3) := by decide +kernel
theorem dX4_passOn_150 : decode cX4_passOn 150 = .ok (.dup2, 1) := by decide +kernel
theorem dX4_passOn_151 : decode cX4_passOn 151 = .ok (.laload, 1) := by decide +kernel
theorem dX4_passOn_152 : decode cX4_passOn 152 = .ok (.iload 8, 2) := by decide +kernel
theorem dX4_passOn_154 : decode cX4_passOn 154 = .ok (.bipush 16, 2) := by decide +kernel
theorem dX4_passOn_156 : decode cX4_passOn 156 = .ok (.if_icmp .ne 8, 3) := by decide +kernel
theorem dX4_passOn_159 : decode cX4_passOn 159 = .ok (.lload 5, 2) := by decide +kernel
theorem dX4_passOn_161 : decode cX4_passOn 161 = .ok (.goto 13, 3) := by decide +kernel
theorem dX4_passOn_164 : decode cX4_passOn 164 = .ok (.lload 5, 2) := by decide +kernel
theorem dX4_passOn_166 : decode cX4_passOn 166 = .ok (.ldc2_w 71, 3) := by decide +kernel
theorem dX4_passOn_169 : decode cX4_passOn 169 = .ok (.ldiv, 1) := by decide +kernel
theorem dX4_passOn_170 : decode cX4_passOn 170 = .ok (.iload 8, 2) := by decide +kernel
theorem dX4_passOn_172 : decode cX4_passOn 172 = .ok (.i2l, 1) := by decide +kernel
theorem dX4_passOn_173 : decode cX4_passOn 173 = .ok (.lmul, 1) := by decide +kernel
theorem dX4_passOn_174 : decode cX4_passOn 174 = .ok (.ladd, 1) := by decide +kernel
theorem dX4_passOn_175 : decode cX4_passOn 175 = .ok (.lastore, 1) := by decide +kernel
theorem dX4_passOn_176 : decode cX4_passOn 176 = .ok (.return_, 1) := by decide +kernel
theorem dX4_breathsInAll_0 : decode cX4_breathsInAll 0 = .ok (.lconst 0, 1) := by decide +kernel
theorem dX4_breathsInAll_1 : decode cX4_breathsInAll 1 = .ok (.lstore_n 2, 1) := by decide +kernel
theorem dX4_breathsInAll_2 : decode cX4_breathsInAll 2 = .ok (.iconst 0, 1) := by decide +kernel
theorem dX4_breathsInAll_3 : decode cX4_breathsInAll 3 = .ok (.istore 4, 2) := by decide +kernel
theorem dX4_breathsInAll_5 : decode cX4_breathsInAll 5 = .ok (.iload 4, 2) := by decide +kernel
theorem dX4_breathsInAll_7 : decode cX4_breathsInAll 7 = .ok (.aload_n 1, 1) := by decide +kernel
theorem dX4_breathsInAll_8 : decode cX4_breathsInAll 8 = .ok (.getfield 76, 3) := by decide +kernel
theorem dX4_breathsInAll_11 : decode cX4_breathsInAll 11 = .ok (.if_icmp .ge 27, 3) := by decide +kernel
theorem dX4_breathsInAll_14 : decode cX4_breathsInAll 14 = .ok (.lload_n 2, 1) := by decide +kernel
theorem dX4_breathsInAll_15 : decode cX4_breathsInAll 15 = .ok (.aload_n 0, 1) := by decide +kernel
theorem dX4_breathsInAll_16 : decode cX4_breathsInAll 16 = .ok (.getfield 18, 3) := by decide +kernel
theorem dX4_breathsInAll_19 : decode cX4_breathsInAll 19 = .ok (.iload 4, 2) := by decide +kernel
theorem dX4_breathsInAll_21 : decode cX4_breathsInAll 21 = .ok (.laload, 1) := by decide +kernel
theorem dX4_breathsInAll_22 : decode cX4_breathsInAll 22 = .ok (.aload_n 1, 1) := by decide +kernel
theorem dX4_breathsInAll_23 : decode cX4_breathsInAll 23 = .ok (.iload 4, 2) := by decide +kernel
theorem dX4_breathsInAll_25 : decode cX4_breathsInAll 25 = .ok (.invokevirtual 79, 3) := by decide +kernel
theorem dX4_breathsInAll_28 : decode cX4_breathsInAll 28 = .ok (.i2l, 1) := by decide +kernel
theorem dX4_breathsInAll_29 : decode cX4_breathsInAll 29 = .ok (.lmul, 1) := by decide +kernel
theorem dX4_breathsInAll_30 : decode cX4_breathsInAll 30 = .ok (.ladd, 1) := by decide +kernel
theorem dX4_breathsInAll_31 : decode cX4_breathsInAll 31 = .ok (.lstore_n 2, 1) := by decide +kernel
theorem dX4_breathsInAll_32 : decode cX4_breathsInAll 32 = .ok (.iinc 4 1, 3) := by decide +kernel
theorem dX4_breathsInAll_35 : decode cX4_breathsInAll 35 = .ok (.goto (-30), 3) := by decide +kernel
theorem dX4_breathsInAll_38 : decode cX4_breathsInAll 38 = .ok (.lload_n 2, 1) := by decide +kernel
theorem dX4_breathsInAll_39 : decode cX4_breathsInAll 39 = .ok (.lreturn, 1) := by decide +kernel
theorem dX5_init_0 : decode cX5_init 0 = .ok (.aload_n 0, 1) := by decide +kernel
theorem dX5_init_1 : decode cX5_init 1 = .ok (.invokespecial 3, 3) := by decide +kernel
theorem dX5_init_4 : decode cX5_init 4 = .ok (.aload_n 0, 1) := by decide +kernel
theorem dX5_init_5 : decode cX5_init 5 = .ok (.sipush 900, 3) := by decide +kernel
theorem dX5_init_8 : decode cX5_init 8 = .ok (.newarray .byte, 2) := by decide +kernel
theorem dX5_init_10 : decode cX5_init 10 = .ok (.putfield 9, 3) := by decide +kernel
theorem dX5_init_13 : decode cX5_init 13 = .ok (.aload_n 0, 1) := by decide +kernel
theorem dX5_init_14 : decode cX5_init 14 = .ok (.bipush 32, 2) := by decide +kernel
theorem dX5_init_16 : decode cX5_init 16 = .ok (.newarray .long, 2) := by decide +kernel
theorem dX5_init_18 : decode cX5_init 18 = .ok (.putfield 15, 3) := by decide +kernel
theorem dX5_init_21 : decode cX5_init 21 = .ok (.iconst 0, 1) := by decide +kernel
theorem dX5_init_22 : decode cX5_init 22 = .ok (.istore_n 1, 1) := by decide +kernel
theorem dX5_init_23 : decode cX5_init 23 = .ok (.lconst 0, 1) := by decide +kernel
theorem dX5_init_24 : decode cX5_init 24 = .ok (.lstore_n 2, 1) := by decide +kernel
theorem dX5_init_25 : decode cX5_init 25 = .ok (.iconst 0, 1) := by decide +kernel
theorem dX5_init_26 : decode cX5_init 26 = .ok (.istore 4, 2) := by decide +kernel
theorem dX5_init_28 : decode cX5_init 28 = .ok (.iload 4, 2) := by decide +kernel
theorem dX5_init_30 : decode cX5_init 30 = .ok (.ldc 19, 2) := by decide +kernel
theorem dX5_init_32 : decode cX5_init 32 = .ok (.invokevirtual 21, 3) := by decide +kernel
theorem dX5_init_35 : decode cX5_init 35 = .ok (.if_icmp .ge 53, 3) := by decide +kernel
theorem dX5_init_38 : decode cX5_init 38 = .ok (.iload_n 1, 1) := by decide +kernel
theorem dX5_init_39 : decode cX5_init 39 = .ok (.bipush 32, 2) := by decide +kernel
theorem dX5_init_41 : decode cX5_init 41 = .ok (.if_icmp .ge 47, 3) := by decide +kernel
theorem dX5_init_44 : decode cX5_init 44 = .ok (.ldc 19, 2) := by decide +kernel
theorem dX5_init_46 : decode cX5_init 46 = .ok (.iload 4, 2) := by decide +kernel
theorem dX5_init_48 : decode cX5_init 48 = .ok (.invokevirtual 27, 3) := by decide +kernel
theorem dX5_init_51 : decode cX5_init 51 = .ok (.istore 5, 2) := by decide +kernel
theorem dX5_init_53 : decode cX5_init 53 = .ok (.iload 5, 2) := by decide +kernel
theorem dX5_init_55 : decode cX5_init 55 = .ok (.bipush 32, 2) := by decide +kernel
theorem dX5_init_57 : decode cX5_init 57 = .ok (.if_icmp .ne 18, 3) := by decide +kernel
theorem dX5_init_60 : decode cX5_init 60 = .ok (.aload_n 0, 1) := by decide +kernel
theorem dX5_init_61 : decode cX5_init 61 = .ok (.getfield 15, 3) := by decide +kernel
theorem dX5_init_64 : decode cX5_init 64 = .ok (.iload_n 1, 1) := by decide +kernel
theorem dX5_init_65 : decode cX5_init 65 = .ok (.iinc 1 1, 3) := by decide +kernel
theorem dX5_init_68 : decode cX5_init 68 = .ok (.lload_n 2, 1) := by decide +kernel
theorem dX5_init_69 : decode cX5_init 69 = .ok (.lastore, 1) := by decide +kernel
theorem dX5_init_70 : decode cX5_init 70 = .ok (.lconst 0, 1) := by decide +kernel
theorem dX5_init_71 : decode cX5_init 71 = .ok (.lstore_n 2, 1) := by decide +kernel
theorem dX5_init_72 : decode cX5_init 72 = .ok (.goto 10, 3) := by decide +kernel
theorem dX5_init_75 : decode cX5_init 75 = .ok (.lload_n 2, 1) := by decide +kernel
theorem dX5_init_76 : decode cX5_init 76 = .ok (.iload 5, 2) := by decide +kernel
theorem dX5_init_78 : decode cX5_init 78 = .ok (.invokestatic 31, 3) := by decide +kernel
theorem dX5_init_81 : decode cX5_init 81 = .ok (.lstore_n 2, 1) := by decide +kernel
theorem dX5_init_82 : decode cX5_init 82 = .ok (.iinc 4 1, 3) := by decide +kernel
theorem dX5_init_85 : decode cX5_init 85 = .ok (.goto (-57), 3) := by decide +kernel
theorem dX5_init_88 : decode cX5_init 88 = .ok (.return_, 1) := by decide +kernel
theorem dX5_withLetter_0 : decode cX5_withLetter 0 = .ok (.lload_n 0, 1) := by decide +kernel
theorem dX5_withLetter_1 : decode cX5_withLetter 1 = .ok (.iconst 5, 1) := by decide +kernel
theorem dX5_withLetter_2 : decode cX5_withLetter 2 = .ok (.lshl, 1) := by decide +kernel
theorem dX5_withLetter_3 : decode cX5_withLetter 3 = .ok (.iload_n 2, 1) := by decide +kernel
theorem dX5_withLetter_4 : decode cX5_withLetter 4 = .ok (.bipush 97, 2) := by decide +kernel
theorem dX5_withLetter_6 : decode cX5_withLetter 6 = .ok (.isub, 1) := by decide +kernel
theorem dX5_withLetter_7 : decode cX5_withLetter 7 = .ok (.iconst 1, 1) := by decide +kernel
theorem dX5_withLetter_8 : decode cX5_withLetter 8 = .ok (.iadd, 1) := by decide +kernel
theorem dX5_withLetter_9 : decode cX5_withLetter 9 = .ok (.i2l, 1) := by decide +kernel
theorem dX5_withLetter_10 : decode cX5_withLetter 10 = .ok (.lor, 1) := by decide +kernel
theorem dX5_withLetter_11 : decode cX5_withLetter 11 = .ok (.lreturn, 1) := by decide +kernel
theorem dX5_putFour_0 : decode cX5_putFour 0 = .ok (.bipush 24, 2) := by decide +kernel
theorem dX5_putFour_2 : decode cX5_putFour 2 = .ok (.istore_n 2, 1) := by decide +kernel
theorem dX5_putFour_3 : decode cX5_putFour 3 = .ok (.iload_n 2, 1) := by decide +kernel
theorem dX5_putFour_4 : decode cX5_putFour 4 = .ok (.ifCond .lt 39, 3) := by decide +kernel
theorem dX5_putFour_7 : decode cX5_putFour 7 = .ok (.aload_n 0, 1) := by decide +kernel
theorem dX5_putFour_8 : decode cX5_putFour 8 = .ok (.getfield 35, 3) := by decide +kernel
theorem dX5_putFour_11 : decode cX5_putFour 11 = .ok (.sipush 900, 3) := by decide +kernel
theorem dX5_putFour_14 : decode cX5_putFour 14 = .ok (.if_icmp .ge 29, 3) := by decide +kernel
theorem dX5_putFour_17 : decode cX5_putFour 17 = .ok (.aload_n 0, 1) := by decide +kernel
theorem dX5_putFour_18 : decode cX5_putFour 18 = .ok (.getfield 9, 3) := by decide +kernel
theorem dX5_putFour_21 : decode cX5_putFour 21 = .ok (.aload_n 0, 1) := by decide +kernel
theorem dX5_putFour_22 : decode cX5_putFour 22 = .ok (.dup, 1) := by decide +kernel
theorem dX5_putFour_23 : decode cX5_putFour 23 = .ok (.getfield 35, 3) := by decide +kernel
theorem dX5_putFour_26 : decode cX5_putFour 26 = .ok (.dup_x1, 1) := by decide +kernel
theorem dX5_putFour_27 : decode cX5_putFour 27 = .ok (.iconst 1, 1) := by decide +kernel
theorem dX5_putFour_28 : decode cX5_putFour 28 = .ok (.iadd, 1) := by decide +kernel
theorem dX5_putFour_29 : decode cX5_putFour 29 = .ok (.putfield 35, 3) := by decide +kernel
theorem dX5_putFour_32 : decode cX5_putFour 32 = .ok (.iload_n 1, 1) := by decide +kernel
theorem dX5_putFour_33 : decode cX5_putFour 33 = .ok (.iload_n 2, 1) := by decide +kernel
theorem dX5_putFour_34 : decode cX5_putFour 34 = .ok (.ishr, 1) := by decide +kernel
theorem dX5_putFour_35 : decode cX5_putFour 35 = .ok (.i2b, 1) := by decide +kernel
theorem dX5_putFour_36 : decode cX5_putFour 36 = .ok (.bastore, 1) := by decide +kernel
theorem dX5_putFour_37 : decode cX5_putFour 37 = .ok (.iinc 2 (-8), 3) := by decide +kernel
theorem dX5_putFour_40 : decode cX5_putFour 40 = .ok (.goto (-37), 3) := by decide +kernel
theorem dX5_putFour_43 : decode cX5_putFour 43 = .ok (.return_, 1) := by decide +kernel
theorem dX5_start_0 : decode cX5_start 0 = .ok (.aload_n 0, 1) := by decide +kernel
theorem dX5_start_1 : decode cX5_start 1 = .ok (.iconst 0, 1) := by decide +kernel
theorem dX5_start_2 : decode cX5_start 2 = .ok (.iload_n 1, 1) := by decide +kernel
theorem dX5_start_3 : decode cX5_start 3 = .ok (.sipush 900, 3) := by decide +kernel
theorem dX5_start_6 : decode cX5_start 6 = .ok (.invokestatic 39, 3) := by decide +kernel
theorem dX5_start_9 : decode cX5_start 9 = .ok (.invokestatic 45, 3) := by decide +kernel
theorem dX5_start_12 : decode cX5_start 12 = .ok (.putfield 48, 3) := by decide +kernel
theorem dX5_start_15 : decode cX5_start 15 = .ok (.aload_n 0, 1) := by decide +kernel
theorem dX5_start_16 : decode cX5_start 16 = .ok (.iconst 0, 1) := by decide +kernel
theorem dX5_start_17 : decode cX5_start 17 = .ok (.putfield 35, 3) := by decide +kernel
theorem dX5_start_20 : decode cX5_start 20 = .ok (.aload_n 0, 1) := by decide +kernel
theorem dX5_start_21 : decode cX5_start 21 = .ok (.iconst 0, 1) := by decide +kernel
theorem dX5_start_22 : decode cX5_start 22 = .ok (.putfield 51, 3) := by decide +kernel
theorem dX5_start_25 : decode cX5_start 25 = .ok (.aload_n 0, 1) := by decide +kernel
theorem dX5_start_26 : decode cX5_start 26 = .ok (.iconst 0, 1) := by decide +kernel
theorem dX5_start_27 : decode cX5_start 27 = .ok (.putfield 54, 3) := by decide +kernel
theorem dX5_start_30 : decode cX5_start 30 = .ok (.aload_n 0, 1) := by decide +kernel
theorem dX5_start_31 : decode cX5_start 31 = .ok (.iconst (-1), 1) := by decide +kernel
theorem dX5_start_32 : decode cX5_start 32 = .ok (.putfield 57, 3) := by decide +kernel
theorem dX5_start_35 : decode cX5_start 35 = .ok (.aload_n 0, 1) := by decide +kernel
theorem dX5_start_36 : decode cX5_start 36 = .ok (.invokevirtual 60, 3) := by decide +kernel
theorem dX5_start_39 : decode cX5_start 39 = .ok (.return_, 1) := by decide +kernel
theorem dX5_advance_0 : decode cX5_advance 0 = .ok (.aload_n 0, 1) := by decide +kernel
theorem dX5_advance_1 : decode cX5_advance 1 = .ok (.getfield 51, 3) := by decide +kernel
theorem dX5_advance_4 : decode cX5_advance 4 = .ok (.aload_n 0, 1) := by decide +kernel
theorem dX5_advance_5 : decode cX5_advance 5 = .ok (.getfield 48, 3) := by decide +kernel
theorem dX5_advance_8 : decode cX5_advance 8 = .ok (.if_icmp .ge 44, 3) := by decide +kernel
theorem dX5_advance_11 : decode cX5_advance 11 = .ok (.aload_n 0, 1) := by decide +kernel
theorem dX5_advance_12 : decode cX5_advance 12 = .ok (.getfield 9, 3) := by decide +kernel
theorem dX5_advance_15 : decode cX5_advance 15 = .ok (.aload_n 0, 1) := by decide +kernel
theorem dX5_advance_16 : decode cX5_advance 16 = .ok (.getfield 51, 3) := by decide +kernel
theorem dX5_advance_19 : decode cX5_advance 19 = .ok (.baload, 1) := by decide +kernel
theorem dX5_advance_20 : decode cX5_advance 20 = .ok (.bipush 32, 2) := by decide +kernel
theorem dX5_advance_22 : decode cX5_advance 22 = .ok (.if_icmp .eq 17, 3) := by decide +kernel
theorem dX5_advance_25 : decode cX5_advance 25 = .ok (.aload_n 0, 1) := by decide +kernel
theorem dX5_advance_26 : decode cX5_advance 26 = .ok (.getfield 9, 3) := by decide +kernel
theorem dX5_advance_29 : decode cX5_advance 29 = .ok (.aload_n 0, 1) := by decide +kernel
theorem dX5_advance_30 : decode cX5_advance 30 = .ok (.getfield 51, 3) := by decide +kernel
theorem dX5_advance_33 : decode cX5_advance 33 = .ok (.baload, 1) := by decide +kernel
theorem dX5_advance_34 : decode cX5_advance 34 = .ok (.bipush 10, 2) := by decide +kernel
theorem dX5_advance_36 : decode cX5_advance 36 = .ok (.if_icmp .ne 16, 3) := by decide +kernel
theorem dX5_advance_39 : decode cX5_advance 39 = .ok (.aload_n 0, 1) := by decide +kernel
theorem dX5_advance_40 : decode cX5_advance 40 = .ok (.dup, 1) := by decide +kernel
theorem dX5_advance_41 : decode cX5_advance 41 = .ok (.getfield 51, 3) := by decide +kernel
theorem dX5_advance_44 : decode cX5_advance 44 = .ok (.iconst 1, 1) := by decide +kernel
theorem dX5_advance_45 : decode cX5_advance 45 = .ok (.iadd, 1) := by decide +kernel
theorem dX5_advance_46 : decode cX5_advance 46 = .ok (.putfield 51, 3) := by decide +kernel
theorem dX5_advance_49 : decode cX5_advance 49 = .ok (.goto (-49), 3) := by decide +kernel
theorem dX5_advance_52 : decode cX5_advance 52 = .ok (.aload_n 0, 1) := by decide +kernel
theorem dX5_advance_53 : decode cX5_advance 53 = .ok (.aload_n 0, 1) := by decide +kernel
theorem dX5_advance_54 : decode cX5_advance 54 = .ok (.getfield 51, 3) := by decide +kernel
theorem dX5_advance_57 : decode cX5_advance 57 = .ok (.putfield 63, 3) := by decide +kernel
theorem dX5_advance_60 : decode cX5_advance 60 = .ok (.aload_n 0, 1) := by decide +kernel
theorem dX5_advance_61 : decode cX5_advance 61 = .ok (.getfield 63, 3) := by decide +kernel
theorem dX5_advance_64 : decode cX5_advance 64 = .ok (.aload_n 0, 1) := by decide +kernel
theorem dX5_advance_65 : decode cX5_advance 65 = .ok (.getfield 48, 3) := by decide +kernel
theorem dX5_advance_68 : decode cX5_advance 68 = .ok (.if_icmp .lt 10, 3) := by decide +kernel
theorem dX5_advance_71 : decode cX5_advance 71 = .ok (.aload_n 0, 1) := by decide +kernel
theorem dX5_advance_72 : decode cX5_advance 72 = .ok (.bipush 35, 2) := by decide +kernel
theorem dX5_advance_74 : decode cX5_advance 74 = .ok (.putfield 66, 3) := by decide +kernel
theorem dX5_advance_77 : decode cX5_advance 77 = .ok (.return_, 1) := by decide +kernel
theorem dX5_advance_78 : decode cX5_advance 78 = .ok (.aload_n 0, 1) := by decide +kernel
theorem dX5_advance_79 : decode cX5_advance 79 = .ok (.getfield 9, 3) := by decide +kernel
theorem dX5_advance_82 : decode cX5_advance 82 = .ok (.aload_n 0, 1) := by decide +kernel
theorem dX5_advance_83 : decode cX5_advance 83 = .ok (.getfield 63, 3) := by decide +kernel
theorem dX5_advance_86 : decode cX5_advance 86 = .ok (.baload, 1) := by decide +kernel
theorem dX5_advance_87 : decode cX5_advance 87 = .ok (.istore_n 1, 1) := by decide +kernel
theorem dX5_advance_88 : decode cX5_advance 88 = .ok (.iload_n 1, 1) := by decide +kernel
theorem dX5_advance_89 : decode cX5_advance 89 = .ok (.invokestatic 69, 3) := by decide +kernel
theorem dX5_advance_92 : decode cX5_advance 92 = .ok (.ifCond .eq 10, 3) := by decide +kernel
theorem dX5_advance_95 : decode cX5_advance 95 = .ok (.aload_n 0, 1) := by decide +kernel
theorem dX5_advance_96 : decode cX5_advance 96 = .ok (.invokevirtual 73, 3) := by decide +kernel
theorem dX5_advance_99 : decode cX5_advance 99 = .ok (.goto 61, 3) := by decide +kernel
theorem dX5_advance_102 : decode cX5_advance 102 = .ok (.iload_n 1, 1) := by decide +kernel
theorem dX5_advance_103 : decode cX5_advance 103 = .ok (.invokestatic 76, 3) := by decide +kernel
theorem dX5_advance_106 : decode cX5_advance 106 = .ok (.ifCond .eq 10, 3) := by decide +kernel
theorem dX5_advance_109 : decode cX5_advance 109 = .ok (.aload_n 0, 1) := by decide +kernel
theorem dX5_advance_110 : decode cX5_advance 110 = .ok (.invokevirtual 79, 3) := by decide +kernel
theorem dX5_advance_113 : decode cX5_advance 113 = .ok (.goto 47, 3) := by decide +kernel
theorem dX5_advance_116 : decode cX5_advance 116 = .ok (.aload_n 0, 1) := by decide +kernel
theorem dX5_advance_117 : decode cX5_advance 117 = .ok (.iload_n 1, 1) := by decide +kernel
theorem dX5_advance_118 : decode cX5_advance 118 = .ok (.bipush 59, 2) := by decide +kernel
theorem dX5_advance_120 : decode cX5_advance 120 = .ok (.if_icmp .eq 21, 3) := by decide +kernel
theorem dX5_advance_123 : decode cX5_advance 123 = .ok (.iload_n 1, 1) := by decide +kernel
theorem dX5_advance_124 : decode cX5_advance 124 = .ok (.bipush 60, 2) := by decide +kernel
theorem dX5_advance_126 : decode cX5_advance 126 = .ok (.if_icmp .eq 15, 3) := by decide +kernel
theorem dX5_advance_129 : decode cX5_advance 129 = .ok (.iload_n 1, 1) := by decide +kernel
theorem dX5_advance_130 : decode cX5_advance 130 = .ok (.bipush 62, 2) := by decide +kernel
theorem dX5_advance_132 : decode cX5_advance 132 = .ok (.if_icmp .eq 9, 3) := by decide +kernel
theorem dX5_advance_135 : decode cX5_advance 135 = .ok (.iload_n 1, 1) := by decide +kernel
theorem dX5_advance_136 : decode cX5_advance 136 = .ok (.bipush 61, 2) := by decide +kernel
theorem dX5_advance_138 : decode cX5_advance 138 = .ok (.if_icmp .ne 7, 3) := by decide +kernel
theorem dX5_advance_141 : decode cX5_advance 141 = .ok (.iload_n 1, 1) := by decide +kernel
theorem dX5_advance_142 : decode cX5_advance 142 = .ok (.goto 5, 3) := by decide +kernel
theorem dX5_advance_145 : decode cX5_advance 145 = .ok (.bipush 36, 2) := by decide +kernel
theorem dX5_advance_147 : decode cX5_advance 147 = .ok (.putfield 66, 3) := by decide +kernel
theorem dX5_advance_150 : decode cX5_advance 150 = .ok (.aload_n 0, 1) := by decide +kernel
theorem dX5_advance_151 : decode cX5_advance 151 = .ok (.aload_n 0, 1) := by decide +kernel
theorem dX5_advance_152 : decode cX5_advance 152 = .ok (.getfield 63, 3) := by decide +kernel
theorem dX5_advance_155 : decode cX5_advance 155 = .ok (.iconst 1, 1) := by decide +kernel
theorem dX5_advance_156 : decode cX5_advance 156 = .ok (.iadd, 1) := by decide +kernel
theorem dX5_advance_157 : decode cX5_advance 157 = .ok (.putfield 51, 3) := by decide +kernel
theorem dX5_advance_160 : decode cX5_advance 160 = .ok (.return_, 1) := by decide +kernel
theorem dX5_isLetter_0 : decode cX5_isLetter 0 = .ok (.iload_n 0, 1) := by decide +kernel
theorem dX5_isLetter_1 : decode cX5_isLetter 1 = .ok (.bipush 97, 2) := by decide +kernel
theorem dX5_isLetter_3 : decode cX5_isLetter 3 = .ok (.if_icmp .lt 13, 3) := by decide +kernel
theorem dX5_isLetter_6 : decode cX5_isLetter 6 = .ok (.iload_n 0, 1) := by decide +kernel
theorem dX5_isLetter_7 : decode cX5_isLetter 7 = .ok (.bipush 122, 2) := by decide +kernel
theorem dX5_isLetter_9 : decode cX5_isLetter 9 = .ok (.if_icmp .gt 7, 3) := by decide +kernel
theorem dX5_isLetter_12 : decode cX5_isLetter 12 = .ok (.iconst 1, 1) := by decide +kernel
theorem dX5_isLetter_13 : decode cX5_isLetter 13 = .ok (.goto 4, 3) := by decide +kernel
theorem dX5_isLetter_16 : decode cX5_isLetter 16 = .ok (.iconst 0, 1) := by decide +kernel
theorem dX5_isLetter_17 : decode cX5_isLetter 17 = .ok (.ireturn, 1) := by decide +kernel
theorem dX5_isDigit_0 : decode cX5_isDigit 0 = .ok (.iload_n 0, 1) := by decide +kernel
theorem dX5_isDigit_1 : decode cX5_isDigit 1 = .ok (.bipush 48, 2) := by decide +kernel
theorem dX5_isDigit_3 : decode cX5_isDigit 3 = .ok (.if_icmp .lt 13, 3) := by decide +kernel
theorem dX5_isDigit_6 : decode cX5_isDigit 6 = .ok (.iload_n 0, 1) := by decide +kernel
theorem dX5_isDigit_7 : decode cX5_isDigit 7 = .ok (.bipush 57, 2) := by decide +kernel
theorem dX5_isDigit_9 : decode cX5_isDigit 9 = .ok (.if_icmp .gt 7, 3) := by decide +kernel
theorem dX5_isDigit_12 : decode cX5_isDigit 12 = .ok (.iconst 1, 1) := by decide +kernel
theorem dX5_isDigit_13 : decode cX5_isDigit 13 = .ok (.goto 4, 3) := by decide +kernel
theorem dX5_isDigit_16 : decode cX5_isDigit 16 = .ok (.iconst 0, 1) := by decide +kernel
theorem dX5_isDigit_17 : decode cX5_isDigit 17 = .ok (.ireturn, 1) := by decide +kernel
theorem dX5_scanWord_0 : decode cX5_scanWord 0 = .ok (.lconst 0, 1) := by decide +kernel
theorem dX5_scanWord_1 : decode cX5_scanWord 1 = .ok (.lstore_n 1, 1) := by decide +kernel
theorem dX5_scanWord_2 : decode cX5_scanWord 2 = .ok (.aload_n 0, 1) := by decide +kernel
theorem dX5_scanWord_3 : decode cX5_scanWord 3 = .ok (.getfield 51, 3) := by decide +kernel
theorem dX5_scanWord_6 : decode cX5_scanWord 6 = .ok (.aload_n 0, 1) := by decide +kernel
theorem dX5_scanWord_7 : decode cX5_scanWord 7 = .ok (.getfield 48, 3) := by decide +kernel
theorem dX5_scanWord_10 : decode cX5_scanWord 10 = .ok (.if_icmp .ge 59, 3) := by decide +kernel
theorem dX5_scanWord_13 : decode cX5_scanWord 13 = .ok (.aload_n 0, 1) := by decide +kernel
theorem dX5_scanWord_14 : decode cX5_scanWord 14 = .ok (.getfield 9, 3) := by decide +kernel
theorem dX5_scanWord_17 : decode cX5_scanWord 17 = .ok (.aload_n 0, 1) := by decide +kernel
theorem dX5_scanWord_18 : decode cX5_scanWord 18 = .ok (.getfield 51, 3) := by decide +kernel
theorem dX5_scanWord_21 : decode cX5_scanWord 21 = .ok (.baload, 1) := by decide +kernel
theorem dX5_scanWord_22 : decode cX5_scanWord 22 = .ok (.invokestatic 69, 3) := by decide +kernel
theorem dX5_scanWord_25 : decode cX5_scanWord 25 = .ok (.ifCond .eq 44, 3) := by decide +kernel
theorem dX5_scanWord_28 : decode cX5_scanWord 28 = .ok (.aload_n 0, 1) := by decide +kernel
theorem dX5_scanWord_29 : decode cX5_scanWord 29 = .ok (.getfield 51, 3) := by decide +kernel
theorem dX5_scanWord_32 : decode cX5_scanWord 32 = .ok (.aload_n 0, 1) := by decide +kernel
theorem dX5_scanWord_33 : decode cX5_scanWord 33 = .ok (.getfield 63, 3) := by decide +kernel
theorem dX5_scanWord_36 : decode cX5_scanWord 36 = .ok (.isub, 1) := by decide +kernel
theorem dX5_scanWord_37 : decode cX5_scanWord 37 = .ok (.bipush 8, 2) := by decide +kernel
theorem dX5_scanWord_39 : decode cX5_scanWord 39 = .ok (.if_icmp .ge 17, 3) := by decide +kernel
theorem dX5_scanWord_42 : decode cX5_scanWord 42 = .ok (.lload_n 1, 1) := by decide +kernel
theorem dX5_scanWord_43 : decode cX5_scanWord 43 = .ok (.aload_n 0, 1) := by decide +kernel
theorem dX5_scanWord_44 : decode cX5_scanWord 44 = .ok (.getfield 9, 3) := by decide +kernel
theorem dX5_scanWord_47 : decode cX5_scanWord 47 = .ok (.aload_n 0, 1) := by decide +kernel
theorem dX5_scanWord_48 : decode cX5_scanWord 48 = .ok (.getfield 51, 3) := by decide +kernel
theorem dX5_scanWord_51 : decode cX5_scanWord 51 = .ok (.baload, 1) := by decide +kernel
theorem dX5_scanWord_52 : decode cX5_scanWord 52 = .ok (.invokestatic 31, 3) := by decide +kernel
theorem dX5_scanWord_55 : decode cX5_scanWord 55 = .ok (.lstore_n 1, 1) := by decide +kernel
theorem dX5_scanWord_56 : decode cX5_scanWord 56 = .ok (.aload_n 0, 1) := by decide +kernel
theorem dX5_scanWord_57 : decode cX5_scanWord 57 = .ok (.dup, 1) := by decide +kernel
theorem dX5_scanWord_58 : decode cX5_scanWord 58 = .ok (.getfield 51, 3) := by decide +kernel
theorem dX5_scanWord_61 : decode cX5_scanWord 61 = .ok (.iconst 1, 1) := by decide +kernel
theorem dX5_scanWord_62 : decode cX5_scanWord 62 = .ok (.iadd, 1) := by decide +kernel
theorem dX5_scanWord_63 : decode cX5_scanWord 63 = .ok (.putfield 51, 3) := by decide +kernel
theorem dX5_scanWord_66 : decode cX5_scanWord 66 = .ok (.goto (-64), 3) := by decide +kernel
theorem dX5_scanWord_69 : decode cX5_scanWord 69 = .ok (.aload_n 0, 1) := by decide +kernel
theorem dX5_scanWord_70 : decode cX5_scanWord 70 = .ok (.lload_n 1, 1) := by decide +kernel
theorem dX5_scanWord_71 : decode cX5_scanWord 71 = .ok (.putfield 82, 3) := by decide +kernel
theorem dX5_scanWord_74 : decode cX5_scanWord 74 = .ok (.aload_n 0, 1) := by decide +kernel
theorem dX5_scanWord_75 : decode cX5_scanWord 75 = .ok (.aload_n 0, 1) := by decide +kernel
theorem dX5_scanWord_76 : decode cX5_scanWord 76 = .ok (.getfield 51, 3) := by decide +kernel
theorem dX5_scanWord_79 : decode cX5_scanWord 79 = .ok (.aload_n 0, 1) := by decide +kernel
theorem dX5_scanWord_80 : decode cX5_scanWord 80 = .ok (.getfield 63, 3) := by decide +kernel
theorem dX5_scanWord_83 : decode cX5_scanWord 83 = .ok (.isub, 1) := by decide +kernel
theorem dX5_scanWord_84 : decode cX5_scanWord 84 = .ok (.bipush 8, 2) := by decide +kernel
theorem dX5_scanWord_86 : decode cX5_scanWord 86 = .ok (.if_icmp .le 8, 3) := by decide +kernel
theorem dX5_scanWord_89 : decode cX5_scanWord 89 = .ok (.bipush 33, 2) := by decide +kernel
theorem dX5_scanWord_91 : decode cX5_scanWord 91 = .ok (.goto 8, 3) := by decide +kernel
theorem dX5_scanWord_94 : decode cX5_scanWord 94 = .ok (.aload_n 0, 1) := by decide +kernel
theorem dX5_scanWord_95 : decode cX5_scanWord 95 = .ok (.lload_n 1, 1) := by decide +kernel
theorem dX5_scanWord_96 : decode cX5_scanWord 96 = .ok (.invokevirtual 86, 3) := by decide +kernel
theorem dX5_scanWord_99 : decode cX5_scanWord 99 = .ok (.putfield 66, 3) := by decide +kernel
theorem dX5_scanWord_102 : decode cX5_scanWord 102 = .ok (.return_, 1) := by decide +kernel
theorem dX5_sortOfWord_0 : decode cX5_sortOfWord 0 = .ok (.iconst 0, 1) := by decide +kernel
theorem dX5_sortOfWord_1 : decode cX5_sortOfWord 1 = .ok (.istore_n 3, 1) := by decide +kernel
theorem dX5_sortOfWord_2 : decode cX5_sortOfWord 2 = .ok (.iload_n 3, 1) := by decide +kernel
theorem dX5_sortOfWord_3 : decode cX5_sortOfWord 3 = .ok (.bipush 32, 2) := by decide +kernel
theorem dX5_sortOfWord_5 : decode cX5_sortOfWord 5 = .ok (.if_icmp .ge 22, 3) := by decide +kernel
theorem dX5_sortOfWord_8 : decode cX5_sortOfWord 8 = .ok (.aload_n 0, 1) := by decide +kernel
theorem dX5_sortOfWord_9 : decode cX5_sortOfWord 9 = .ok (.getfield 15, 3) := by decide +kernel
theorem dX5_sortOfWord_12 : decode cX5_sortOfWord 12 = .ok (.iload_n 3, 1) := by decide +kernel
theorem dX5_sortOfWord_13 : decode cX5_sortOfWord 13 = .ok (.laload, 1) := by decide +kernel
theorem dX5_sortOfWord_14 : decode cX5_sortOfWord 14 = .ok (.lload_n 1, 1) := by decide +kernel
theorem dX5_sortOfWord_15 : decode cX5_sortOfWord 15 = .ok (.lcmp, 1) := by decide +kernel
theorem dX5_sortOfWord_16 : decode cX5_sortOfWord 16 = .ok (.ifCond .ne 5, 3) := by decide +kernel
theorem dX5_sortOfWord_19 : decode cX5_sortOfWord 19 = .ok (.iload_n 3, 1) := by decide +kernel
theorem dX5_sortOfWord_20 : decode cX5_sortOfWord 20 = .ok (.ireturn, 1) := by decide +kernel
theorem dX5_sortOfWord_21 : decode cX5_sortOfWord 21 = .ok (.iinc 3 1, 3) := by decide +kernel
theorem dX5_sortOfWord_24 : decode cX5_sortOfWord 24 = .ok (.goto (-22), 3) := by decide +kernel
theorem dX5_sortOfWord_27 : decode cX5_sortOfWord 27 = .ok (.bipush 32, 2) := by decide +kernel
theorem dX5_sortOfWord_29 : decode cX5_sortOfWord 29 = .ok (.ireturn, 1) := by decide +kernel
theorem dX5_scanNumber_0 : decode cX5_scanNumber 0 = .ok (.iconst 0, 1) := by decide +kernel
theorem dX5_scanNumber_1 : decode cX5_scanNumber 1 = .ok (.istore_n 1, 1) := by decide +kernel
theorem dX5_scanNumber_2 : decode cX5_scanNumber 2 = .ok (.aload_n 0, 1) := by decide +kernel
theorem dX5_scanNumber_3 : decode cX5_scanNumber 3 = .ok (.getfield 51, 3) := by decide +kernel
theorem dX5_scanNumber_6 : decode cX5_scanNumber 6 = .ok (.aload_n 0, 1) := by decide +kernel
theorem dX5_scanNumber_7 : decode cX5_scanNumber 7 = .ok (.getfield 48, 3) := by decide +kernel
theorem dX5_scanNumber_10 : decode cX5_scanNumber 10 = .ok (.if_icmp .ge 62, 3) := by decide +kernel
theorem dX5_scanNumber_13 : decode cX5_scanNumber 13 = .ok (.aload_n 0, 1) := by decide +kernel
theorem dX5_scanNumber_14 : decode cX5_scanNumber 14 = .ok (.getfield 9, 3) := by decide +kernel
theorem dX5_scanNumber_17 : decode cX5_scanNumber 17 = .ok (.aload_n 0, 1) := by decide +kernel
theorem dX5_scanNumber_18 : decode cX5_scanNumber 18 = .ok (.getfield 51, 3) := by decide +kernel
theorem dX5_scanNumber_21 : decode cX5_scanNumber 21 = .ok (.baload, 1) := by decide +kernel
theorem dX5_scanNumber_22 : decode cX5_scanNumber 22 = .ok (.invokestatic 76, 3) := by decide +kernel
theorem dX5_scanNumber_25 : decode cX5_scanNumber 25 = .ok (.ifCond .eq 47, 3) := by decide +kernel
theorem dX5_scanNumber_28 : decode cX5_scanNumber 28 = .ok (.aload_n 0, 1) := by decide +kernel
theorem dX5_scanNumber_29 : decode cX5_scanNumber 29 = .ok (.getfield 51, 3) := by decide +kernel
theorem dX5_scanNumber_32 : decode cX5_scanNumber 32 = .ok (.aload_n 0, 1) := by decide +kernel
theorem dX5_scanNumber_33 : decode cX5_scanNumber 33 = .ok (.getfield 63, 3) := by decide +kernel
theorem dX5_scanNumber_36 : decode cX5_scanNumber 36 = .ok (.isub, 1) := by decide +kernel
theorem dX5_scanNumber_37 : decode cX5_scanNumber 37 = .ok (.iconst 4, 1) := by decide +kernel
theorem dX5_scanNumber_38 : decode cX5_scanNumber 38 = .ok (.if_icmp .ge 21, 3) := by decide +kernel
theorem dX5_scanNumber_41 : decode cX5_scanNumber 41 = .ok (.iload_n 1, 1) := by decide +kernel
theorem dX5_scanNumber_42 : decode cX5_scanNumber 42 = .ok (.bipush 10, 2) := by decide +kernel
theorem dX5_scanNumber_44 : decode cX5_scanNumber 44 = .ok (.imul, 1) := by decide +kernel
theorem dX5_scanNumber_45 : decode cX5_scanNumber 45 = .ok (.aload_n 0, 1) := by decide +kernel
theorem dX5_scanNumber_46 : decode cX5_scanNumber 46 = .ok (.getfield 9, 3) := by decide +kernel
theorem dX5_scanNumber_49 : decode cX5_scanNumber 49 = .ok (.aload_n 0, 1) := by decide +kernel
theorem dX5_scanNumber_50 : decode cX5_scanNumber 50 = .ok (.getfield 51, 3) := by decide +kernel
theorem dX5_scanNumber_53 : decode cX5_scanNumber 53 = .ok (.baload, 1) := by decide +kernel
theorem dX5_scanNumber_54 : decode cX5_scanNumber 54 = .ok (.bipush 48, 2) := by decide +kernel
theorem dX5_scanNumber_56 : decode cX5_scanNumber 56 = .ok (.isub, 1) := by decide +kernel
theorem dX5_scanNumber_57 : decode cX5_scanNumber 57 = .ok (.iadd, 1) := by decide +kernel
theorem dX5_scanNumber_58 : decode cX5_scanNumber 58 = .ok (.istore_n 1, 1) := by decide +kernel
theorem dX5_scanNumber_59 : decode cX5_scanNumber 59 = .ok (.aload_n 0, 1) := by decide +kernel
theorem dX5_scanNumber_60 : decode cX5_scanNumber 60 = .ok (.dup, 1) := by decide +kernel
theorem dX5_scanNumber_61 : decode cX5_scanNumber 61 = .ok (.getfield 51, 3) := by decide +kernel
theorem dX5_scanNumber_64 : decode cX5_scanNumber 64 = .ok (.iconst 1, 1) := by decide +kernel
theorem dX5_scanNumber_65 : decode cX5_scanNumber 65 = .ok (.iadd, 1) := by decide +kernel
theorem dX5_scanNumber_66 : decode cX5_scanNumber 66 = .ok (.putfield 51, 3) := by decide +kernel
theorem dX5_scanNumber_69 : decode cX5_scanNumber 69 = .ok (.goto (-67), 3) := by decide +kernel
theorem dX5_scanNumber_72 : decode cX5_scanNumber 72 = .ok (.aload_n 0, 1) := by decide +kernel
theorem dX5_scanNumber_73 : decode cX5_scanNumber 73 = .ok (.iload_n 1, 1) := by decide +kernel
theorem dX5_scanNumber_74 : decode cX5_scanNumber 74 = .ok (.putfield 90, 3) := by decide +kernel
theorem dX5_scanNumber_77 : decode cX5_scanNumber 77 = .ok (.aload_n 0, 1) := by decide +kernel
theorem dX5_scanNumber_78 : decode cX5_scanNumber 78 = .ok (.aload_n 0, 1) := by decide +kernel
theorem dX5_scanNumber_79 : decode cX5_scanNumber 79 = .ok (.getfield 51, 3) := by decide +kernel
theorem dX5_scanNumber_82 : decode cX5_scanNumber 82 = .ok (.aload_n 0, 1) := by decide +kernel
theorem dX5_scanNumber_83 : decode cX5_scanNumber 83 = .ok (.getfield 63, 3) := by decide +kernel
theorem dX5_scanNumber_86 : decode cX5_scanNumber 86 = .ok (.isub, 1) := by decide +kernel
theorem dX5_scanNumber_87 : decode cX5_scanNumber 87 = .ok (.iconst 4, 1) := by decide +kernel
theorem dX5_scanNumber_88 : decode cX5_scanNumber 88 = .ok (.if_icmp .le 8, 3) := by decide +kernel
theorem dX5_scanNumber_91 : decode cX5_scanNumber 91 = .ok (.bipush 36, 2) := by decide +kernel
theorem dX5_scanNumber_93 : decode cX5_scanNumber 93 = .ok (.goto 5, 3) := by decide +kernel
theorem dX5_scanNumber_96 : decode cX5_scanNumber 96 = .ok (.bipush 34, 2) := by decide +kernel
theorem dX5_scanNumber_98 : decode cX5_scanNumber 98 = .ok (.putfield 66, 3) := by decide +kernel
theorem dX5_scanNumber_101 : decode cX5_scanNumber 101 = .ok (.return_, 1) := by decide +kernel
theorem dX5_fail_0 : decode cX5_fail 0 = .ok (.aload_n 0, 1) := by decide +kernel
theorem dX5_fail_1 : decode cX5_fail 1 = .ok (.iload_n 1, 1) := by decide +kernel
theorem dX5_fail_2 : decode cX5_fail 2 = .ok (.putfield 54, 3) := by decide +kernel
theorem dX5_fail_5 : decode cX5_fail 5 = .ok (.aload_n 0, 1) := by decide +kernel
theorem dX5_fail_6 : decode cX5_fail 6 = .ok (.aload_n 0, 1) := by decide +kernel
theorem dX5_fail_7 : decode cX5_fail 7 = .ok (.getfield 63, 3) := by decide +kernel
theorem dX5_fail_10 : decode cX5_fail 10 = .ok (.putfield 57, 3) := by decide +kernel
theorem dX5_fail_13 : decode cX5_fail 13 = .ok (.iconst 0, 1) := by decide +kernel
theorem dX5_fail_14 : decode cX5_fail 14 = .ok (.ireturn, 1) := by decide +kernel
theorem dX5_failHere_0 : decode cX5_failHere 0 = .ok (.aload_n 0, 1) := by decide +kernel
theorem dX5_failHere_1 : decode cX5_failHere 1 = .ok (.aload_n 0, 1) := by decide +kernel
theorem dX5_failHere_2 : decode cX5_failHere 2 = .ok (.getfield 66, 3) := by decide +kernel
theorem dX5_failHere_5 : decode cX5_failHere 5 = .ok (.bipush 36, 2) := by decide +kernel
theorem dX5_failHere_7 : decode cX5_failHere 7 = .ok (.if_icmp .ne 7, 3) := by decide +kernel
theorem dX5_failHere_10 : decode cX5_failHere 10 = .ok (.iconst 1, 1) := by decide +kernel
theorem dX5_failHere_11 : decode cX5_failHere 11 = .ok (.goto 4, 3) := by decide +kernel
theorem dX5_failHere_14 : decode cX5_failHere 14 = .ok (.iconst 2, 1) := by decide +kernel
theorem dX5_failHere_15 : decode cX5_failHere 15 = .ok (.invokevirtual 93, 3) := by decide +kernel
theorem dX5_failHere_18 : decode cX5_failHere 18 = .ok (.ireturn, 1) := by decide +kernel
theorem dX5_take_0 : decode cX5_take 0 = .ok (.aload_n 0, 1) := by decide +kernel
theorem dX5_take_1 : decode cX5_take 1 = .ok (.getfield 66, 3) := by decide +kernel
theorem dX5_take_4 : decode cX5_take 4 = .ok (.iload_n 1, 1) := by decide +kernel
theorem dX5_take_5 : decode cX5_take 5 = .ok (.if_icmp .eq 8, 3) := by decide +kernel
theorem dX5_take_8 : decode cX5_take 8 = .ok (.aload_n 0, 1) := by decide +kernel
theorem dX5_take_9 : decode cX5_take 9 = .ok (.invokevirtual 96, 3) := by decide +kernel
theorem dX5_take_12 : decode cX5_take 12 = .ok (.ireturn, 1) := by decide +kernel
theorem dX5_take_13 : decode cX5_take 13 = .ok (.aload_n 0, 1) := by decide +kernel
theorem dX5_take_14 : decode cX5_take 14 = .ok (.invokevirtual 60, 3) := by decide +kernel
theorem dX5_take_17 : decode cX5_take 17 = .ok (.iconst 1, 1) := by decide +kernel
theorem dX5_take_18 : decode cX5_take 18 = .ok (.ireturn, 1) := by decide +kernel
theorem dX5_takeNumber_0 : decode cX5_takeNumber 0 = .ok (.aload_n 0, 1) := by decide +kernel
theorem dX5_takeNumber_1 : decode cX5_takeNumber 1 = .ok (.getfield 66, 3) := by decide +kernel
theorem dX5_takeNumber_4 : decode cX5_takeNumber 4 = .ok (.bipush 34, 2) := by decide +kernel
theorem dX5_takeNumber_6 : decode cX5_takeNumber 6 = .ok (.if_icmp .eq 8, 3) := by decide +kernel
theorem dX5_takeNumber_9 : decode cX5_takeNumber 9 = .ok (.aload_n 0, 1) := by decide +kernel
theorem dX5_takeNumber_10 : decode cX5_takeNumber 10 = .ok (.invokevirtual 96, 3) := by decide +kernel
theorem dX5_takeNumber_13 : decode cX5_takeNumber 13 = .ok (.ireturn, 1) := by decide +kernel
theorem dX5_takeNumber_14 : decode cX5_takeNumber 14 = .ok (.aload_n 0, 1) := by decide +kernel
theorem dX5_takeNumber_15 : decode cX5_takeNumber 15 = .ok (.getfield 90, 3) := by decide +kernel
theorem dX5_takeNumber_18 : decode cX5_takeNumber 18 = .ok (.iload_n 1, 1) := by decide +kernel
theorem dX5_takeNumber_19 : decode cX5_takeNumber 19 = .ok (.iload_n 2, 1) := by decide +kernel
theorem dX5_takeNumber_20 : decode cX5_takeNumber 20 = .ok (.invokestatic 100, 3) := by decide +kernel
theorem dX5_takeNumber_23 : decode cX5_takeNumber 23 = .ok (.ifCond .ne 9, 3) := by decide +kernel
theorem dX5_takeNumber_26 : decode cX5_takeNumber 26 = .ok (.aload_n 0, 1) := by decide +kernel
theorem dX5_takeNumber_27 : decode cX5_takeNumber 27 = .ok (.iconst 4, 1) := by decide +kernel
theorem dX5_takeNumber_28 : decode cX5_takeNumber 28 = .ok (.invokevirtual 93, 3) := by decide +kernel
theorem dX5_takeNumber_31 : decode cX5_takeNumber 31 = .ok (.ireturn, 1) := by decide +kernel
theorem dX5_takeNumber_32 : decode cX5_takeNumber 32 = .ok (.aload_n 0, 1) := by decide +kernel
theorem dX5_takeNumber_33 : decode cX5_takeNumber 33 = .ok (.aload_n 0, 1) := by decide +kernel
theorem dX5_takeNumber_34 : decode cX5_takeNumber 34 = .ok (.getfield 90, 3) := by decide +kernel
theorem dX5_takeNumber_37 : decode cX5_takeNumber 37 = .ok (.putfield 104, 3) := by decide +kernel
theorem dX5_takeNumber_40 : decode cX5_takeNumber 40 = .ok (.aload_n 0, 1) := by decide +kernel
theorem dX5_takeNumber_41 : decode cX5_takeNumber 41 = .ok (.invokevirtual 60, 3) := by decide +kernel
theorem dX5_takeNumber_44 : decode cX5_takeNumber 44 = .ok (.iconst 1, 1) := by decide +kernel
theorem dX5_takeNumber_45 : decode cX5_takeNumber 45 = .ok (.ireturn, 1) := by decide +kernel
theorem dX5_takeName_0 : decode cX5_takeName 0 = .ok (.aload_n 0, 1) := by decide +kernel
theorem dX5_takeName_1 : decode cX5_takeName 1 = .ok (.getfield 66, 3) := by decide +kernel
theorem dX5_takeName_4 : decode cX5_takeName 4 = .ok (.bipush 32, 2) := by decide +kernel
theorem dX5_takeName_6 : decode cX5_takeName 6 = .ok (.if_icmp .eq 8, 3) := by decide +kernel
theorem dX5_takeName_9 : decode cX5_takeName 9 = .ok (.aload_n 0, 1) := by decide +kernel
theorem dX5_takeName_10 : decode cX5_takeName 10 = .ok (.invokevirtual 96, 3) := by decide +kernel
theorem dX5_takeName_13 : decode cX5_takeName 13 = .ok (.ireturn, 1) := by decide +kernel
theorem dX5_takeName_14 : decode cX5_takeName 14 = .ok (.aload_n 1, 1) := by decide +kernel
theorem dX5_takeName_15 : decode cX5_takeName 15 = .ok (.iload_n 2, 1) := by decide +kernel
theorem dX5_takeName_16 : decode cX5_takeName 16 = .ok (.aload_n 0, 1) := by decide +kernel
theorem dX5_takeName_17 : decode cX5_takeName 17 = .ok (.getfield 82, 3) := by decide +kernel
theorem dX5_takeName_20 : decode cX5_takeName 20 = .ok (.invokestatic 107, 3) := by decide +kernel
theorem dX5_takeName_23 : decode cX5_takeName 23 = .ok (.istore_n 3, 1) := by decide +kernel
theorem dX5_takeName_24 : decode cX5_takeName 24 = .ok (.iload_n 3, 1) := by decide +kernel
theorem dX5_takeName_25 : decode cX5_takeName 25 = .ok (.iconst (-1), 1) := by decide +kernel
theorem dX5_takeName_26 : decode cX5_takeName 26 = .ok (.if_icmp .ne 9, 3) := by decide +kernel
theorem dX5_takeName_29 : decode cX5_takeName 29 = .ok (.aload_n 0, 1) := by decide +kernel
theorem dX5_takeName_30 : decode cX5_takeName 30 = .ok (.iconst 3, 1) := by decide +kernel
theorem dX5_takeName_31 : decode cX5_takeName 31 = .ok (.invokevirtual 93, 3) := by decide +kernel
theorem dX5_takeName_34 : decode cX5_takeName 34 = .ok (.ireturn, 1) := by decide +kernel
theorem dX5_takeName_35 : decode cX5_takeName 35 = .ok (.aload_n 0, 1) := by decide +kernel
theorem dX5_takeName_36 : decode cX5_takeName 36 = .ok (.iload_n 3, 1) := by decide +kernel
theorem dX5_takeName_37 : decode cX5_takeName 37 = .ok (.putfield 104, 3) := by decide +kernel
theorem dX5_takeName_40 : decode cX5_takeName 40 = .ok (.aload_n 0, 1) := by decide +kernel
theorem dX5_takeName_41 : decode cX5_takeName 41 = .ok (.invokevirtual 60, 3) := by decide +kernel
theorem dX5_takeName_44 : decode cX5_takeName 44 = .ok (.iconst 1, 1) := by decide +kernel
theorem dX5_takeName_45 : decode cX5_takeName 45 = .ok (.ireturn, 1) := by decide +kernel
theorem dX5_find_0 : decode cX5_find 0 = .ok (.iconst 0, 1) := by decide +kernel
theorem dX5_find_1 : decode cX5_find 1 = .ok (.istore 4, 2) := by decide +kernel
theorem dX5_find_3 : decode cX5_find 3 = .ok (.iload 4, 2) := by decide +kernel
theorem dX5_find_5 : decode cX5_find 5 = .ok (.iload_n 1, 1) := by decide +kernel
theorem dX5_find_6 : decode cX5_find 6 = .ok (.if_icmp .ge 28, 3) := by decide +kernel
theorem dX5_find_9 : decode cX5_find 9 = .ok (.iload 4, 2) := by decide +kernel
theorem dX5_find_11 : decode cX5_find 11 = .ok (.aload_n 0, 1) := by decide +kernel
theorem dX5_find_12 : decode cX5_find 12 = .ok (.arraylength, 1) := by decide +kernel
theorem dX5_find_13 : decode cX5_find 13 = .ok (.if_icmp .ge 21, 3) := by decide +kernel
theorem dX5_find_16 : decode cX5_find 16 = .ok (.aload_n 0, 1) := by decide +kernel
theorem dX5_find_17 : decode cX5_find 17 = .ok (.iload 4, 2) := by decide +kernel
theorem dX5_find_19 : decode cX5_find 19 = .ok (.laload, 1) := by decide +kernel
theorem dX5_find_20 : decode cX5_find 20 = .ok (.lload_n 2, 1) := by decide +kernel
theorem dX5_find_21 : decode cX5_find 21 = .ok (.lcmp, 1) := by decide +kernel
theorem dX5_find_22 : decode cX5_find 22 = .ok (.ifCond .ne 6, 3) := by decide +kernel
theorem dX5_find_25 : decode cX5_find 25 = .ok (.iload 4, 2) := by decide +kernel
theorem dX5_find_27 : decode cX5_find 27 = .ok (.ireturn, 1) := by decide +kernel
theorem dX5_find_28 : decode cX5_find 28 = .ok (.iinc 4 1, 3) := by decide +kernel
theorem dX5_find_31 : decode cX5_find 31 = .ok (.goto (-28), 3) := by decide +kernel
theorem dX5_find_34 : decode cX5_find 34 = .ok (.iconst (-1), 1) := by decide +kernel
theorem dX5_find_35 : decode cX5_find 35 = .ok (.ireturn, 1) := by decide +kernel
theorem dX6_init_0 : decode cX6_init 0 = .ok (.aload_n 0, 1) := by decide +kernel
theorem dX6_init_1 : decode cX6_init 1 = .ok (.invokespecial 5, 3) := by decide +kernel
theorem dX6_init_4 : decode cX6_init 4 = .ok (.aload_n 0, 1) := by decide +kernel
theorem dX6_init_5 : decode cX6_init 5 = .ok (.sipush 2048, 3) := by decide +kernel
theorem dX6_init_8 : decode cX6_init 8 = .ok (.newarray .int, 2) := by decide +kernel
theorem dX6_init_10 : decode cX6_init 10 = .ok (.putfield 11, 3) := by decide +kernel
theorem dX6_init_13 : decode cX6_init 13 = .ok (.aload_n 0, 1) := by decide +kernel
theorem dX6_init_14 : decode cX6_init 14 = .ok (.sipush 2048, 3) := by decide +kernel
theorem dX6_init_17 : decode cX6_init 17 = .ok (.newarray .int, 2) := by decide +kernel
theorem dX6_init_19 : decode cX6_init 19 = .ok (.putfield 15, 3) := by decide +kernel
theorem dX6_init_22 : decode cX6_init 22 = .ok (.return_, 1) := by decide +kernel
theorem dX6_findAll_0 : decode cX6_findAll 0 = .ok (.aload_n 0, 1) := by decide +kernel
theorem dX6_findAll_1 : decode cX6_findAll 1 = .ok (.iconst 0, 1) := by decide +kernel
theorem dX6_findAll_2 : decode cX6_findAll 2 = .ok (.putfield 18, 3) := by decide +kernel
theorem dX6_findAll_5 : decode cX6_findAll 5 = .ok (.aload_n 1, 1) := by decide +kernel
theorem dX6_findAll_6 : decode cX6_findAll 6 = .ok (.aload_n 1, 1) := by decide +kernel
theorem dX6_findAll_7 : decode cX6_findAll 7 = .ok (.getfield 22, 3) := by decide +kernel
theorem dX6_findAll_10 : decode cX6_findAll 10 = .ok (.invokevirtual 27, 3) := by decide +kernel
theorem dX6_findAll_13 : decode cX6_findAll 13 = .ok (.istore_n 2, 1) := by decide +kernel
theorem dX6_findAll_14 : decode cX6_findAll 14 = .ok (.aload_n 0, 1) := by decide +kernel
theorem dX6_findAll_15 : decode cX6_findAll 15 = .ok (.iload_n 2, 1) := by decide +kernel
theorem dX6_findAll_16 : decode cX6_findAll 16 = .ok (.iconst (-1), 1) := by decide +kernel
theorem dX6_findAll_17 : decode cX6_findAll 17 = .ok (.if_icmp .ne 7, 3) := by decide +kernel
theorem dX6_findAll_20 : decode cX6_findAll 20 = .ok (.iconst 0, 1) := by decide +kernel
theorem dX6_findAll_21 : decode cX6_findAll 21 = .ok (.goto 6, 3) := by decide +kernel
theorem dX6_findAll_24 : decode cX6_findAll 24 = .ok (.iconst 1, 1) := by decide +kernel
theorem dX6_findAll_25 : decode cX6_findAll 25 = .ok (.iload_n 2, 1) := by decide +kernel
theorem dX6_findAll_26 : decode cX6_findAll 26 = .ok (.ishl, 1) := by decide +kernel
theorem dX6_findAll_27 : decode cX6_findAll 27 = .ok (.putfield 31, 3) := by decide +kernel
theorem dX6_findAll_30 : decode cX6_findAll 30 = .ok (.iload_n 2, 1) := by decide +kernel
theorem dX6_findAll_31 : decode cX6_findAll 31 = .ok (.iconst (-1), 1) := by decide +kernel
theorem dX6_findAll_32 : decode cX6_findAll 32 = .ok (.if_icmp .eq 14, 3) := by decide +kernel
theorem dX6_findAll_35 : decode cX6_findAll 35 = .ok (.aload_n 0, 1) := by decide +kernel
theorem dX6_findAll_36 : decode cX6_findAll 36 = .ok (.aload_n 1, 1) := by decide +kernel
theorem dX6_findAll_37 : decode cX6_findAll 37 = .ok (.iconst 0, 1) := by decide +kernel
theorem dX6_findAll_38 : decode cX6_findAll 38 = .ok (.iload_n 2, 1) := by decide +kernel
theorem dX6_findAll_39 : decode cX6_findAll 39 = .ok (.aload_n 1, 1) := by decide +kernel
theorem dX6_findAll_40 : decode cX6_findAll 40 = .ok (.getfield 22, 3) := by decide +kernel
theorem dX6_findAll_43 : decode cX6_findAll 43 = .ok (.invokevirtual 34, 3) := by decide +kernel
theorem dX6_findAll_46 : decode cX6_findAll 46 = .ok (.iconst 0, 1) := by decide +kernel
theorem dX6_findAll_47 : decode cX6_findAll 47 = .ok (.istore_n 3, 1) := by decide +kernel
theorem dX6_findAll_48 : decode cX6_findAll 48 = .ok (.iload_n 3, 1) := by decide +kernel
theorem dX6_findAll_49 : decode cX6_findAll 49 = .ok (.aload_n 0, 1) := by decide +kernel
theorem dX6_findAll_50 : decode cX6_findAll 50 = .ok (.getfield 18, 3) := by decide +kernel
theorem dX6_findAll_53 : decode cX6_findAll 53 = .ok (.if_icmp .ge 22, 3) := by decide +kernel
theorem dX6_findAll_56 : decode cX6_findAll 56 = .ok (.iload_n 3, 1) := by decide +kernel
theorem dX6_findAll_57 : decode cX6_findAll 57 = .ok (.sipush 2048, 3) := by decide +kernel
theorem dX6_findAll_60 : decode cX6_findAll 60 = .ok (.if_icmp .ge 15, 3) := by decide +kernel
theorem dX6_findAll_63 : decode cX6_findAll 63 = .ok (.aload_n 0, 1) := by decide +kernel
theorem dX6_findAll_64 : decode cX6_findAll 64 = .ok (.aload_n 1, 1) := by decide +kernel
theorem dX6_findAll_65 : decode cX6_findAll 65 = .ok (.iload_n 3, 1) := by decide +kernel
theorem dX6_findAll_66 : decode cX6_findAll 66 = .ok (.invokevirtual 38, 3) := by decide +kernel
theorem dX6_findAll_69 : decode cX6_findAll 69 = .ok (.iinc 3 1, 3) := by decide +kernel
theorem dX6_findAll_72 : decode cX6_findAll 72 = .ok (.goto (-24), 3) := by decide +kernel
theorem dX6_findAll_75 : decode cX6_findAll 75 = .ok (.return_, 1) := by decide +kernel
theorem dX6_add_0 : decode cX6_add 0 = .ok (.aload_n 0, 1) := by decide +kernel
theorem dX6_add_1 : decode cX6_add 1 = .ok (.getfield 18, 3) := by decide +kernel
theorem dX6_add_4 : decode cX6_add 4 = .ok (.sipush 2048, 3) := by decide +kernel
theorem dX6_add_7 : decode cX6_add 7 = .ok (.if_icmp .ge 39, 3) := by decide +kernel
theorem dX6_add_10 : decode cX6_add 10 = .ok (.aload_n 0, 1) := by decide +kernel
theorem dX6_add_11 : decode cX6_add 11 = .ok (.getfield 11, 3) := by decide +kernel
theorem dX6_add_14 : decode cX6_add 14 = .ok (.aload_n 0, 1) := by decide +kernel
theorem dX6_add_15 : decode cX6_add 15 = .ok (.dup, 1) := by decide +kernel
theorem dX6_add_16 : decode cX6_add 16 = .ok (.getfield 18, 3) := by decide +kernel
theorem dX6_add_19 : decode cX6_add 19 = .ok (.dup_x1, 1) := by decide +kernel
theorem dX6_add_20 : decode cX6_add 20 = .ok (.iconst 1, 1) := by decide +kernel
theorem dX6_add_21 : decode cX6_add 21 = .ok (.iadd, 1) := by decide +kernel
theorem dX6_add_22 : decode cX6_add 22 = .ok (.putfield 18, 3) := by decide +kernel
theorem dX6_add_25 : decode cX6_add 25 = .ok (.iload_n 2, 1) := by decide +kernel
theorem dX6_add_26 : decode cX6_add 26 = .ok (.iconst 1, 1) := by decide +kernel
theorem dX6_add_27 : decode cX6_add 27 = .ok (.iload_n 3, 1) := by decide +kernel
theorem dX6_add_28 : decode cX6_add 28 = .ok (.ishl, 1) := by decide +kernel
theorem dX6_add_29 : decode cX6_add 29 = .ok (.ior, 1) := by decide +kernel
theorem dX6_add_30 : decode cX6_add 30 = .ok (.iload 4, 2) := by decide +kernel
theorem dX6_add_32 : decode cX6_add 32 = .ok (.aload_n 1, 1) := by decide +kernel
theorem dX6_add_33 : decode cX6_add 33 = .ok (.getfield 42, 3) := by decide +kernel
theorem dX6_add_36 : decode cX6_add 36 = .ok (.iload_n 3, 1) := by decide +kernel
theorem dX6_add_37 : decode cX6_add 37 = .ok (.invokevirtual 46, 3) := by decide +kernel
theorem dX6_add_40 : decode cX6_add 40 = .ok (.ior, 1) := by decide +kernel
theorem dX6_add_41 : decode cX6_add 41 = .ok (.bipush 12, 2) := by decide +kernel
theorem dX6_add_43 : decode cX6_add 43 = .ok (.ishl, 1) := by decide +kernel
theorem dX6_add_44 : decode cX6_add 44 = .ok (.ior, 1) := by decide +kernel
theorem dX6_add_45 : decode cX6_add 45 = .ok (.iastore, 1) := by decide +kernel
theorem dX6_add_46 : decode cX6_add 46 = .ok (.return_, 1) := by decide +kernel
theorem dX6_goOn_0 : decode cX6_goOn 0 = .ok (.aload_n 0, 1) := by decide +kernel
theorem dX6_goOn_1 : decode cX6_goOn 1 = .ok (.getfield 11, 3) := by decide +kernel
theorem dX6_goOn_4 : decode cX6_goOn 4 = .ok (.iload_n 2, 1) := by decide +kernel
theorem dX6_goOn_5 : decode cX6_goOn 5 = .ok (.iaload, 1) := by decide +kernel
theorem dX6_goOn_6 : decode cX6_goOn 6 = .ok (.sipush 4095, 3) := by decide +kernel
theorem dX6_goOn_9 : decode cX6_goOn 9 = .ok (.iand, 1) := by decide +kernel
theorem dX6_goOn_10 : decode cX6_goOn 10 = .ok (.istore_n 3, 1) := by decide +kernel
theorem dX6_goOn_11 : decode cX6_goOn 11 = .ok (.aload_n 0, 1) := by decide +kernel
theorem dX6_goOn_12 : decode cX6_goOn 12 = .ok (.getfield 11, 3) := by decide +kernel
theorem dX6_goOn_15 : decode cX6_goOn 15 = .ok (.iload_n 2, 1) := by decide +kernel
theorem dX6_goOn_16 : decode cX6_goOn 16 = .ok (.iaload, 1) := by decide +kernel
theorem dX6_goOn_17 : decode cX6_goOn 17 = .ok (.bipush 12, 2) := by decide +kernel
theorem dX6_goOn_19 : decode cX6_goOn 19 = .ok (.ishr, 1) := by decide +kernel
theorem dX6_goOn_20 : decode cX6_goOn 20 = .ok (.istore 4, 2) := by decide +kernel
theorem dX6_goOn_22 : decode cX6_goOn 22 = .ok (.iload_n 3, 1) := by decide +kernel
theorem dX6_goOn_23 : decode cX6_goOn 23 = .ok (.invokestatic 51, 3) := by decide +kernel
theorem dX6_goOn_26 : decode cX6_goOn 26 = .ok (.istore 5, 2) := by decide +kernel
theorem dX6_goOn_28 : decode cX6_goOn 28 = .ok (.iconst 0, 1) := by decide +kernel
theorem dX6_goOn_29 : decode cX6_goOn 29 = .ok (.istore 6, 2) := by decide +kernel
theorem dX6_goOn_31 : decode cX6_goOn 31 = .ok (.aload_n 0, 1) := by decide +kernel
theorem dX6_goOn_32 : decode cX6_goOn 32 = .ok (.getfield 11, 3) := by decide +kernel
theorem dX6_goOn_35 : decode cX6_goOn 35 = .ok (.iload_n 2, 1) := by decide +kernel
theorem dX6_goOn_36 : decode cX6_goOn 36 = .ok (.iload_n 3, 1) := by decide +kernel
theorem dX6_goOn_37 : decode cX6_goOn 37 = .ok (.iastore, 1) := by decide +kernel
theorem dX6_goOn_38 : decode cX6_goOn 38 = .ok (.iconst 0, 1) := by decide +kernel
theorem dX6_goOn_39 : decode cX6_goOn 39 = .ok (.istore 7, 2) := by decide +kernel
theorem dX6_goOn_41 : decode cX6_goOn 41 = .ok (.iload 7, 2) := by decide +kernel
theorem dX6_goOn_43 : decode cX6_goOn 43 = .ok (.iconst 4, 1) := by decide +kernel
theorem dX6_goOn_44 : decode cX6_goOn 44 = .ok (.if_icmp .ge 70, 3) := by decide +kernel
theorem dX6_goOn_47 : decode cX6_goOn 47 = .ok (.aload_n 1, 1) := by decide +kernel
theorem dX6_goOn_48 : decode cX6_goOn 48 = .ok (.iload 5, 2) := by decide +kernel
theorem dX6_goOn_50 : decode cX6_goOn 50 = .ok (.iload 7, 2) := by decide +kernel
theorem dX6_goOn_52 : decode cX6_goOn 52 = .ok (.iload 4, 2) := by decide +kernel
theorem dX6_goOn_54 : decode cX6_goOn 54 = .ok (.invokevirtual 54, 3) := by decide +kernel
theorem dX6_goOn_57 : decode cX6_goOn 57 = .ok (.istore 8, 2) := by decide +kernel
theorem dX6_goOn_59 : decode cX6_goOn 59 = .ok (.iload 8, 2) := by decide +kernel
theorem dX6_goOn_61 : decode cX6_goOn 61 = .ok (.iconst (-1), 1) := by decide +kernel
theorem dX6_goOn_62 : decode cX6_goOn 62 = .ok (.if_icmp .ne 17, 3) := by decide +kernel
theorem dX6_goOn_65 : decode cX6_goOn 65 = .ok (.aload_n 0, 1) := by decide +kernel
theorem dX6_goOn_66 : decode cX6_goOn 66 = .ok (.getfield 11, 3) := by decide +kernel
theorem dX6_goOn_69 : decode cX6_goOn 69 = .ok (.iload_n 2, 1) := by decide +kernel
theorem dX6_goOn_70 : decode cX6_goOn 70 = .ok (.dup2, 1) := by decide +kernel
theorem dX6_goOn_71 : decode cX6_goOn 71 = .ok (.iaload, 1) := by decide +kernel
theorem dX6_goOn_72 : decode cX6_goOn 72 = .ok (.ldc 58, 2) := by decide +kernel
theorem dX6_goOn_74 : decode cX6_goOn 74 = .ok (.ior, 1) := by decide +kernel
theorem dX6_goOn_75 : decode cX6_goOn 75 = .ok (.iastore, 1) := by decide +kernel
theorem dX6_goOn_76 : decode cX6_goOn 76 = .ok (.goto 32, 3) := by decide +kernel
theorem dX6_goOn_79 : decode cX6_goOn 79 = .ok (.iload 6, 2) := by decide +kernel
theorem dX6_goOn_81 : decode cX6_goOn 81 = .ok (.iload 8, 2) := by decide +kernel
theorem dX6_goOn_83 : decode cX6_goOn 83 = .ok (.ishr, 1) := by decide +kernel
theorem dX6_goOn_84 : decode cX6_goOn 84 = .ok (.iconst 1, 1) := by decide +kernel
theorem dX6_goOn_85 : decode cX6_goOn 85 = .ok (.iand, 1) := by decide +kernel
theorem dX6_goOn_86 : decode cX6_goOn 86 = .ok (.ifCond .ne 22, 3) := by decide +kernel
theorem dX6_goOn_89 : decode cX6_goOn 89 = .ok (.iload 6, 2) := by decide +kernel
theorem dX6_goOn_91 : decode cX6_goOn 91 = .ok (.iconst 1, 1) := by decide +kernel
theorem dX6_goOn_92 : decode cX6_goOn 92 = .ok (.iload 8, 2) := by decide +kernel
theorem dX6_goOn_94 : decode cX6_goOn 94 = .ok (.ishl, 1) := by decide +kernel
theorem dX6_goOn_95 : decode cX6_goOn 95 = .ok (.ior, 1) := by decide +kernel
theorem dX6_goOn_96 : decode cX6_goOn 96 = .ok (.istore 6, 2) := by decide +kernel
theorem dX6_goOn_98 : decode cX6_goOn 98 = .ok (.aload_n 0, 1) := by decide +kernel
theorem dX6_goOn_99 : decode cX6_goOn 99 = .ok (.aload_n 1, 1) := by decide +kernel
theorem dX6_goOn_100 : decode cX6_goOn 100 = .ok (.iload_n 3, 1) := by decide +kernel
theorem dX6_goOn_101 : decode cX6_goOn 101 = .ok (.iload 8, 2) := by decide +kernel
theorem dX6_goOn_103 : decode cX6_goOn 103 = .ok (.iload 4, 2) := by decide +kernel
theorem dX6_goOn_105 : decode cX6_goOn 105 = .ok (.invokevirtual 34, 3) := by decide +kernel
theorem dX6_goOn_108 : decode cX6_goOn 108 = .ok (.iinc 7 1, 3) := by decide +kernel
theorem dX6_goOn_111 : decode cX6_goOn 111 = .ok (.goto (-70), 3) := by decide +kernel
theorem dX6_goOn_114 : decode cX6_goOn 114 = .ok (.return_, 1) := by decide +kernel
theorem dX6_lastOf_0 : decode cX6_lastOf 0 = .ok (.iload_n 0, 1) := by decide +kernel
theorem dX6_lastOf_1 : decode cX6_lastOf 1 = .ok (.invokestatic 59, 3) := by decide +kernel
theorem dX6_lastOf_4 : decode cX6_lastOf 4 = .ok (.ireturn, 1) := by decide +kernel
theorem dX6_isOver_0 : decode cX6_isOver 0 = .ok (.aload_n 0, 1) := by decide +kernel
theorem dX6_isOver_1 : decode cX6_isOver 1 = .ok (.getfield 11, 3) := by decide +kernel
theorem dX6_isOver_4 : decode cX6_isOver 4 = .ok (.iload_n 1, 1) := by decide +kernel
theorem dX6_isOver_5 : decode cX6_isOver 5 = .ok (.iaload, 1) := by decide +kernel
theorem dX6_isOver_6 : decode cX6_isOver 6 = .ok (.ldc 58, 2) := by decide +kernel
theorem dX6_isOver_8 : decode cX6_isOver 8 = .ok (.iand, 1) := by decide +kernel
theorem dX6_isOver_9 : decode cX6_isOver 9 = .ok (.ifCond .eq 7, 3) := by decide +kernel
theorem dX6_isOver_12 : decode cX6_isOver 12 = .ok (.iconst 1, 1) := by decide +kernel
theorem dX6_isOver_13 : decode cX6_isOver 13 = .ok (.goto 4, 3) := by decide +kernel
theorem dX6_isOver_16 : decode cX6_isOver 16 = .ok (.iconst 0, 1) := by decide +kernel
theorem dX6_isOver_17 : decode cX6_isOver 17 = .ok (.ireturn, 1) := by decide +kernel
theorem dX6_lengthOf_0 : decode cX6_lengthOf 0 = .ok (.aload_n 0, 1) := by decide +kernel
theorem dX6_lengthOf_1 : decode cX6_lengthOf 1 = .ok (.getfield 11, 3) := by decide +kernel
theorem dX6_lengthOf_4 : decode cX6_lengthOf 4 = .ok (.iload_n 1, 1) := by decide +kernel
theorem dX6_lengthOf_5 : decode cX6_lengthOf 5 = .ok (.iaload, 1) := by decide +kernel
theorem dX6_lengthOf_6 : decode cX6_lengthOf 6 = .ok (.invokestatic 64, 3) := by decide +kernel
theorem dX6_lengthOf_9 : decode cX6_lengthOf 9 = .ok (.iconst 1, 1) := by decide +kernel
theorem dX6_lengthOf_10 : decode cX6_lengthOf 10 = .ok (.isub, 1) := by decide +kernel
theorem dX6_lengthOf_11 : decode cX6_lengthOf 11 = .ok (.ireturn, 1) := by decide +kernel
theorem dX6_countOver_0 : decode cX6_countOver 0 = .ok (.iconst 0, 1) := by decide +kernel
theorem dX6_countOver_1 : decode cX6_countOver 1 = .ok (.istore_n 1, 1) := by decide +kernel
theorem dX6_countOver_2 : decode cX6_countOver 2 = .ok (.iconst 0, 1) := by decide +kernel
theorem dX6_countOver_3 : decode cX6_countOver 3 = .ok (.istore_n 2, 1) := by decide +kernel
theorem dX6_countOver_4 : decode cX6_countOver 4 = .ok (.iload_n 2, 1) := by decide +kernel
theorem dX6_countOver_5 : decode cX6_countOver 5 = .ok (.aload_n 0, 1) := by decide +kernel
theorem dX6_countOver_6 : decode cX6_countOver 6 = .ok (.getfield 18, 3) := by decide +kernel
theorem dX6_countOver_9 : decode cX6_countOver 9 = .ok (.if_icmp .ge 25, 3) := by decide +kernel
theorem dX6_countOver_12 : decode cX6_countOver 12 = .ok (.iload_n 1, 1) := by decide +kernel
theorem dX6_countOver_13 : decode cX6_countOver 13 = .ok (.aload_n 0, 1) := by decide +kernel
theorem dX6_countOver_14 : decode cX6_countOver 14 = .ok (.iload_n 2, 1) := by decide +kernel
theorem dX6_countOver_15 : decode cX6_countOver 15 = .ok (.invokevirtual 67, 3) := by decide +kernel
theorem dX6_countOver_18 : decode cX6_countOver 18 = .ok (.ifCond .eq 7, 3) := by decide +kernel
theorem dX6_countOver_21 : decode cX6_countOver 21 = .ok (.iconst 1, 1) := by decide +kernel
theorem dX6_countOver_22 : decode cX6_countOver 22 = .ok (.goto 4, 3) := by decide +kernel
theorem dX6_countOver_25 : decode cX6_countOver 25 = .ok (.iconst 0, 1) := by decide +kernel
theorem dX6_countOver_26 : decode cX6_countOver 26 = .ok (.iadd, 1) := by decide +kernel
theorem dX6_countOver_27 : decode cX6_countOver 27 = .ok (.istore_n 1, 1) := by decide +kernel
theorem dX6_countOver_28 : decode cX6_countOver 28 = .ok (.iinc 2 1, 3) := by decide +kernel
theorem dX6_countOver_31 : decode cX6_countOver 31 = .ok (.goto (-27), 3) := by decide +kernel
theorem dX6_countOver_34 : decode cX6_countOver 34 = .ok (.iload_n 1, 1) := by decide +kernel
theorem dX6_countOver_35 : decode cX6_countOver 35 = .ok (.ireturn, 1) := by decide +kernel
theorem dX6_longest_0 : decode cX6_longest 0 = .ok (.iconst 0, 1) := by decide +kernel
theorem dX6_longest_1 : decode cX6_longest 1 = .ok (.istore_n 1, 1) := by decide +kernel
theorem dX6_longest_2 : decode cX6_longest 2 = .ok (.iconst 0, 1) := by decide +kernel
theorem dX6_longest_3 : decode cX6_longest 3 = .ok (.istore_n 2, 1) := by decide +kernel
theorem dX6_longest_4 : decode cX6_longest 4 = .ok (.iload_n 2, 1) := by decide +kernel
theorem dX6_longest_5 : decode cX6_longest 5 = .ok (.aload_n 0, 1) := by decide +kernel
theorem dX6_longest_6 : decode cX6_longest 6 = .ok (.getfield 18, 3) := by decide +kernel
theorem dX6_longest_9 : decode cX6_longest 9 = .ok (.if_icmp .ge 31, 3) := by decide +kernel
theorem dX6_longest_12 : decode cX6_longest 12 = .ok (.aload_n 0, 1) := by decide +kernel
theorem dX6_longest_13 : decode cX6_longest 13 = .ok (.iload_n 2, 1) := by decide +kernel
theorem dX6_longest_14 : decode cX6_longest 14 = .ok (.invokevirtual 67, 3) := by decide +kernel
theorem dX6_longest_17 : decode cX6_longest 17 = .ok (.ifCond .eq 15, 3) := by decide +kernel
theorem dX6_longest_20 : decode cX6_longest 20 = .ok (.iload_n 1, 1) := by decide +kernel
theorem dX6_longest_21 : decode cX6_longest 21 = .ok (.aload_n 0, 1) := by decide +kernel
theorem dX6_longest_22 : decode cX6_longest 22 = .ok (.iload_n 2, 1) := by decide +kernel
theorem dX6_longest_23 : decode cX6_longest 23 = .ok (.invokevirtual 71, 3) := by decide +kernel
theorem dX6_longest_26 : decode cX6_longest 26 = .ok (.invokestatic 74, 3) := by decide +kernel
theorem dX6_longest_29 : decode cX6_longest 29 = .ok (.goto 4, 3) := by decide +kernel
theorem dX6_longest_32 : decode cX6_longest 32 = .ok (.iload_n 1, 1) := by decide +kernel
theorem dX6_longest_33 : decode cX6_longest 33 = .ok (.istore_n 1, 1) := by decide +kernel
theorem dX6_longest_34 : decode cX6_longest 34 = .ok (.iinc 2 1, 3) := by decide +kernel
theorem dX6_longest_37 : decode cX6_longest 37 = .ok (.goto (-33), 3) := by decide +kernel
theorem dX6_longest_40 : decode cX6_longest 40 = .ok (.iload_n 1, 1) := by decide +kernel
theorem dX6_longest_41 : decode cX6_longest 41 = .ok (.ireturn, 1) := by decide +kernel
theorem dX6_shortest_0 : decode cX6_shortest 0 = .ok (.bipush 12, 2) := by decide +kernel
theorem dX6_shortest_2 : decode cX6_shortest 2 = .ok (.istore_n 1, 1) := by decide +kernel
theorem dX6_shortest_3 : decode cX6_shortest 3 = .ok (.iconst 0, 1) := by decide +kernel
theorem dX6_shortest_4 : decode cX6_shortest 4 = .ok (.istore_n 2, 1) := by decide +kernel
theorem dX6_shortest_5 : decode cX6_shortest 5 = .ok (.iload_n 2, 1) := by decide +kernel
theorem dX6_shortest_6 : decode cX6_shortest 6 = .ok (.aload_n 0, 1) := by decide +kernel
theorem dX6_shortest_7 : decode cX6_shortest 7 = .ok (.getfield 18, 3) := by decide +kernel
theorem dX6_shortest_10 : decode cX6_shortest 10 = .ok (.if_icmp .ge 31, 3) := by decide +kernel
theorem dX6_shortest_13 : decode cX6_shortest 13 = .ok (.aload_n 0, 1) := by decide +kernel
theorem dX6_shortest_14 : decode cX6_shortest 14 = .ok (.iload_n 2, 1) := by decide +kernel
theorem dX6_shortest_15 : decode cX6_shortest 15 = .ok (.invokevirtual 67, 3) := by decide +kernel
theorem dX6_shortest_18 : decode cX6_shortest 18 = .ok (.ifCond .eq 15, 3) := by decide +kernel
theorem dX6_shortest_21 : decode cX6_shortest 21 = .ok (.iload_n 1, 1) := by decide +kernel
theorem dX6_shortest_22 : decode cX6_shortest 22 = .ok (.aload_n 0, 1) := by decide +kernel
theorem dX6_shortest_23 : decode cX6_shortest 23 = .ok (.iload_n 2, 1) := by decide +kernel
theorem dX6_shortest_24 : decode cX6_shortest 24 = .ok (.invokevirtual 71, 3) := by decide +kernel
theorem dX6_shortest_27 : decode cX6_shortest 27 = .ok (.invokestatic 80, 3) := by decide +kernel
theorem dX6_shortest_30 : decode cX6_shortest 30 = .ok (.goto 4, 3) := by decide +kernel
theorem dX6_shortest_33 : decode cX6_shortest 33 = .ok (.iload_n 1, 1) := by decide +kernel
theorem dX6_shortest_34 : decode cX6_shortest 34 = .ok (.istore_n 1, 1) := by decide +kernel
theorem dX6_shortest_35 : decode cX6_shortest 35 = .ok (.iinc 2 1, 3) := by decide +kernel
theorem dX6_shortest_38 : decode cX6_shortest 38 = .ok (.goto (-33), 3) := by decide +kernel
theorem dX6_shortest_41 : decode cX6_shortest 41 = .ok (.iload_n 1, 1) := by decide +kernel
theorem dX6_shortest_42 : decode cX6_shortest 42 = .ok (.ireturn, 1) := by decide +kernel
theorem dX6_canSee_0 : decode cX6_canSee 0 = .ok (.iconst 0, 1) := by decide +kernel
theorem dX6_canSee_1 : decode cX6_canSee 1 = .ok (.istore_n 1, 1) := by decide +kernel
theorem dX6_canSee_2 : decode cX6_canSee 2 = .ok (.iconst 0, 1) := by decide +kernel
theorem dX6_canSee_3 : decode cX6_canSee 3 = .ok (.istore_n 2, 1) := by decide +kernel
theorem dX6_canSee_4 : decode cX6_canSee 4 = .ok (.iload_n 2, 1) := by decide +kernel
theorem dX6_canSee_5 : decode cX6_canSee 5 = .ok (.aload_n 0, 1) := by decide +kernel
theorem dX6_canSee_6 : decode cX6_canSee 6 = .ok (.getfield 18, 3) := by decide +kernel
theorem dX6_canSee_9 : decode cX6_canSee 9 = .ok (.if_icmp .ge 18, 3) := by decide +kernel
theorem dX6_canSee_12 : decode cX6_canSee 12 = .ok (.iload_n 1, 1) := by decide +kernel
theorem dX6_canSee_13 : decode cX6_canSee 13 = .ok (.aload_n 0, 1) := by decide +kernel
theorem dX6_canSee_14 : decode cX6_canSee 14 = .ok (.getfield 11, 3) := by decide +kernel
theorem dX6_canSee_17 : decode cX6_canSee 17 = .ok (.iload_n 2, 1) := by decide +kernel
theorem dX6_canSee_18 : decode cX6_canSee 18 = .ok (.iaload, 1) := by decide +kernel
theorem dX6_canSee_19 : decode cX6_canSee 19 = .ok (.ior, 1) := by decide +kernel
theorem dX6_canSee_20 : decode cX6_canSee 20 = .ok (.istore_n 1, 1) := by decide +kernel
theorem dX6_canSee_21 : decode cX6_canSee 21 = .ok (.iinc 2 1, 3) := by decide +kernel
theorem dX6_canSee_24 : decode cX6_canSee 24 = .ok (.goto (-20), 3) := by decide +kernel
theorem dX6_canSee_27 : decode cX6_canSee 27 = .ok (.iload_n 1, 1) := by decide +kernel
theorem dX6_canSee_28 : decode cX6_canSee 28 = .ok (.sipush 4095, 3) := by decide +kernel
theorem dX6_canSee_31 : decode cX6_canSee 31 = .ok (.iand, 1) := by decide +kernel
theorem dX6_canSee_32 : decode cX6_canSee 32 = .ok (.ireturn, 1) := by decide +kernel
theorem dX6_endingsBy_0 : decode cX6_endingsBy 0 = .ok (.iconst 0, 1) := by decide +kernel
theorem dX6_endingsBy_1 : decode cX6_endingsBy 1 = .ok (.istore_n 3, 1) := by decide +kernel
theorem dX6_endingsBy_2 : decode cX6_endingsBy 2 = .ok (.iconst 0, 1) := by decide +kernel
theorem dX6_endingsBy_3 : decode cX6_endingsBy 3 = .ok (.istore 4, 2) := by decide +kernel
theorem dX6_endingsBy_5 : decode cX6_endingsBy 5 = .ok (.iload 4, 2) := by decide +kernel
theorem dX6_endingsBy_7 : decode cX6_endingsBy 7 = .ok (.aload_n 0, 1) := by decide +kernel
theorem dX6_endingsBy_8 : decode cX6_endingsBy 8 = .ok (.getfield 18, 3) := by decide +kernel
theorem dX6_endingsBy_11 : decode cX6_endingsBy 11 = .ok (.if_icmp .ge 49, 3) := by decide +kernel
theorem dX6_endingsBy_14 : decode cX6_endingsBy 14 = .ok (.aload_n 0, 1) := by decide +kernel
theorem dX6_endingsBy_15 : decode cX6_endingsBy 15 = .ok (.iload 4, 2) := by decide +kernel
theorem dX6_endingsBy_17 : decode cX6_endingsBy 17 = .ok (.invokevirtual 67, 3) := by decide +kernel
theorem dX6_endingsBy_20 : decode cX6_endingsBy 20 = .ok (.ifCond .eq 34, 3) := by decide +kernel
theorem dX6_endingsBy_23 : decode cX6_endingsBy 23 = .ok (.aload_n 0, 1) := by decide +kernel
theorem dX6_endingsBy_24 : decode cX6_endingsBy 24 = .ok (.getfield 11, 3) := by decide +kernel
theorem dX6_endingsBy_27 : decode cX6_endingsBy 27 = .ok (.iload 4, 2) := by decide +kernel
theorem dX6_endingsBy_29 : decode cX6_endingsBy 29 = .ok (.iaload, 1) := by decide +kernel
theorem dX6_endingsBy_30 : decode cX6_endingsBy 30 = .ok (.iload_n 2, 1) := by decide +kernel
theorem dX6_endingsBy_31 : decode cX6_endingsBy 31 = .ok (.iand, 1) := by decide +kernel
theorem dX6_endingsBy_32 : decode cX6_endingsBy 32 = .ok (.ifCond .eq 22, 3) := by decide +kernel
theorem dX6_endingsBy_35 : decode cX6_endingsBy 35 = .ok (.iload_n 3, 1) := by decide +kernel
theorem dX6_endingsBy_36 : decode cX6_endingsBy 36 = .ok (.iconst 1, 1) := by decide +kernel
theorem dX6_endingsBy_37 : decode cX6_endingsBy 37 = .ok (.aload_n 1, 1) := by decide +kernel
theorem dX6_endingsBy_38 : decode cX6_endingsBy 38 = .ok (.aload_n 0, 1) := by decide +kernel
theorem dX6_endingsBy_39 : decode cX6_endingsBy 39 = .ok (.getfield 11, 3) := by decide +kernel
theorem dX6_endingsBy_42 : decode cX6_endingsBy 42 = .ok (.iload 4, 2) := by decide +kernel
theorem dX6_endingsBy_44 : decode cX6_endingsBy 44 = .ok (.iaload, 1) := by decide +kernel
theorem dX6_endingsBy_45 : decode cX6_endingsBy 45 = .ok (.invokestatic 51, 3) := by decide +kernel
theorem dX6_endingsBy_48 : decode cX6_endingsBy 48 = .ok (.invokevirtual 83, 3) := by decide +kernel
theorem dX6_endingsBy_51 : decode cX6_endingsBy 51 = .ok (.ishl, 1) := by decide +kernel
theorem dX6_endingsBy_52 : decode cX6_endingsBy 52 = .ok (.ior, 1) := by decide +kernel
theorem dX6_endingsBy_53 : decode cX6_endingsBy 53 = .ok (.istore_n 3, 1) := by decide +kernel
theorem dX6_endingsBy_54 : decode cX6_endingsBy 54 = .ok (.iinc 4 1, 3) := by decide +kernel
theorem dX6_endingsBy_57 : decode cX6_endingsBy 57 = .ok (.goto (-52), 3) := by decide +kernel
theorem dX6_endingsBy_60 : decode cX6_endingsBy 60 = .ok (.iload_n 3, 1) := by decide +kernel
theorem dX6_endingsBy_61 : decode cX6_endingsBy 61 = .ok (.ireturn, 1) := by decide +kernel
theorem dX6_endsAt_0 : decode cX6_endsAt 0 = .ok (.aload_n 0, 1) := by decide +kernel
theorem dX6_endsAt_1 : decode cX6_endsAt 1 = .ok (.iload_n 2, 1) := by decide +kernel
theorem dX6_endsAt_2 : decode cX6_endsAt 2 = .ok (.invokevirtual 67, 3) := by decide +kernel
theorem dX6_endsAt_5 : decode cX6_endsAt 5 = .ok (.ifCond .eq 24, 3) := by decide +kernel
theorem dX6_endsAt_8 : decode cX6_endsAt 8 = .ok (.aload_n 1, 1) := by decide +kernel
theorem dX6_endsAt_9 : decode cX6_endsAt 9 = .ok (.aload_n 0, 1) := by decide +kernel
theorem dX6_endsAt_10 : decode cX6_endsAt 10 = .ok (.getfield 11, 3) := by decide +kernel
theorem dX6_endsAt_13 : decode cX6_endsAt 13 = .ok (.iload_n 2, 1) := by decide +kernel
theorem dX6_endsAt_14 : decode cX6_endsAt 14 = .ok (.iaload, 1) := by decide +kernel
theorem dX6_endsAt_15 : decode cX6_endsAt 15 = .ok (.invokestatic 51, 3) := by decide +kernel
theorem dX6_endsAt_18 : decode cX6_endsAt 18 = .ok (.invokevirtual 83, 3) := by decide +kernel
theorem dX6_endsAt_21 : decode cX6_endsAt 21 = .ok (.iload_n 3, 1) := by decide +kernel
theorem dX6_endsAt_22 : decode cX6_endsAt 22 = .ok (.if_icmp .ne 7, 3) := by decide +kernel
theorem dX6_endsAt_25 : decode cX6_endsAt 25 = .ok (.iconst 1, 1) := by decide +kernel
theorem dX6_endsAt_26 : decode cX6_endsAt 26 = .ok (.goto 4, 3) := by decide +kernel
theorem dX6_endsAt_29 : decode cX6_endsAt 29 = .ok (.iconst 0, 1) := by decide +kernel
theorem dX6_endsAt_30 : decode cX6_endsAt 30 = .ok (.ireturn, 1) := by decide +kernel
theorem dX6_shortestTo_0 : decode cX6_shortestTo 0 = .ok (.iconst 0, 1) := by decide +kernel
theorem dX6_shortestTo_1 : decode cX6_shortestTo 1 = .ok (.istore_n 3, 1) := by decide +kernel
theorem dX6_shortestTo_2 : decode cX6_shortestTo 2 = .ok (.iconst 0, 1) := by decide +kernel
theorem dX6_shortestTo_3 : decode cX6_shortestTo 3 = .ok (.istore 4, 2) := by decide +kernel
theorem dX6_shortestTo_5 : decode cX6_shortestTo 5 = .ok (.iload 4, 2) := by decide +kernel
theorem dX6_shortestTo_7 : decode cX6_shortestTo 7 = .ok (.aload_n 0, 1) := by decide +kernel
theorem dX6_shortestTo_8 : decode cX6_shortestTo 8 = .ok (.getfield 18, 3) := by decide +kernel
theorem dX6_shortestTo_11 : decode cX6_shortestTo 11 = .ok (.if_icmp .ge 41, 3) := by decide +kernel
theorem dX6_shortestTo_14 : decode cX6_shortestTo 14 = .ok (.aload_n 0, 1) := by decide +kernel
theorem dX6_shortestTo_15 : decode cX6_shortestTo 15 = .ok (.aload_n 1, 1) := by decide +kernel
theorem dX6_shortestTo_16 : decode cX6_shortestTo 16 = .ok (.iload 4, 2) := by decide +kernel
theorem dX6_shortestTo_18 : decode cX6_shortestTo 18 = .ok (.iload_n 2, 1) := by decide +kernel
theorem dX6_shortestTo_19 : decode cX6_shortestTo 19 = .ok (.invokevirtual 86, 3) := by decide +kernel
theorem dX6_shortestTo_22 : decode cX6_shortestTo 22 = .ok (.ifCond .eq 24, 3) := by decide +kernel
theorem dX6_shortestTo_25 : decode cX6_shortestTo 25 = .ok (.iload_n 3, 1) := by decide +kernel
theorem dX6_shortestTo_26 : decode cX6_shortestTo 26 = .ok (.ifCond .eq 13, 3) := by decide +kernel
theorem dX6_shortestTo_29 : decode cX6_shortestTo 29 = .ok (.aload_n 0, 1) := by decide +kernel
theorem dX6_shortestTo_30 : decode cX6_shortestTo 30 = .ok (.iload 4, 2) := by decide +kernel
theorem dX6_shortestTo_32 : decode cX6_shortestTo 32 = .ok (.invokevirtual 71, 3) := by decide +kernel
theorem dX6_shortestTo_35 : decode cX6_shortestTo 35 = .ok (.iload_n 3, 1) := by decide +kernel
theorem dX6_shortestTo_36 : decode cX6_shortestTo 36 = .ok (.if_icmp .ge 10, 3) := by decide +kernel
theorem dX6_shortestTo_39 : decode cX6_shortestTo 39 = .ok (.aload_n 0, 1) := by decide +kernel
theorem dX6_shortestTo_40 : decode cX6_shortestTo 40 = .ok (.iload 4, 2) := by decide +kernel
theorem dX6_shortestTo_42 : decode cX6_shortestTo 42 = .ok (.invokevirtual 71, 3) := by decide +kernel
theorem dX6_shortestTo_45 : decode cX6_shortestTo 45 = .ok (.istore_n 3, 1) := by decide +kernel
theorem dX6_shortestTo_46 : decode cX6_shortestTo 46 = .ok (.iinc 4 1, 3) := by decide +kernel
theorem dX6_shortestTo_49 : decode cX6_shortestTo 49 = .ok (.goto (-44), 3) := by decide +kernel
theorem dX6_shortestTo_52 : decode cX6_shortestTo 52 = .ok (.iload_n 3, 1) := by decide +kernel
theorem dX6_shortestTo_53 : decode cX6_shortestTo 53 = .ok (.ireturn, 1) := by decide +kernel
theorem dX6_steerTo_0 : decode cX6_steerTo 0 = .ok (.aload_n 0, 1) := by decide +kernel
theorem dX6_steerTo_1 : decode cX6_steerTo 1 = .ok (.getfield 31, 3) := by decide +kernel
theorem dX6_steerTo_4 : decode cX6_steerTo 4 = .ok (.istore 5, 2) := by decide +kernel
theorem dX6_steerTo_6 : decode cX6_steerTo 6 = .ok (.aload_n 1, 1) := by decide +kernel
theorem dX6_steerTo_7 : decode cX6_steerTo 7 = .ok (.getfield 22, 3) := by decide +kernel
theorem dX6_steerTo_10 : decode cX6_steerTo 10 = .ok (.istore 6, 2) := by decide +kernel
theorem dX6_steerTo_12 : decode cX6_steerTo 12 = .ok (.iconst 0, 1) := by decide +kernel
theorem dX6_steerTo_13 : decode cX6_steerTo 13 = .ok (.istore 7, 2) := by decide +kernel
theorem dX6_steerTo_15 : decode cX6_steerTo 15 = .ok (.iload 7, 2) := by decide +kernel
theorem dX6_steerTo_17 : decode cX6_steerTo 17 = .ok (.iload_n 3, 1) := by decide +kernel
theorem dX6_steerTo_18 : decode cX6_steerTo 18 = .ok (.if_icmp .ge 155, 3) := by decide +kernel
theorem dX6_steerTo_21 : decode cX6_steerTo 21 = .ok (.iload 7, 2) := by decide +kernel
theorem dX6_steerTo_23 : decode cX6_steerTo 23 = .ok (.aload 4, 2) := by decide +kernel
theorem dX6_steerTo_25 : decode cX6_steerTo 25 = .ok (.arraylength, 1) := by decide +kernel
theorem dX6_steerTo_26 : decode cX6_steerTo 26 = .ok (.if_icmp .ge 147, 3) := by decide +kernel
theorem dX6_steerTo_29 : decode cX6_steerTo 29 = .ok (.iload 5, 2) := by decide +kernel
theorem dX6_steerTo_31 : decode cX6_steerTo 31 = .ok (.invokestatic 51, 3) := by decide +kernel
theorem dX6_steerTo_34 : decode cX6_steerTo 34 = .ok (.istore 8, 2) := by decide +kernel
theorem dX6_steerTo_36 : decode cX6_steerTo 36 = .ok (.iload 6, 2) := by decide +kernel
theorem dX6_steerTo_38 : decode cX6_steerTo 38 = .ok (.aload_n 1, 1) := by decide +kernel
theorem dX6_steerTo_39 : decode cX6_steerTo 39 = .ok (.getfield 42, 3) := by decide +kernel
theorem dX6_steerTo_42 : decode cX6_steerTo 42 = .ok (.iload 8, 2) := by decide +kernel
theorem dX6_steerTo_44 : decode cX6_steerTo 44 = .ok (.invokevirtual 46, 3) := by decide +kernel
theorem dX6_steerTo_47 : decode cX6_steerTo 47 = .ok (.ior, 1) := by decide +kernel
theorem dX6_steerTo_48 : decode cX6_steerTo 48 = .ok (.istore 6, 2) := by decide +kernel
theorem dX6_steerTo_50 : decode cX6_steerTo 50 = .ok (.iconst 0, 1) := by decide +kernel
theorem dX6_steerTo_51 : decode cX6_steerTo 51 = .ok (.istore 9, 2) := by decide +kernel
theorem dX6_steerTo_53 : decode cX6_steerTo 53 = .ok (.iload 9, 2) := by decide +kernel
theorem dX6_steerTo_55 : decode cX6_steerTo 55 = .ok (.iconst 4, 1) := by decide +kernel
theorem dX6_steerTo_56 : decode cX6_steerTo 56 = .ok (.if_icmp .ge 111, 3) := by decide +kernel
theorem dX6_steerTo_59 : decode cX6_steerTo 59 = .ok (.aload_n 1, 1) := by decide +kernel
theorem dX6_steerTo_60 : decode cX6_steerTo 60 = .ok (.iload 8, 2) := by decide +kernel
theorem dX6_steerTo_62 : decode cX6_steerTo 62 = .ok (.iload 9, 2) := by decide +kernel
theorem dX6_steerTo_64 : decode cX6_steerTo 64 = .ok (.iload 6, 2) := by decide +kernel
theorem dX6_steerTo_66 : decode cX6_steerTo 66 = .ok (.invokevirtual 54, 3) := by decide +kernel
theorem dX6_steerTo_69 : decode cX6_steerTo 69 = .ok (.istore 10, 2) := by decide +kernel
theorem dX6_steerTo_71 : decode cX6_steerTo 71 = .ok (.iload 7, 2) := by decide +kernel
theorem dX6_steerTo_73 : decode cX6_steerTo 73 = .ok (.iconst 1, 1) := by decide +kernel
theorem dX6_steerTo_74 : decode cX6_steerTo 74 = .ok (.iadd, 1) := by decide +kernel
theorem dX6_steerTo_75 : decode cX6_steerTo 75 = .ok (.iload_n 3, 1) := by decide +kernel
theorem dX6_steerTo_76 : decode cX6_steerTo 76 = .ok (.if_icmp .ne 17, 3) := by decide +kernel
theorem dX6_steerTo_79 : decode cX6_steerTo 79 = .ok (.iload 10, 2) := by decide +kernel
theorem dX6_steerTo_81 : decode cX6_steerTo 81 = .ok (.iconst (-1), 1) := by decide +kernel
theorem dX6_steerTo_82 : decode cX6_steerTo 82 = .ok (.if_icmp .ne 7, 3) := by decide +kernel
theorem dX6_steerTo_85 : decode cX6_steerTo 85 = .ok (.iconst 1, 1) := by decide +kernel
theorem dX6_steerTo_86 : decode cX6_steerTo 86 = .ok (.goto 38, 3) := by decide +kernel
theorem dX6_steerTo_89 : decode cX6_steerTo 89 = .ok (.iconst 0, 1) := by decide +kernel
theorem dX6_steerTo_90 : decode cX6_steerTo 90 = .ok (.goto 34, 3) := by decide +kernel
theorem dX6_steerTo_93 : decode cX6_steerTo 93 = .ok (.iload 10, 2) := by decide +kernel
theorem dX6_steerTo_95 : decode cX6_steerTo 95 = .ok (.iconst (-1), 1) := by decide +kernel
theorem dX6_steerTo_96 : decode cX6_steerTo 96 = .ok (.if_icmp .eq 27, 3) := by decide +kernel
theorem dX6_steerTo_99 : decode cX6_steerTo 99 = .ok (.aload_n 0, 1) := by decide +kernel
theorem dX6_steerTo_100 : decode cX6_steerTo 100 = .ok (.aload_n 1, 1) := by decide +kernel
theorem dX6_steerTo_101 : decode cX6_steerTo 101 = .ok (.getfield 42, 3) := by decide +kernel
theorem dX6_steerTo_104 : decode cX6_steerTo 104 = .ok (.iload 5, 2) := by decide +kernel
theorem dX6_steerTo_106 : decode cX6_steerTo 106 = .ok (.iconst 1, 1) := by decide +kernel
theorem dX6_steerTo_107 : decode cX6_steerTo 107 = .ok (.iload 10, 2) := by decide +kernel
theorem dX6_steerTo_109 : decode cX6_steerTo 109 = .ok (.ishl, 1) := by decide +kernel
theorem dX6_steerTo_110 : decode cX6_steerTo 110 = .ok (.ior, 1) := by decide +kernel
theorem dX6_steerTo_111 : decode cX6_steerTo 111 = .ok (.iload_n 2, 1) := by decide +kernel
theorem dX6_steerTo_112 : decode cX6_steerTo 112 = .ok (.iload_n 3, 1) := by decide +kernel
theorem dX6_steerTo_113 : decode cX6_steerTo 113 = .ok (.invokevirtual 90, 3) := by decide +kernel
theorem dX6_steerTo_116 : decode cX6_steerTo 116 = .ok (.ifCond .eq 7, 3) := by decide +kernel
theorem dX6_steerTo_119 : decode cX6_steerTo 119 = .ok (.iconst 1, 1) := by decide +kernel
theorem dX6_steerTo_120 : decode cX6_steerTo 120 = .ok (.goto 4, 3) := by decide +kernel
theorem dX6_steerTo_123 : decode cX6_steerTo 123 = .ok (.iconst 0, 1) := by decide +kernel
theorem dX6_steerTo_124 : decode cX6_steerTo 124 = .ok (.istore 11, 2) := by decide +kernel
theorem dX6_steerTo_126 : decode cX6_steerTo 126 = .ok (.iload 11, 2) := by decide +kernel
theorem dX6_steerTo_128 : decode cX6_steerTo 128 = .ok (.ifCond .eq 33, 3) := by decide +kernel
theorem dX6_steerTo_131 : decode cX6_steerTo 131 = .ok (.aload 4, 2) := by decide +kernel
theorem dX6_steerTo_133 : decode cX6_steerTo 133 = .ok (.iload 7, 2) := by decide +kernel
theorem dX6_steerTo_135 : decode cX6_steerTo 135 = .ok (.iload 9, 2) := by decide +kernel
theorem dX6_steerTo_137 : decode cX6_steerTo 137 = .ok (.iastore, 1) := by decide +kernel
theorem dX6_steerTo_138 : decode cX6_steerTo 138 = .ok (.iload 10, 2) := by decide +kernel
theorem dX6_steerTo_140 : decode cX6_steerTo 140 = .ok (.iconst (-1), 1) := by decide +kernel
theorem dX6_steerTo_141 : decode cX6_steerTo 141 = .ok (.if_icmp .ne 8, 3) := by decide +kernel
theorem dX6_steerTo_144 : decode cX6_steerTo 144 = .ok (.iload 5, 2) := by decide +kernel
theorem dX6_steerTo_146 : decode cX6_steerTo 146 = .ok (.goto 10, 3) := by decide +kernel
theorem dX6_steerTo_149 : decode cX6_steerTo 149 = .ok (.iload 5, 2) := by decide +kernel
theorem dX6_steerTo_151 : decode cX6_steerTo 151 = .ok (.iconst 1, 1) := by decide +kernel
theorem dX6_steerTo_152 : decode cX6_steerTo 152 = .ok (.iload 10, 2) := by decide +kernel
theorem dX6_steerTo_154 : decode cX6_steerTo 154 = .ok (.ishl, 1) := by decide +kernel
theorem dX6_steerTo_155 : decode cX6_steerTo 155 = .ok (.ior, 1) := by decide +kernel
theorem dX6_steerTo_156 : decode cX6_steerTo 156 = .ok (.istore 5, 2) := by decide +kernel
theorem dX6_steerTo_158 : decode cX6_steerTo 158 = .ok (.goto 9, 3) := by decide +kernel
theorem dX6_steerTo_161 : decode cX6_steerTo 161 = .ok (.iinc 9 1, 3) := by decide +kernel
theorem dX6_steerTo_164 : decode cX6_steerTo 164 = .ok (.goto (-111), 3) := by decide +kernel
theorem dX6_steerTo_167 : decode cX6_steerTo 167 = .ok (.iinc 7 1, 3) := by decide +kernel
theorem dX6_steerTo_170 : decode cX6_steerTo 170 = .ok (.goto (-155), 3) := by decide +kernel
theorem dX6_steerTo_173 : decode cX6_steerTo 173 = .ok (.return_, 1) := by decide +kernel
theorem dX6_someGoesBy_0 : decode cX6_someGoesBy 0 = .ok (.iload_n 2, 1) := by decide +kernel
theorem dX6_someGoesBy_1 : decode cX6_someGoesBy 1 = .ok (.invokestatic 51, 3) := by decide +kernel
theorem dX6_someGoesBy_4 : decode cX6_someGoesBy 4 = .ok (.istore 5, 2) := by decide +kernel
theorem dX6_someGoesBy_6 : decode cX6_someGoesBy 6 = .ok (.iconst 0, 1) := by decide +kernel
theorem dX6_someGoesBy_7 : decode cX6_someGoesBy 7 = .ok (.istore 6, 2) := by decide +kernel
theorem dX6_someGoesBy_9 : decode cX6_someGoesBy 9 = .ok (.iload 6, 2) := by decide +kernel
theorem dX6_someGoesBy_11 : decode cX6_someGoesBy 11 = .ok (.aload_n 0, 1) := by decide +kernel
theorem dX6_someGoesBy_12 : decode cX6_someGoesBy 12 = .ok (.getfield 18, 3) := by decide +kernel
theorem dX6_someGoesBy_15 : decode cX6_someGoesBy 15 = .ok (.if_icmp .ge 66, 3) := by decide +kernel
theorem dX6_someGoesBy_18 : decode cX6_someGoesBy 18 = .ok (.aload_n 0, 1) := by decide +kernel
theorem dX6_someGoesBy_19 : decode cX6_someGoesBy 19 = .ok (.getfield 11, 3) := by decide +kernel
theorem dX6_someGoesBy_22 : decode cX6_someGoesBy 22 = .ok (.iload 6, 2) := by decide +kernel
theorem dX6_someGoesBy_24 : decode cX6_someGoesBy 24 = .ok (.iaload, 1) := by decide +kernel
theorem dX6_someGoesBy_25 : decode cX6_someGoesBy 25 = .ok (.sipush 4095, 3) := by decide +kernel
theorem dX6_someGoesBy_28 : decode cX6_someGoesBy 28 = .ok (.iand, 1) := by decide +kernel
theorem dX6_someGoesBy_29 : decode cX6_someGoesBy 29 = .ok (.iload 5, 2) := by decide +kernel
theorem dX6_someGoesBy_31 : decode cX6_someGoesBy 31 = .ok (.ishr, 1) := by decide +kernel
theorem dX6_someGoesBy_32 : decode cX6_someGoesBy 32 = .ok (.iload_n 2, 1) := by decide +kernel
theorem dX6_someGoesBy_33 : decode cX6_someGoesBy 33 = .ok (.iload 5, 2) := by decide +kernel
theorem dX6_someGoesBy_35 : decode cX6_someGoesBy 35 = .ok (.ishr, 1) := by decide +kernel
theorem dX6_someGoesBy_36 : decode cX6_someGoesBy 36 = .ok (.if_icmp .ne 7, 3) := by decide +kernel
theorem dX6_someGoesBy_39 : decode cX6_someGoesBy 39 = .ok (.iconst 1, 1) := by decide +kernel
theorem dX6_someGoesBy_40 : decode cX6_someGoesBy 40 = .ok (.goto 4, 3) := by decide +kernel
theorem dX6_someGoesBy_43 : decode cX6_someGoesBy 43 = .ok (.iconst 0, 1) := by decide +kernel
theorem dX6_someGoesBy_44 : decode cX6_someGoesBy 44 = .ok (.istore 7, 2) := by decide +kernel
theorem dX6_someGoesBy_46 : decode cX6_someGoesBy 46 = .ok (.iload 7, 2) := by decide +kernel
theorem dX6_someGoesBy_48 : decode cX6_someGoesBy 48 = .ok (.ifCond .eq 27, 3) := by decide +kernel
theorem dX6_someGoesBy_51 : decode cX6_someGoesBy 51 = .ok (.aload_n 0, 1) := by decide +kernel
theorem dX6_someGoesBy_52 : decode cX6_someGoesBy 52 = .ok (.aload_n 1, 1) := by decide +kernel
theorem dX6_someGoesBy_53 : decode cX6_someGoesBy 53 = .ok (.iload 6, 2) := by decide +kernel
theorem dX6_someGoesBy_55 : decode cX6_someGoesBy 55 = .ok (.iload_n 3, 1) := by decide +kernel
theorem dX6_someGoesBy_56 : decode cX6_someGoesBy 56 = .ok (.invokevirtual 86, 3) := by decide +kernel
theorem dX6_someGoesBy_59 : decode cX6_someGoesBy 59 = .ok (.ifCond .eq 16, 3) := by decide +kernel
theorem dX6_someGoesBy_62 : decode cX6_someGoesBy 62 = .ok (.aload_n 0, 1) := by decide +kernel
theorem dX6_someGoesBy_63 : decode cX6_someGoesBy 63 = .ok (.iload 6, 2) := by decide +kernel
theorem dX6_someGoesBy_65 : decode cX6_someGoesBy 65 = .ok (.invokevirtual 71, 3) := by decide +kernel
theorem dX6_someGoesBy_68 : decode cX6_someGoesBy 68 = .ok (.iload 4, 2) := by decide +kernel
theorem dX6_someGoesBy_70 : decode cX6_someGoesBy 70 = .ok (.if_icmp .ne 5, 3) := by decide +kernel
theorem dX6_someGoesBy_73 : decode cX6_someGoesBy 73 = .ok (.iconst 1, 1) := by decide +kernel
theorem dX6_someGoesBy_74 : decode cX6_someGoesBy 74 = .ok (.ireturn, 1) := by decide +kernel
theorem dX6_someGoesBy_75 : decode cX6_someGoesBy 75 = .ok (.iinc 6 1, 3) := by decide +kernel
theorem dX6_someGoesBy_78 : decode cX6_someGoesBy 78 = .ok (.goto (-69), 3) := by decide +kernel
theorem dX6_someGoesBy_81 : decode cX6_someGoesBy 81 = .ok (.iconst 0, 1) := by decide +kernel
theorem dX6_someGoesBy_82 : decode cX6_someGoesBy 82 = .ok (.ireturn, 1) := by decide +kernel
theorem dX6_fewestForAll_0 : decode cX6_fewestForAll 0 = .ok (.aload_n 0, 1) := by decide +kernel
theorem dX6_fewestForAll_1 : decode cX6_fewestForAll 1 = .ok (.invokevirtual 94, 3) := by decide +kernel
theorem dX6_fewestForAll_4 : decode cX6_fewestForAll 4 = .ok (.aload_n 0, 1) := by decide +kernel
theorem dX6_fewestForAll_5 : decode cX6_fewestForAll 5 = .ok (.getfield 31, 3) := by decide +kernel
theorem dX6_fewestForAll_8 : decode cX6_fewestForAll 8 = .ok (.iconst (-1), 1) := by decide +kernel
theorem dX6_fewestForAll_9 : decode cX6_fewestForAll 9 = .ok (.ixor, 1) := by decide +kernel
theorem dX6_fewestForAll_10 : decode cX6_fewestForAll 10 = .ok (.iand, 1) := by decide +kernel
theorem dX6_fewestForAll_11 : decode cX6_fewestForAll 11 = .ok (.istore_n 1, 1) := by decide +kernel
theorem dX6_fewestForAll_12 : decode cX6_fewestForAll 12 = .ok (.iload_n 1, 1) := by decide +kernel
theorem dX6_fewestForAll_13 : decode cX6_fewestForAll 13 = .ok (.ifCond .ne 5, 3) := by decide +kernel
theorem dX6_fewestForAll_16 : decode cX6_fewestForAll 16 = .ok (.iconst 1, 1) := by decide +kernel
theorem dX6_fewestForAll_17 : decode cX6_fewestForAll 17 = .ok (.ireturn, 1) := by decide +kernel
theorem dX6_fewestForAll_18 : decode cX6_fewestForAll 18 = .ok (.aload_n 0, 1) := by decide +kernel
theorem dX6_fewestForAll_19 : decode cX6_fewestForAll 19 = .ok (.getfield 15, 3) := by decide +kernel
theorem dX6_fewestForAll_22 : decode cX6_fewestForAll 22 = .ok (.bipush 12, 2) := by decide +kernel
theorem dX6_fewestForAll_24 : decode cX6_fewestForAll 24 = .ok (.invokestatic 98, 3) := by decide +kernel
theorem dX6_fewestForAll_27 : decode cX6_fewestForAll 27 = .ok (.aload_n 0, 1) := by decide +kernel
theorem dX6_fewestForAll_28 : decode cX6_fewestForAll 28 = .ok (.getfield 15, 3) := by decide +kernel
theorem dX6_fewestForAll_31 : decode cX6_fewestForAll 31 = .ok (.iload_n 1, 1) := by decide +kernel
theorem dX6_fewestForAll_32 : decode cX6_fewestForAll 32 = .ok (.iconst 0, 1) := by decide +kernel
theorem dX6_fewestForAll_33 : decode cX6_fewestForAll 33 = .ok (.iastore, 1) := by decide +kernel
theorem dX6_fewestForAll_34 : decode cX6_fewestForAll 34 = .ok (.iload_n 1, 1) := by decide +kernel
theorem dX6_fewestForAll_35 : decode cX6_fewestForAll 35 = .ok (.istore_n 2, 1) := by decide +kernel
theorem dX6_fewestForAll_36 : decode cX6_fewestForAll 36 = .ok (.iload_n 2, 1) := by decide +kernel
theorem dX6_fewestForAll_37 : decode cX6_fewestForAll 37 = .ok (.ifCond .le 31, 3) := by decide +kernel
theorem dX6_fewestForAll_40 : decode cX6_fewestForAll 40 = .ok (.aload_n 0, 1) := by decide +kernel
theorem dX6_fewestForAll_41 : decode cX6_fewestForAll 41 = .ok (.getfield 15, 3) := by decide +kernel
theorem dX6_fewestForAll_44 : decode cX6_fewestForAll 44 = .ok (.iload_n 2, 1) := by decide +kernel
theorem dX6_fewestForAll_45 : decode cX6_fewestForAll 45 = .ok (.iaload, 1) := by decide +kernel
theorem dX6_fewestForAll_46 : decode cX6_fewestForAll 46 = .ok (.iconst 1, 1) := by decide +kernel
theorem dX6_fewestForAll_47 : decode cX6_fewestForAll 47 = .ok (.iadd, 1) := by decide +kernel
theorem dX6_fewestForAll_48 : decode cX6_fewestForAll 48 = .ok (.aload_n 0, 1) := by decide +kernel
theorem dX6_fewestForAll_49 : decode cX6_fewestForAll 49 = .ok (.getfield 15, 3) := by decide +kernel
theorem dX6_fewestForAll_52 : decode cX6_fewestForAll 52 = .ok (.iconst 0, 1) := by decide +kernel
theorem dX6_fewestForAll_53 : decode cX6_fewestForAll 53 = .ok (.iaload, 1) := by decide +kernel
theorem dX6_fewestForAll_54 : decode cX6_fewestForAll 54 = .ok (.if_icmp .ge 8, 3) := by decide +kernel
theorem dX6_fewestForAll_57 : decode cX6_fewestForAll 57 = .ok (.aload_n 0, 1) := by decide +kernel
theorem dX6_fewestForAll_58 : decode cX6_fewestForAll 58 = .ok (.iload_n 2, 1) := by decide +kernel
theorem dX6_fewestForAll_59 : decode cX6_fewestForAll 59 = .ok (.invokevirtual 104, 3) := by decide +kernel
theorem dX6_fewestForAll_62 : decode cX6_fewestForAll 62 = .ok (.iinc 2 (-1), 3) := by decide +kernel
theorem dX6_fewestForAll_65 : decode cX6_fewestForAll 65 = .ok (.goto (-29), 3) := by decide +kernel
theorem dX6_fewestForAll_68 : decode cX6_fewestForAll 68 = .ok (.aload_n 0, 1) := by decide +kernel
theorem dX6_fewestForAll_69 : decode cX6_fewestForAll 69 = .ok (.getfield 15, 3) := by decide +kernel
theorem dX6_fewestForAll_72 : decode cX6_fewestForAll 72 = .ok (.iconst 0, 1) := by decide +kernel
theorem dX6_fewestForAll_73 : decode cX6_fewestForAll 73 = .ok (.iaload, 1) := by decide +kernel
theorem dX6_fewestForAll_74 : decode cX6_fewestForAll 74 = .ok (.ireturn, 1) := by decide +kernel
theorem dX6_showMore_0 : decode cX6_showMore 0 = .ok (.iconst 1, 1) := by decide +kernel
theorem dX6_showMore_1 : decode cX6_showMore 1 = .ok (.iload_n 1, 1) := by decide +kernel
theorem dX6_showMore_2 : decode cX6_showMore 2 = .ok (.invokestatic 51, 3) := by decide +kernel
theorem dX6_showMore_5 : decode cX6_showMore 5 = .ok (.ishl, 1) := by decide +kernel
theorem dX6_showMore_6 : decode cX6_showMore 6 = .ok (.istore_n 2, 1) := by decide +kernel
theorem dX6_showMore_7 : decode cX6_showMore 7 = .ok (.aload_n 0, 1) := by decide +kernel
theorem dX6_showMore_8 : decode cX6_showMore 8 = .ok (.getfield 15, 3) := by decide +kernel
theorem dX6_showMore_11 : decode cX6_showMore 11 = .ok (.iload_n 1, 1) := by decide +kernel
theorem dX6_showMore_12 : decode cX6_showMore 12 = .ok (.iaload, 1) := by decide +kernel
theorem dX6_showMore_13 : decode cX6_showMore 13 = .ok (.iconst 1, 1) := by decide +kernel
theorem dX6_showMore_14 : decode cX6_showMore 14 = .ok (.iadd, 1) := by decide +kernel
theorem dX6_showMore_15 : decode cX6_showMore 15 = .ok (.istore_n 3, 1) := by decide +kernel
theorem dX6_showMore_16 : decode cX6_showMore 16 = .ok (.iconst 0, 1) := by decide +kernel
theorem dX6_showMore_17 : decode cX6_showMore 17 = .ok (.istore 4, 2) := by decide +kernel
theorem dX6_showMore_19 : decode cX6_showMore 19 = .ok (.iload 4, 2) := by decide +kernel
theorem dX6_showMore_21 : decode cX6_showMore 21 = .ok (.aload_n 0, 1) := by decide +kernel
theorem dX6_showMore_22 : decode cX6_showMore 22 = .ok (.getfield 18, 3) := by decide +kernel
theorem dX6_showMore_25 : decode cX6_showMore 25 = .ok (.if_icmp .ge 61, 3) := by decide +kernel
theorem dX6_showMore_28 : decode cX6_showMore 28 = .ok (.aload_n 0, 1) := by decide +kernel
theorem dX6_showMore_29 : decode cX6_showMore 29 = .ok (.iload 4, 2) := by decide +kernel
theorem dX6_showMore_31 : decode cX6_showMore 31 = .ok (.invokevirtual 67, 3) := by decide +kernel
theorem dX6_showMore_34 : decode cX6_showMore 34 = .ok (.ifCond .eq 46, 3) := by decide +kernel
theorem dX6_showMore_37 : decode cX6_showMore 37 = .ok (.aload_n 0, 1) := by decide +kernel
theorem dX6_showMore_38 : decode cX6_showMore 38 = .ok (.getfield 11, 3) := by decide +kernel
theorem dX6_showMore_41 : decode cX6_showMore 41 = .ok (.iload 4, 2) := by decide +kernel
theorem dX6_showMore_43 : decode cX6_showMore 43 = .ok (.iaload, 1) := by decide +kernel
theorem dX6_showMore_44 : decode cX6_showMore 44 = .ok (.iload_n 2, 1) := by decide +kernel
theorem dX6_showMore_45 : decode cX6_showMore 45 = .ok (.iand, 1) := by decide +kernel
theorem dX6_showMore_46 : decode cX6_showMore 46 = .ok (.ifCond .eq 34, 3) := by decide +kernel
theorem dX6_showMore_49 : decode cX6_showMore 49 = .ok (.iload_n 1, 1) := by decide +kernel
theorem dX6_showMore_50 : decode cX6_showMore 50 = .ok (.aload_n 0, 1) := by decide +kernel
theorem dX6_showMore_51 : decode cX6_showMore 51 = .ok (.getfield 11, 3) := by decide +kernel
theorem dX6_showMore_54 : decode cX6_showMore 54 = .ok (.iload 4, 2) := by decide +kernel
theorem dX6_showMore_56 : decode cX6_showMore 56 = .ok (.iaload, 1) := by decide +kernel
theorem dX6_showMore_57 : decode cX6_showMore 57 = .ok (.iconst (-1), 1) := by decide +kernel
theorem dX6_showMore_58 : decode cX6_showMore 58 = .ok (.ixor, 1) := by decide +kernel
theorem dX6_showMore_59 : decode cX6_showMore 59 = .ok (.iand, 1) := by decide +kernel
theorem dX6_showMore_60 : decode cX6_showMore 60 = .ok (.istore 5, 2) := by decide +kernel
theorem dX6_showMore_62 : decode cX6_showMore 62 = .ok (.aload_n 0, 1) := by decide +kernel
theorem dX6_showMore_63 : decode cX6_showMore 63 = .ok (.getfield 15, 3) := by decide +kernel
theorem dX6_showMore_66 : decode cX6_showMore 66 = .ok (.iload 5, 2) := by decide +kernel
theorem dX6_showMore_68 : decode cX6_showMore 68 = .ok (.aload_n 0, 1) := by decide +kernel
theorem dX6_showMore_69 : decode cX6_showMore 69 = .ok (.getfield 15, 3) := by decide +kernel
theorem dX6_showMore_72 : decode cX6_showMore 72 = .ok (.iload 5, 2) := by decide +kernel
theorem dX6_showMore_74 : decode cX6_showMore 74 = .ok (.iaload, 1) := by decide +kernel
theorem dX6_showMore_75 : decode cX6_showMore 75 = .ok (.iload_n 3, 1) := by decide +kernel
theorem dX6_showMore_76 : decode cX6_showMore 76 = .ok (.invokestatic 80, 3) := by decide +kernel
theorem dX6_showMore_79 : decode cX6_showMore 79 = .ok (.iastore, 1) := by decide +kernel
theorem dX6_showMore_80 : decode cX6_showMore 80 = .ok (.iinc 4 1, 3) := by decide +kernel
theorem dX6_showMore_83 : decode cX6_showMore 83 = .ok (.goto (-64), 3) := by decide +kernel
theorem dX6_showMore_86 : decode cX6_showMore 86 = .ok (.return_, 1) := by decide +kernel
theorem dJ6_numberOfTrailingZeros_0f7a4_0 : decode cJ6_numberOfTrailingZeros_0f7a4 0 = .ok (.iload_n 0, 1) := by decide +kernel
theorem dJ6_numberOfTrailingZeros_0f7a4_1 : decode cJ6_numberOfTrailingZeros_0f7a4 1 = .ok (.iconst (-1), 1) := by decide +kernel
theorem dJ6_numberOfTrailingZeros_0f7a4_2 : decode cJ6_numberOfTrailingZeros_0f7a4 2 = .ok (.ixor, 1) := by decide +kernel
theorem dJ6_numberOfTrailingZeros_0f7a4_3 : decode cJ6_numberOfTrailingZeros_0f7a4 3 = .ok (.iload_n 0, 1) := by decide +kernel
theorem dJ6_numberOfTrailingZeros_0f7a4_4 : decode cJ6_numberOfTrailingZeros_0f7a4 4 = .ok (.iconst 1, 1) := by decide +kernel
theorem dJ6_numberOfTrailingZeros_0f7a4_5 : decode cJ6_numberOfTrailingZeros_0f7a4 5 = .ok (.isub, 1) := by decide +kernel
theorem dJ6_numberOfTrailingZeros_0f7a4_6 : decode cJ6_numberOfTrailingZeros_0f7a4 6 = .ok (.iand, 1) := by decide +kernel
theorem dJ6_numberOfTrailingZeros_0f7a4_7 : decode cJ6_numberOfTrailingZeros_0f7a4 7 = .ok (.istore_n 0, 1) := by decide +kernel
theorem dJ6_numberOfTrailingZeros_0f7a4_8 : decode cJ6_numberOfTrailingZeros_0f7a4 8 = .ok (.iload_n 0, 1) := by decide +kernel
theorem dJ6_numberOfTrailingZeros_0f7a4_9 : decode cJ6_numberOfTrailingZeros_0f7a4 9 = .ok (.ifCond .gt 8, 3) := by decide +kernel
theorem dJ6_numberOfTrailingZeros_0f7a4_12 : decode cJ6_numberOfTrailingZeros_0f7a4 12 = .ok (.iload_n 0, 1) := by decide +kernel
theorem dJ6_numberOfTrailingZeros_0f7a4_13 : decode cJ6_numberOfTrailingZeros_0f7a4 13 = .ok (.bipush 32, 2) := by decide +kernel
theorem dJ6_numberOfTrailingZeros_0f7a4_15 : decode cJ6_numberOfTrailingZeros_0f7a4 15 = .ok (.iand, 1) := by decide +kernel
theorem dJ6_numberOfTrailingZeros_0f7a4_16 : decode cJ6_numberOfTrailingZeros_0f7a4 16 = .ok (.ireturn, 1) := by decide +kernel
theorem dJ6_numberOfTrailingZeros_0f7a4_17 : decode cJ6_numberOfTrailingZeros_0f7a4 17 = .ok (.iconst 1, 1) := by decide +kernel
theorem dJ6_numberOfTrailingZeros_0f7a4_18 : decode cJ6_numberOfTrailingZeros_0f7a4 18 = .ok (.istore_n 1, 1) := by decide +kernel
theorem dJ6_numberOfTrailingZeros_0f7a4_19 : decode cJ6_numberOfTrailingZeros_0f7a4 19 = .ok (.iload_n 0, 1) := by decide +kernel
theorem dJ6_numberOfTrailingZeros_0f7a4_20 : decode cJ6_numberOfTrailingZeros_0f7a4 20 = .ok (.ldc_w 264, 3) := by decide +kernel
theorem dJ6_numberOfTrailingZeros_0f7a4_23 : decode cJ6_numberOfTrailingZeros_0f7a4 23 = .ok (.if_icmp .le 11, 3) := by decide +kernel
theorem dJ6_numberOfTrailingZeros_0f7a4_26 : decode cJ6_numberOfTrailingZeros_0f7a4 26 = .ok (.iinc 1 16, 3) := by decide +kernel
theorem dJ6_numberOfTrailingZeros_0f7a4_29 : decode cJ6_numberOfTrailingZeros_0f7a4 29 = .ok (.iload_n 0, 1) := by decide +kernel
theorem dJ6_numberOfTrailingZeros_0f7a4_30 : decode cJ6_numberOfTrailingZeros_0f7a4 30 = .ok (.bipush 16, 2) := by decide +kernel
theorem dJ6_numberOfTrailingZeros_0f7a4_32 : decode cJ6_numberOfTrailingZeros_0f7a4 32 = .ok (.iushr, 1) := by decide +kernel
theorem dJ6_numberOfTrailingZeros_0f7a4_33 : decode cJ6_numberOfTrailingZeros_0f7a4 33 = .ok (.istore_n 0, 1) := by decide +kernel
theorem dJ6_numberOfTrailingZeros_0f7a4_34 : decode cJ6_numberOfTrailingZeros_0f7a4 34 = .ok (.iload_n 0, 1) := by decide +kernel
theorem dJ6_numberOfTrailingZeros_0f7a4_35 : decode cJ6_numberOfTrailingZeros_0f7a4 35 = .ok (.sipush 256, 3) := by decide +kernel
theorem dJ6_numberOfTrailingZeros_0f7a4_38 : decode cJ6_numberOfTrailingZeros_0f7a4 38 = .ok (.if_icmp .le 11, 3) := by decide +kernel
theorem dJ6_numberOfTrailingZeros_0f7a4_41 : decode cJ6_numberOfTrailingZeros_0f7a4 41 = .ok (.iinc 1 8, 3) := by decide +kernel
theorem dJ6_numberOfTrailingZeros_0f7a4_44 : decode cJ6_numberOfTrailingZeros_0f7a4 44 = .ok (.iload_n 0, 1) := by decide +kernel
theorem dJ6_numberOfTrailingZeros_0f7a4_45 : decode cJ6_numberOfTrailingZeros_0f7a4 45 = .ok (.bipush 8, 2) := by decide +kernel
theorem dJ6_numberOfTrailingZeros_0f7a4_47 : decode cJ6_numberOfTrailingZeros_0f7a4 47 = .ok (.iushr, 1) := by decide +kernel
theorem dJ6_numberOfTrailingZeros_0f7a4_48 : decode cJ6_numberOfTrailingZeros_0f7a4 48 = .ok (.istore_n 0, 1) := by decide +kernel
theorem dJ6_numberOfTrailingZeros_0f7a4_49 : decode cJ6_numberOfTrailingZeros_0f7a4 49 = .ok (.iload_n 0, 1) := by decide +kernel
theorem dJ6_numberOfTrailingZeros_0f7a4_50 : decode cJ6_numberOfTrailingZeros_0f7a4 50 = .ok (.bipush 16, 2) := by decide +kernel
theorem dJ6_numberOfTrailingZeros_0f7a4_52 : decode cJ6_numberOfTrailingZeros_0f7a4 52 = .ok (.if_icmp .le 10, 3) := by decide +kernel
theorem dJ6_numberOfTrailingZeros_0f7a4_55 : decode cJ6_numberOfTrailingZeros_0f7a4 55 = .ok (.iinc 1 4, 3) := by decide +kernel
theorem dJ6_numberOfTrailingZeros_0f7a4_58 : decode cJ6_numberOfTrailingZeros_0f7a4 58 = .ok (.iload_n 0, 1) := by decide +kernel
theorem dJ6_numberOfTrailingZeros_0f7a4_59 : decode cJ6_numberOfTrailingZeros_0f7a4 59 = .ok (.iconst 4, 1) := by decide +kernel
theorem dJ6_numberOfTrailingZeros_0f7a4_60 : decode cJ6_numberOfTrailingZeros_0f7a4 60 = .ok (.iushr, 1) := by decide +kernel
theorem dJ6_numberOfTrailingZeros_0f7a4_61 : decode cJ6_numberOfTrailingZeros_0f7a4 61 = .ok (.istore_n 0, 1) := by decide +kernel
theorem dJ6_numberOfTrailingZeros_0f7a4_62 : decode cJ6_numberOfTrailingZeros_0f7a4 62 = .ok (.iload_n 0, 1) := by decide +kernel
theorem dJ6_numberOfTrailingZeros_0f7a4_63 : decode cJ6_numberOfTrailingZeros_0f7a4 63 = .ok (.iconst 4, 1) := by decide +kernel
theorem dJ6_numberOfTrailingZeros_0f7a4_64 : decode cJ6_numberOfTrailingZeros_0f7a4 64 = .ok (.if_icmp .le 10, 3) := by decide +kernel
theorem dJ6_numberOfTrailingZeros_0f7a4_67 : decode cJ6_numberOfTrailingZeros_0f7a4 67 = .ok (.iinc 1 2, 3) := by decide +kernel
theorem dJ6_numberOfTrailingZeros_0f7a4_70 : decode cJ6_numberOfTrailingZeros_0f7a4 70 = .ok (.iload_n 0, 1) := by decide +kernel
theorem dJ6_numberOfTrailingZeros_0f7a4_71 : decode cJ6_numberOfTrailingZeros_0f7a4 71 = .ok (.iconst 2, 1) := by decide +kernel
theorem dJ6_numberOfTrailingZeros_0f7a4_72 : decode cJ6_numberOfTrailingZeros_0f7a4 72 = .ok (.iushr, 1) := by decide +kernel
theorem dJ6_numberOfTrailingZeros_0f7a4_73 : decode cJ6_numberOfTrailingZeros_0f7a4 73 = .ok (.istore_n 0, 1) := by decide +kernel
theorem dJ6_numberOfTrailingZeros_0f7a4_74 : decode cJ6_numberOfTrailingZeros_0f7a4 74 = .ok (.iload_n 1, 1) := by decide +kernel
theorem dJ6_numberOfTrailingZeros_0f7a4_75 : decode cJ6_numberOfTrailingZeros_0f7a4 75 = .ok (.iload_n 0, 1) := by decide +kernel
theorem dJ6_numberOfTrailingZeros_0f7a4_76 : decode cJ6_numberOfTrailingZeros_0f7a4 76 = .ok (.iconst 1, 1) := by decide +kernel
theorem dJ6_numberOfTrailingZeros_0f7a4_77 : decode cJ6_numberOfTrailingZeros_0f7a4 77 = .ok (.iushr, 1) := by decide +kernel
theorem dJ6_numberOfTrailingZeros_0f7a4_78 : decode cJ6_numberOfTrailingZeros_0f7a4 78 = .ok (.iadd, 1) := by decide +kernel
theorem dJ6_numberOfTrailingZeros_0f7a4_79 : decode cJ6_numberOfTrailingZeros_0f7a4 79 = .ok (.ireturn, 1) := by decide +kernel
theorem dJ6_bitCount_0f7a4_0 : decode cJ6_bitCount_0f7a4 0 = .ok (.iload_n 0, 1) := by decide +kernel
theorem dJ6_bitCount_0f7a4_1 : decode cJ6_bitCount_0f7a4 1 = .ok (.iload_n 0, 1) := by decide +kernel
theorem dJ6_bitCount_0f7a4_2 : decode cJ6_bitCount_0f7a4 2 = .ok (.iconst 1, 1) := by decide +kernel
theorem dJ6_bitCount_0f7a4_3 : decode cJ6_bitCount_0f7a4 3 = .ok (.iushr, 1) := by decide +kernel
theorem dJ6_bitCount_0f7a4_4 : decode cJ6_bitCount_0f7a4 4 = .ok (.ldc_w 265, 3) := by decide +kernel
theorem dJ6_bitCount_0f7a4_7 : decode cJ6_bitCount_0f7a4 7 = .ok (.iand, 1) := by decide +kernel
theorem dJ6_bitCount_0f7a4_8 : decode cJ6_bitCount_0f7a4 8 = .ok (.isub, 1) := by decide +kernel
theorem dJ6_bitCount_0f7a4_9 : decode cJ6_bitCount_0f7a4 9 = .ok (.istore_n 0, 1) := by decide +kernel
theorem dJ6_bitCount_0f7a4_10 : decode cJ6_bitCount_0f7a4 10 = .ok (.iload_n 0, 1) := by decide +kernel
theorem dJ6_bitCount_0f7a4_11 : decode cJ6_bitCount_0f7a4 11 = .ok (.ldc_w 266, 3) := by decide +kernel
theorem dJ6_bitCount_0f7a4_14 : decode cJ6_bitCount_0f7a4 14 = .ok (.iand, 1) := by decide +kernel
theorem dJ6_bitCount_0f7a4_15 : decode cJ6_bitCount_0f7a4 15 = .ok (.iload_n 0, 1) := by decide +kernel
theorem dJ6_bitCount_0f7a4_16 : decode cJ6_bitCount_0f7a4 16 = .ok (.iconst 2, 1) := by decide +kernel
theorem dJ6_bitCount_0f7a4_17 : decode cJ6_bitCount_0f7a4 17 = .ok (.iushr, 1) := by decide +kernel
theorem dJ6_bitCount_0f7a4_18 : decode cJ6_bitCount_0f7a4 18 = .ok (.ldc_w 266, 3) := by decide +kernel
theorem dJ6_bitCount_0f7a4_21 : decode cJ6_bitCount_0f7a4 21 = .ok (.iand, 1) := by decide +kernel
theorem dJ6_bitCount_0f7a4_22 : decode cJ6_bitCount_0f7a4 22 = .ok (.iadd, 1) := by decide +kernel
theorem dJ6_bitCount_0f7a4_23 : decode cJ6_bitCount_0f7a4 23 = .ok (.istore_n 0, 1) := by decide +kernel
theorem dJ6_bitCount_0f7a4_24 : decode cJ6_bitCount_0f7a4 24 = .ok (.iload_n 0, 1) := by decide +kernel
theorem dJ6_bitCount_0f7a4_25 : decode cJ6_bitCount_0f7a4 25 = .ok (.iload_n 0, 1) := by decide +kernel
theorem dJ6_bitCount_0f7a4_26 : decode cJ6_bitCount_0f7a4 26 = .ok (.iconst 4, 1) := by decide +kernel
theorem dJ6_bitCount_0f7a4_27 : decode cJ6_bitCount_0f7a4 27 = .ok (.iushr, 1) := by decide +kernel
theorem dJ6_bitCount_0f7a4_28 : decode cJ6_bitCount_0f7a4 28 = .ok (.iadd, 1) := by decide +kernel
theorem dJ6_bitCount_0f7a4_29 : decode cJ6_bitCount_0f7a4 29 = .ok (.ldc_w 267, 3) := by decide +kernel
theorem dJ6_bitCount_0f7a4_32 : decode cJ6_bitCount_0f7a4 32 = .ok (.iand, 1) := by decide +kernel
theorem dJ6_bitCount_0f7a4_33 : decode cJ6_bitCount_0f7a4 33 = .ok (.istore_n 0, 1) := by decide +kernel
theorem dJ6_bitCount_0f7a4_34 : decode cJ6_bitCount_0f7a4 34 = .ok (.iload_n 0, 1) := by decide +kernel
theorem dJ6_bitCount_0f7a4_35 : decode cJ6_bitCount_0f7a4 35 = .ok (.iload_n 0, 1) := by decide +kernel
theorem dJ6_bitCount_0f7a4_36 : decode cJ6_bitCount_0f7a4 36 = .ok (.bipush 8, 2) := by decide +kernel
theorem dJ6_bitCount_0f7a4_38 : decode cJ6_bitCount_0f7a4 38 = .ok (.iushr, 1) := by decide +kernel
theorem dJ6_bitCount_0f7a4_39 : decode cJ6_bitCount_0f7a4 39 = .ok (.iadd, 1) := by decide +kernel
theorem dJ6_bitCount_0f7a4_40 : decode cJ6_bitCount_0f7a4 40 = .ok (.istore_n 0, 1) := by decide +kernel
theorem dJ6_bitCount_0f7a4_41 : decode cJ6_bitCount_0f7a4 41 = .ok (.iload_n 0, 1) := by decide +kernel
theorem dJ6_bitCount_0f7a4_42 : decode cJ6_bitCount_0f7a4 42 = .ok (.iload_n 0, 1) := by decide +kernel
theorem dJ6_bitCount_0f7a4_43 : decode cJ6_bitCount_0f7a4 43 = .ok (.bipush 16, 2) := by decide +kernel
theorem dJ6_bitCount_0f7a4_45 : decode cJ6_bitCount_0f7a4 45 = .ok (.iushr, 1) := by decide +kernel
theorem dJ6_bitCount_0f7a4_46 : decode cJ6_bitCount_0f7a4 46 = .ok (.iadd, 1) := by decide +kernel
theorem dJ6_bitCount_0f7a4_47 : decode cJ6_bitCount_0f7a4 47 = .ok (.istore_n 0, 1) := by decide +kernel
theorem dJ6_bitCount_0f7a4_48 : decode cJ6_bitCount_0f7a4 48 = .ok (.iload_n 0, 1) := by decide +kernel
theorem dJ6_bitCount_0f7a4_49 : decode cJ6_bitCount_0f7a4 49 = .ok (.bipush 63, 2) := by decide +kernel
theorem dJ6_bitCount_0f7a4_51 : decode cJ6_bitCount_0f7a4 51 = .ok (.iand, 1) := by decide +kernel
theorem dJ6_bitCount_0f7a4_52 : decode cJ6_bitCount_0f7a4 52 = .ok (.ireturn, 1) := by decide +kernel
theorem dJ9_abs_067f4_0 : decode cJ9_abs_067f4 0 = .ok (.lload_n 0, 1) := by decide +kernel
theorem dJ9_abs_067f4_1 : decode cJ9_abs_067f4 1 = .ok (.lconst 0, 1) := by decide +kernel
theorem dJ9_abs_067f4_2 : decode cJ9_abs_067f4 2 = .ok (.lcmp, 1) := by decide +kernel
theorem dJ9_abs_067f4_3 : decode cJ9_abs_067f4 3 = .ok (.ifCond .ge 8, 3) := by decide +kernel
theorem dJ9_abs_067f4_6 : decode cJ9_abs_067f4 6 = .ok (.lload_n 0, 1) := by decide +kernel
theorem dJ9_abs_067f4_7 : decode cJ9_abs_067f4 7 = .ok (.lneg, 1) := by decide +kernel
theorem dJ9_abs_067f4_8 : decode cJ9_abs_067f4 8 = .ok (.goto 4, 3) := by decide +kernel
theorem dJ9_abs_067f4_11 : decode cJ9_abs_067f4 11 = .ok (.lload_n 0, 1) := by decide +kernel
theorem dJ9_abs_067f4_12 : decode cJ9_abs_067f4 12 = .ok (.lreturn, 1) := by decide +kernel
theorem dJ9_max_7cf53_0 : decode cJ9_max_7cf53 0 = .ok (.iload_n 0, 1) := by decide +kernel
theorem dJ9_max_7cf53_1 : decode cJ9_max_7cf53 1 = .ok (.iload_n 1, 1) := by decide +kernel
theorem dJ9_max_7cf53_2 : decode cJ9_max_7cf53 2 = .ok (.if_icmp .lt 7, 3) := by decide +kernel
theorem dJ9_max_7cf53_5 : decode cJ9_max_7cf53 5 = .ok (.iload_n 0, 1) := by decide +kernel
theorem dJ9_max_7cf53_6 : decode cJ9_max_7cf53 6 = .ok (.goto 4, 3) := by decide +kernel
theorem dJ9_max_7cf53_9 : decode cJ9_max_7cf53 9 = .ok (.iload_n 1, 1) := by decide +kernel
theorem dJ9_max_7cf53_10 : decode cJ9_max_7cf53 10 = .ok (.ireturn, 1) := by decide +kernel
theorem dJ9_min_7cf53_0 : decode cJ9_min_7cf53 0 = .ok (.iload_n 0, 1) := by decide +kernel
theorem dJ9_min_7cf53_1 : decode cJ9_min_7cf53 1 = .ok (.iload_n 1, 1) := by decide +kernel
theorem dJ9_min_7cf53_2 : decode cJ9_min_7cf53 2 = .ok (.if_icmp .gt 7, 3) := by decide +kernel
theorem dJ9_min_7cf53_5 : decode cJ9_min_7cf53 5 = .ok (.iload_n 0, 1) := by decide +kernel
theorem dJ9_min_7cf53_6 : decode cJ9_min_7cf53 6 = .ok (.goto 4, 3) := by decide +kernel
theorem dJ9_min_7cf53_9 : decode cJ9_min_7cf53 9 = .ok (.iload_n 1, 1) := by decide +kernel
theorem dJ9_min_7cf53_10 : decode cJ9_min_7cf53 10 = .ok (.ireturn, 1) := by decide +kernel
theorem dJ0_length_8abf5_0 : decode cJ0_length_8abf5 0 = .ok (.aload_n 0, 1) := by decide +kernel
theorem dJ0_length_8abf5_1 : decode cJ0_length_8abf5 1 = .ok (.getfield 9, 3) := by decide +kernel
theorem dJ0_length_8abf5_4 : decode cJ0_length_8abf5 4 = .ok (.arraylength, 1) := by decide +kernel
theorem dJ0_length_8abf5_5 : decode cJ0_length_8abf5 5 = .ok (.aload_n 0, 1) := by decide +kernel
theorem dJ0_length_8abf5_6 : decode cJ0_length_8abf5 6 = .ok (.invokevirtual 335, 3) := by decide +kernel
theorem dJ0_length_8abf5_9 : decode cJ0_length_8abf5 9 = .ok (.ishr, 1) := by decide +kernel
theorem dJ0_length_8abf5_10 : decode cJ0_length_8abf5 10 = .ok (.ireturn, 1) := by decide +kernel
theorem dJ0_charAt_5068e_0 : decode cJ0_charAt_5068e 0 = .ok (.aload_n 0, 1) := by decide +kernel
theorem dJ0_charAt_5068e_1 : decode cJ0_charAt_5068e 1 = .ok (.invokevirtual 492, 3) := by decide +kernel
theorem dJ0_charAt_5068e_4 : decode cJ0_charAt_5068e 4 = .ok (.ifCond .eq 12, 3) := by decide +kernel
theorem dJ0_charAt_5068e_7 : decode cJ0_charAt_5068e 7 = .ok (.aload_n 0, 1) := by decide +kernel
theorem dJ0_charAt_5068e_8 : decode cJ0_charAt_5068e 8 = .ok (.getfield 9, 3) := by decide +kernel
theorem dJ0_charAt_5068e_11 : decode cJ0_charAt_5068e 11 = .ok (.iload_n 1, 1) := by decide +kernel
theorem dJ0_charAt_5068e_12 : decode cJ0_charAt_5068e 12 = .ok (.invokestatic 495, 3) := by decide +kernel
theorem dJ0_charAt_5068e_15 : decode cJ0_charAt_5068e 15 = .ok (.ireturn, 1) := by decide +kernel
theorem dJ0_charAt_5068e_16 : decode cJ0_charAt_5068e 16 = .ok (.aload_n 0, 1) := by decide +kernel
theorem dJ0_charAt_5068e_17 : decode cJ0_charAt_5068e 17 = .ok (.getfield 9, 3) := by decide +kernel
theorem dJ0_charAt_5068e_20 : decode cJ0_charAt_5068e 20 = .ok (.iload_n 1, 1) := by decide +kernel
theorem dJ0_charAt_5068e_21 : decode cJ0_charAt_5068e 21 = .ok (.invokestatic 498, 3) := by decide +kernel
theorem dJ0_charAt_5068e_24 : decode cJ0_charAt_5068e 24 = .ok (.ireturn, 1) := by decide +kernel
theorem dJ0_coder_7d493_0 : decode cJ0_coder_7d493 0 = .ok (.getstatic 38, 3) := by decide +kernel
theorem dJ0_coder_7d493_3 : decode cJ0_coder_7d493 3 = .ok (.ifCond .eq 10, 3) := by decide +kernel
theorem dJ0_coder_7d493_6 : decode cJ0_coder_7d493 6 = .ok (.aload_n 0, 1) := by decide +kernel
theorem dJ0_coder_7d493_7 : decode cJ0_coder_7d493 7 = .ok (.getfield 15, 3) := by decide +kernel
theorem dJ0_coder_7d493_10 : decode cJ0_coder_7d493 10 = .ok (.goto 4, 3) := by decide +kernel
theorem dJ0_coder_7d493_13 : decode cJ0_coder_7d493 13 = .ok (.iconst 1, 1) := by decide +kernel
theorem dJ0_coder_7d493_14 : decode cJ0_coder_7d493 14 = .ok (.ireturn, 1) := by decide +kernel
theorem dJ0_isLatin1_aae02_0 : decode cJ0_isLatin1_aae02 0 = .ok (.getstatic 38, 3) := by decide +kernel
theorem dJ0_isLatin1_aae02_3 : decode cJ0_isLatin1_aae02 3 = .ok (.ifCond .eq 14, 3) := by decide +kernel
theorem dJ0_isLatin1_aae02_6 : decode cJ0_isLatin1_aae02 6 = .ok (.aload_n 0, 1) := by decide +kernel
theorem dJ0_isLatin1_aae02_7 : decode cJ0_isLatin1_aae02 7 = .ok (.getfield 15, 3) := by decide +kernel
theorem dJ0_isLatin1_aae02_10 : decode cJ0_isLatin1_aae02 10 = .ok (.ifCond .ne 7, 3) := by decide +kernel
theorem dJ0_isLatin1_aae02_13 : decode cJ0_isLatin1_aae02 13 = .ok (.iconst 1, 1) := by decide +kernel
theorem dJ0_isLatin1_aae02_14 : decode cJ0_isLatin1_aae02 14 = .ok (.goto 4, 3) := by decide +kernel
theorem dJ0_isLatin1_aae02_17 : decode cJ0_isLatin1_aae02 17 = .ok (.iconst 0, 1) := by decide +kernel
theorem dJ0_isLatin1_aae02_18 : decode cJ0_isLatin1_aae02 18 = .ok (.ireturn, 1) := by decide +kernel
theorem dJ0_checkIndex_df160_0 : decode cJ0_checkIndex_df160 0 = .ok (.iload_n 0, 1) := by decide +kernel
theorem dJ0_checkIndex_df160_1 : decode cJ0_checkIndex_df160 1 = .ok (.iload_n 1, 1) := by decide +kernel
theorem dJ0_checkIndex_df160_2 : decode cJ0_checkIndex_df160 2 = .ok (.getstatic 1053, 3) := by decide +kernel
theorem dJ0_checkIndex_df160_5 : decode cJ0_checkIndex_df160 5 = .ok (.invokestatic 1059, 3) := by decide +kernel
theorem dJ0_checkIndex_df160_8 : decode cJ0_checkIndex_df160 8 = .ok (.pop, 1) := by decide +kernel
theorem dJ0_checkIndex_df160_9 : decode cJ0_checkIndex_df160 9 = .ok (.return_, 1) := by decide +kernel
theorem dJ1_charAt_3b067_0 : decode cJ1_charAt_3b067 0 = .ok (.iload_n 1, 1) := by decide +kernel
theorem dJ1_charAt_3b067_1 : decode cJ1_charAt_3b067 1 = .ok (.aload_n 0, 1) := by decide +kernel
theorem dJ1_charAt_3b067_2 : decode cJ1_charAt_3b067 2 = .ok (.arraylength, 1) := by decide +kernel
theorem dJ1_charAt_3b067_3 : decode cJ1_charAt_3b067 3 = .ok (.invokestatic 9, 3) := by decide +kernel
theorem dJ1_charAt_3b067_6 : decode cJ1_charAt_3b067 6 = .ok (.aload_n 0, 1) := by decide +kernel
theorem dJ1_charAt_3b067_7 : decode cJ1_charAt_3b067 7 = .ok (.iload_n 1, 1) := by decide +kernel
theorem dJ1_charAt_3b067_8 : decode cJ1_charAt_3b067 8 = .ok (.baload, 1) := by decide +kernel
theorem dJ1_charAt_3b067_9 : decode cJ1_charAt_3b067 9 = .ok (.sipush 255, 3) := by decide +kernel
theorem dJ1_charAt_3b067_12 : decode cJ1_charAt_3b067 12 = .ok (.iand, 1) := by decide +kernel
theorem dJ1_charAt_3b067_13 : decode cJ1_charAt_3b067 13 = .ok (.i2c, 1) := by decide +kernel
theorem dJ1_charAt_3b067_14 : decode cJ1_charAt_3b067 14 = .ok (.ireturn, 1) := by decide +kernel
theorem dJ2_getChar_3b067_0 : decode cJ2_getChar_3b067 0 = .ok (.getstatic 44, 3) := by decide +kernel
theorem dJ2_getChar_3b067_3 : decode cJ2_getChar_3b067 3 = .ok (.ifCond .ne 25, 3) := by decide +kernel
theorem dJ2_getChar_3b067_6 : decode cJ2_getChar_3b067 6 = .ok (.iload_n 1, 1) := by decide +kernel
theorem dJ2_getChar_3b067_7 : decode cJ2_getChar_3b067 7 = .ok (.ifCond .lt 11, 3) := by decide +kernel
theorem dJ2_getChar_3b067_10 : decode cJ2_getChar_3b067 10 = .ok (.iload_n 1, 1) := by decide +kernel
theorem dJ2_getChar_3b067_11 : decode cJ2_getChar_3b067 11 = .ok (.aload_n 0, 1) := by decide +kernel
theorem dJ2_getChar_3b067_12 : decode cJ2_getChar_3b067 12 = .ok (.invokestatic 48, 3) := by decide +kernel
theorem dJ2_getChar_3b067_15 : decode cJ2_getChar_3b067 15 = .ok (.if_icmp .lt 13, 3) := by decide +kernel
theorem dJ2_getChar_3b067_18 : decode cJ2_getChar_3b067 18 = .ok (.new 52, 3) := by decide +kernel
theorem dJ2_getChar_3b067_21 : decode cJ2_getChar_3b067 21 = .ok (.dup, 1) := by decide +kernel
theorem dJ2_getChar_3b067_22 : decode cJ2_getChar_3b067 22 = .ok (.ldc 54, 2) := by decide +kernel
theorem dJ2_getChar_3b067_24 : decode cJ2_getChar_3b067 24 = .ok (.invokespecial 56, 3) := by decide +kernel
theorem dJ2_getChar_3b067_27 : decode cJ2_getChar_3b067 27 = .ok (.athrow, 1) := by decide +kernel
theorem dJ2_getChar_3b067_28 : decode cJ2_getChar_3b067 28 = .ok (.iload_n 1, 1) := by decide +kernel
theorem dJ2_getChar_3b067_29 : decode cJ2_getChar_3b067 29 = .ok (.iconst 1, 1) := by decide +kernel
theorem dJ2_getChar_3b067_30 : decode cJ2_getChar_3b067 30 = .ok (.ishl, 1) := by decide +kernel
theorem dJ2_getChar_3b067_31 : decode cJ2_getChar_3b067 31 = .ok (.istore_n 1, 1) := by decide +kernel
theorem dJ2_getChar_3b067_32 : decode cJ2_getChar_3b067 32 = .ok (.aload_n 0, 1) := by decide +kernel
theorem dJ2_getChar_3b067_33 : decode cJ2_getChar_3b067 33 = .ok (.iload_n 1, 1) := by decide +kernel
theorem dJ2_getChar_3b067_34 : decode cJ2_getChar_3b067 34 = .ok (.iinc 1 1, 3) := by decide +kernel
theorem dJ2_getChar_3b067_37 : decode cJ2_getChar_3b067 37 = .ok (.baload, 1) := by decide +kernel
theorem dJ2_getChar_3b067_38 : decode cJ2_getChar_3b067 38 = .ok (.sipush 255, 3) := by decide +kernel
theorem dJ2_getChar_3b067_41 : decode cJ2_getChar_3b067 41 = .ok (.iand, 1) := by decide +kernel
theorem dJ2_getChar_3b067_42 : decode cJ2_getChar_3b067 42 = .ok (.getstatic 59, 3) := by decide +kernel
theorem dJ2_getChar_3b067_45 : decode cJ2_getChar_3b067 45 = .ok (.ishl, 1) := by decide +kernel
theorem dJ2_getChar_3b067_46 : decode cJ2_getChar_3b067 46 = .ok (.aload_n 0, 1) := by decide +kernel
theorem dJ2_getChar_3b067_47 : decode cJ2_getChar_3b067 47 = .ok (.iload_n 1, 1) := by decide +kernel
theorem dJ2_getChar_3b067_48 : decode cJ2_getChar_3b067 48 = .ok (.baload, 1) := by decide +kernel
theorem dJ2_getChar_3b067_49 : decode cJ2_getChar_3b067 49 = .ok (.sipush 255, 3) := by decide +kernel
theorem dJ2_getChar_3b067_52 : decode cJ2_getChar_3b067 52 = .ok (.iand, 1) := by decide +kernel
theorem dJ2_getChar_3b067_53 : decode cJ2_getChar_3b067 53 = .ok (.getstatic 63, 3) := by decide +kernel
theorem dJ2_getChar_3b067_56 : decode cJ2_getChar_3b067 56 = .ok (.ishl, 1) := by decide +kernel
theorem dJ2_getChar_3b067_57 : decode cJ2_getChar_3b067 57 = .ok (.ior, 1) := by decide +kernel
theorem dJ2_getChar_3b067_58 : decode cJ2_getChar_3b067 58 = .ok (.i2c, 1) := by decide +kernel
theorem dJ2_getChar_3b067_59 : decode cJ2_getChar_3b067 59 = .ok (.ireturn, 1) := by decide +kernel
theorem dJ2_length_9d52b_0 : decode cJ2_length_9d52b 0 = .ok (.aload_n 0, 1) := by decide +kernel
theorem dJ2_length_9d52b_1 : decode cJ2_length_9d52b 1 = .ok (.arraylength, 1) := by decide +kernel
theorem dJ2_length_9d52b_2 : decode cJ2_length_9d52b 2 = .ok (.iconst 1, 1) := by decide +kernel
theorem dJ2_length_9d52b_3 : decode cJ2_length_9d52b 3 = .ok (.ishr, 1) := by decide +kernel
theorem dJ2_length_9d52b_4 : decode cJ2_length_9d52b 4 = .ok (.ireturn, 1) := by decide +kernel
theorem dJ2_charAt_3b067_0 : decode cJ2_charAt_3b067 0 = .ok (.iload_n 1, 1) := by decide +kernel
theorem dJ2_charAt_3b067_1 : decode cJ2_charAt_3b067 1 = .ok (.aload_n 0, 1) := by decide +kernel
theorem dJ2_charAt_3b067_2 : decode cJ2_charAt_3b067 2 = .ok (.invokestatic 67, 3) := by decide +kernel
theorem dJ2_charAt_3b067_5 : decode cJ2_charAt_3b067 5 = .ok (.aload_n 0, 1) := by decide +kernel
theorem dJ2_charAt_3b067_6 : decode cJ2_charAt_3b067 6 = .ok (.iload_n 1, 1) := by decide +kernel
theorem dJ2_charAt_3b067_7 : decode cJ2_charAt_3b067 7 = .ok (.invokestatic 71, 3) := by decide +kernel
theorem dJ2_charAt_3b067_10 : decode cJ2_charAt_3b067 10 = .ok (.ireturn, 1) := by decide +kernel
theorem dJ2_checkIndex_2214a_0 : decode cJ2_checkIndex_2214a 0 = .ok (.iload_n 0, 1) := by decide +kernel
theorem dJ2_checkIndex_2214a_1 : decode cJ2_checkIndex_2214a 1 = .ok (.aload_n 1, 1) := by decide +kernel
theorem dJ2_checkIndex_2214a_2 : decode cJ2_checkIndex_2214a 2 = .ok (.invokestatic 48, 3) := by decide +kernel
theorem dJ2_checkIndex_2214a_5 : decode cJ2_checkIndex_2214a 5 = .ok (.invokestatic 414, 3) := by decide +kernel
theorem dJ2_checkIndex_2214a_8 : decode cJ2_checkIndex_2214a 8 = .ok (.return_, 1) := by decide +kernel
theorem dJ7_fill_d0a16_0 : decode cJ7_fill_d0a16 0 = .ok (.iconst 0, 1) := by decide +kernel
theorem dJ7_fill_d0a16_1 : decode cJ7_fill_d0a16 1 = .ok (.istore_n 3, 1) := by decide +kernel
theorem dJ7_fill_d0a16_2 : decode cJ7_fill_d0a16 2 = .ok (.aload_n 0, 1) := by decide +kernel
theorem dJ7_fill_d0a16_3 : decode cJ7_fill_d0a16 3 = .ok (.arraylength, 1) := by decide +kernel
theorem dJ7_fill_d0a16_4 : decode cJ7_fill_d0a16 4 = .ok (.istore 4, 2) := by decide +kernel
theorem dJ7_fill_d0a16_6 : decode cJ7_fill_d0a16 6 = .ok (.iload_n 3, 1) := by decide +kernel
theorem dJ7_fill_d0a16_7 : decode cJ7_fill_d0a16 7 = .ok (.iload 4, 2) := by decide +kernel
theorem dJ7_fill_d0a16_9 : decode cJ7_fill_d0a16 9 = .ok (.if_icmp .ge 13, 3) := by decide +kernel
theorem dJ7_fill_d0a16_12 : decode cJ7_fill_d0a16 12 = .ok (.aload_n 0, 1) := by decide +kernel
theorem dJ7_fill_d0a16_13 : decode cJ7_fill_d0a16 13 = .ok (.iload_n 3, 1) := by decide +kernel
theorem dJ7_fill_d0a16_14 : decode cJ7_fill_d0a16 14 = .ok (.lload_n 1, 1) := by decide +kernel
theorem dJ7_fill_d0a16_15 : decode cJ7_fill_d0a16 15 = .ok (.lastore, 1) := by decide +kernel
theorem dJ7_fill_d0a16_16 : decode cJ7_fill_d0a16 16 = .ok (.iinc 3 1, 3) := by decide +kernel
theorem dJ7_fill_d0a16_19 : decode cJ7_fill_d0a16 19 = .ok (.goto (-13), 3) := by decide +kernel
theorem dJ7_fill_d0a16_22 : decode cJ7_fill_d0a16 22 = .ok (.return_, 1) := by decide +kernel
theorem dJ7_fill_53178_0 : decode cJ7_fill_53178 0 = .ok (.iconst 0, 1) := by decide +kernel
theorem dJ7_fill_53178_1 : decode cJ7_fill_53178 1 = .ok (.istore_n 2, 1) := by decide +kernel
theorem dJ7_fill_53178_2 : decode cJ7_fill_53178 2 = .ok (.aload_n 0, 1) := by decide +kernel
theorem dJ7_fill_53178_3 : decode cJ7_fill_53178 3 = .ok (.arraylength, 1) := by decide +kernel
theorem dJ7_fill_53178_4 : decode cJ7_fill_53178 4 = .ok (.istore_n 3, 1) := by decide +kernel
theorem dJ7_fill_53178_5 : decode cJ7_fill_53178 5 = .ok (.iload_n 2, 1) := by decide +kernel
theorem dJ7_fill_53178_6 : decode cJ7_fill_53178 6 = .ok (.iload_n 3, 1) := by decide +kernel
theorem dJ7_fill_53178_7 : decode cJ7_fill_53178 7 = .ok (.if_icmp .ge 13, 3) := by decide +kernel
theorem dJ7_fill_53178_10 : decode cJ7_fill_53178 10 = .ok (.aload_n 0, 1) := by decide +kernel
theorem dJ7_fill_53178_11 : decode cJ7_fill_53178 11 = .ok (.iload_n 2, 1) := by decide +kernel
theorem dJ7_fill_53178_12 : decode cJ7_fill_53178 12 = .ok (.iload_n 1, 1) := by decide +kernel
theorem dJ7_fill_53178_13 : decode cJ7_fill_53178 13 = .ok (.iastore, 1) := by decide +kernel
theorem dJ7_fill_53178_14 : decode cJ7_fill_53178 14 = .ok (.iinc 2 1, 3) := by decide +kernel
theorem dJ7_fill_53178_17 : decode cJ7_fill_53178 17 = .ok (.goto (-12), 3) := by decide +kernel
theorem dJ7_fill_53178_20 : decode cJ7_fill_53178 20 = .ok (.return_, 1) := by decide +kernel
theorem dJ3_checkIndex_8e157_0 : decode cJ3_checkIndex_8e157 0 = .ok (.iload_n 0, 1) := by decide +kernel
theorem dJ3_checkIndex_8e157_1 : decode cJ3_checkIndex_8e157 1 = .ok (.ifCond .lt 8, 3) := by decide +kernel
theorem dJ3_checkIndex_8e157_4 : decode cJ3_checkIndex_8e157 4 = .ok (.iload_n 0, 1) := by decide +kernel
theorem dJ3_checkIndex_8e157_5 : decode cJ3_checkIndex_8e157 5 = .ok (.iload_n 1, 1) := by decide +kernel
theorem dJ3_checkIndex_8e157_6 : decode cJ3_checkIndex_8e157 6 = .ok (.if_icmp .lt 10, 3) := by decide +kernel
theorem dJ3_checkIndex_8e157_9 : decode cJ3_checkIndex_8e157 9 = .ok (.aload_n 2, 1) := by decide +kernel
theorem dJ3_checkIndex_8e157_10 : decode cJ3_checkIndex_8e157 10 = .ok (.iload_n 0, 1) := by decide +kernel
theorem dJ3_checkIndex_8e157_11 : decode cJ3_checkIndex_8e157 11 = .ok (.iload_n 1, 1) := by decide +kernel
theorem dJ3_checkIndex_8e157_12 : decode cJ3_checkIndex_8e157 12 = .ok (.invokestatic 95, 3) := by decide +kernel
theorem dJ3_checkIndex_8e157_15 : decode cJ3_checkIndex_8e157 15 = .ok (.athrow, 1) := by decide +kernel
theorem dJ3_checkIndex_8e157_16 : decode cJ3_checkIndex_8e157 16 = .ok (.iload_n 0, 1) := by decide +kernel
theorem dJ3_checkIndex_8e157_17 : decode cJ3_checkIndex_8e157 17 = .ok (.ireturn, 1) := by decide +kernel
