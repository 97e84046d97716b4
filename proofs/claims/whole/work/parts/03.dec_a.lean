theorem dX0_init_0 : decode cX0_init 0 = .ok (.aload_n 0, 1) := by decide +kernel
theorem dX0_init_1 : decode cX0_init 1 = .ok (.invokespecial 3, 3) := by decide +kernel
theorem dX0_init_4 : decode cX0_init 4 = .ok (.aload_n 0, 1) := by decide +kernel
theorem dX0_init_5 : decode cX0_init 5 = .ok (.bipush 16, 2) := by decide +kernel
theorem dX0_init_7 : decode cX0_init 7 = .ok (.newarray .int, 2) := by decide +kernel
theorem dX0_init_9 : decode cX0_init 9 = .ok (.putfield 9, 3) := by decide +kernel
theorem dX0_init_12 : decode cX0_init 12 = .ok (.aload_n 0, 1) := by decide +kernel
theorem dX0_init_13 : decode cX0_init 13 = .ok (.bipush 16, 2) := by decide +kernel
theorem dX0_init_15 : decode cX0_init 15 = .ok (.newarray .int, 2) := by decide +kernel
theorem dX0_init_17 : decode cX0_init 17 = .ok (.putfield 15, 3) := by decide +kernel
theorem dX0_init_20 : decode cX0_init 20 = .ok (.aload_n 0, 1) := by decide +kernel
theorem dX0_init_21 : decode cX0_init 21 = .ok (.bipush 16, 2) := by decide +kernel
theorem dX0_init_23 : decode cX0_init 23 = .ok (.newarray .int, 2) := by decide +kernel
theorem dX0_init_25 : decode cX0_init 25 = .ok (.putfield 18, 3) := by decide +kernel
theorem dX0_init_28 : decode cX0_init 28 = .ok (.aload_n 0, 1) := by decide +kernel
theorem dX0_init_29 : decode cX0_init 29 = .ok (.bipush 16, 2) := by decide +kernel
theorem dX0_init_31 : decode cX0_init 31 = .ok (.newarray .int, 2) := by decide +kernel
theorem dX0_init_33 : decode cX0_init 33 = .ok (.putfield 21, 3) := by decide +kernel
theorem dX0_init_36 : decode cX0_init 36 = .ok (.aload_n 0, 1) := by decide +kernel
theorem dX0_init_37 : decode cX0_init 37 = .ok (.bipush 10, 2) := by decide +kernel
theorem dX0_init_39 : decode cX0_init 39 = .ok (.newarray .int, 2) := by decide +kernel
theorem dX0_init_41 : decode cX0_init 41 = .ok (.putfield 24, 3) := by decide +kernel
theorem dX0_init_44 : decode cX0_init 44 = .ok (.return_, 1) := by decide +kernel
theorem dX0_become_0 : decode cX0_become 0 = .ok (.aload_n 1, 1) := by decide +kernel
theorem dX0_become_1 : decode cX0_become 1 = .ok (.getfield 9, 3) := by decide +kernel
theorem dX0_become_4 : decode cX0_become 4 = .ok (.iconst 0, 1) := by decide +kernel
theorem dX0_become_5 : decode cX0_become 5 = .ok (.aload_n 0, 1) := by decide +kernel
theorem dX0_become_6 : decode cX0_become 6 = .ok (.getfield 9, 3) := by decide +kernel
theorem dX0_become_9 : decode cX0_become 9 = .ok (.iconst 0, 1) := by decide +kernel
theorem dX0_become_10 : decode cX0_become 10 = .ok (.aload_n 1, 1) := by decide +kernel
theorem dX0_become_11 : decode cX0_become 11 = .ok (.getfield 27, 3) := by decide +kernel
theorem dX0_become_14 : decode cX0_become 14 = .ok (.invokestatic 31, 3) := by decide +kernel
theorem dX0_become_17 : decode cX0_become 17 = .ok (.aload_n 1, 1) := by decide +kernel
theorem dX0_become_18 : decode cX0_become 18 = .ok (.getfield 15, 3) := by decide +kernel
theorem dX0_become_21 : decode cX0_become 21 = .ok (.iconst 0, 1) := by decide +kernel
theorem dX0_become_22 : decode cX0_become 22 = .ok (.aload_n 0, 1) := by decide +kernel
theorem dX0_become_23 : decode cX0_become 23 = .ok (.getfield 15, 3) := by decide +kernel
theorem dX0_become_26 : decode cX0_become 26 = .ok (.iconst 0, 1) := by decide +kernel
theorem dX0_become_27 : decode cX0_become 27 = .ok (.aload_n 1, 1) := by decide +kernel
theorem dX0_become_28 : decode cX0_become 28 = .ok (.getfield 27, 3) := by decide +kernel
theorem dX0_become_31 : decode cX0_become 31 = .ok (.invokestatic 31, 3) := by decide +kernel
theorem dX0_become_34 : decode cX0_become 34 = .ok (.aload_n 1, 1) := by decide +kernel
theorem dX0_become_35 : decode cX0_become 35 = .ok (.getfield 18, 3) := by decide +kernel
theorem dX0_become_38 : decode cX0_become 38 = .ok (.iconst 0, 1) := by decide +kernel
theorem dX0_become_39 : decode cX0_become 39 = .ok (.aload_n 0, 1) := by decide +kernel
theorem dX0_become_40 : decode cX0_become 40 = .ok (.getfield 18, 3) := by decide +kernel
theorem dX0_become_43 : decode cX0_become 43 = .ok (.iconst 0, 1) := by decide +kernel
theorem dX0_become_44 : decode cX0_become 44 = .ok (.aload_n 1, 1) := by decide +kernel
theorem dX0_become_45 : decode cX0_become 45 = .ok (.getfield 27, 3) := by decide +kernel
theorem dX0_become_48 : decode cX0_become 48 = .ok (.invokestatic 31, 3) := by decide +kernel
theorem dX0_become_51 : decode cX0_become 51 = .ok (.aload_n 1, 1) := by decide +kernel
theorem dX0_become_52 : decode cX0_become 52 = .ok (.getfield 21, 3) := by decide +kernel
theorem dX0_become_55 : decode cX0_become 55 = .ok (.iconst 0, 1) := by decide +kernel
theorem dX0_become_56 : decode cX0_become 56 = .ok (.aload_n 0, 1) := by decide +kernel
theorem dX0_become_57 : decode cX0_become 57 = .ok (.getfield 21, 3) := by decide +kernel
theorem dX0_become_60 : decode cX0_become 60 = .ok (.iconst 0, 1) := by decide +kernel
theorem dX0_become_61 : decode cX0_become 61 = .ok (.aload_n 1, 1) := by decide +kernel
theorem dX0_become_62 : decode cX0_become 62 = .ok (.getfield 27, 3) := by decide +kernel
theorem dX0_become_65 : decode cX0_become 65 = .ok (.invokestatic 31, 3) := by decide +kernel
theorem dX0_become_68 : decode cX0_become 68 = .ok (.aload_n 1, 1) := by decide +kernel
theorem dX0_become_69 : decode cX0_become 69 = .ok (.getfield 24, 3) := by decide +kernel
theorem dX0_become_72 : decode cX0_become 72 = .ok (.iconst 0, 1) := by decide +kernel
theorem dX0_become_73 : decode cX0_become 73 = .ok (.aload_n 0, 1) := by decide +kernel
theorem dX0_become_74 : decode cX0_become 74 = .ok (.getfield 24, 3) := by decide +kernel
theorem dX0_become_77 : decode cX0_become 77 = .ok (.iconst 0, 1) := by decide +kernel
theorem dX0_become_78 : decode cX0_become 78 = .ok (.bipush 10, 2) := by decide +kernel
theorem dX0_become_80 : decode cX0_become 80 = .ok (.invokestatic 31, 3) := by decide +kernel
theorem dX0_become_83 : decode cX0_become 83 = .ok (.aload_n 0, 1) := by decide +kernel
theorem dX0_become_84 : decode cX0_become 84 = .ok (.aload_n 1, 1) := by decide +kernel
theorem dX0_become_85 : decode cX0_become 85 = .ok (.getfield 27, 3) := by decide +kernel
theorem dX0_become_88 : decode cX0_become 88 = .ok (.putfield 27, 3) := by decide +kernel
theorem dX0_become_91 : decode cX0_become 91 = .ok (.aload_n 0, 1) := by decide +kernel
theorem dX0_become_92 : decode cX0_become 92 = .ok (.aload_n 1, 1) := by decide +kernel
theorem dX0_become_93 : decode cX0_become 93 = .ok (.getfield 37, 3) := by decide +kernel
theorem dX0_become_96 : decode cX0_become 96 = .ok (.putfield 37, 3) := by decide +kernel
theorem dX0_become_99 : decode cX0_become 99 = .ok (.return_, 1) := by decide +kernel
theorem dX1_init_0 : decode cX1_init 0 = .ok (.aload_n 0, 1) := by decide +kernel
theorem dX1_init_1 : decode cX1_init 1 = .ok (.invokespecial 5, 3) := by decide +kernel
theorem dX1_init_4 : decode cX1_init 4 = .ok (.aload_n 0, 1) := by decide +kernel
theorem dX1_init_5 : decode cX1_init 5 = .ok (.bipush 12, 2) := by decide +kernel
theorem dX1_init_7 : decode cX1_init 7 = .ok (.newarray .int, 2) := by decide +kernel
theorem dX1_init_9 : decode cX1_init 9 = .ok (.putfield 11, 3) := by decide +kernel
theorem dX1_init_12 : decode cX1_init 12 = .ok (.aload_n 0, 1) := by decide +kernel
theorem dX1_init_13 : decode cX1_init 13 = .ok (.bipush 12, 2) := by decide +kernel
theorem dX1_init_15 : decode cX1_init 15 = .ok (.newarray .int, 2) := by decide +kernel
theorem dX1_init_17 : decode cX1_init 17 = .ok (.putfield 15, 3) := by decide +kernel
theorem dX1_init_20 : decode cX1_init 20 = .ok (.aload_n 0, 1) := by decide +kernel
theorem dX1_init_21 : decode cX1_init 21 = .ok (.bipush 12, 2) := by decide +kernel
theorem dX1_init_23 : decode cX1_init 23 = .ok (.newarray .long, 2) := by decide +kernel
theorem dX1_init_25 : decode cX1_init 25 = .ok (.putfield 18, 3) := by decide +kernel
theorem dX1_init_28 : decode cX1_init 28 = .ok (.aload_n 0, 1) := by decide +kernel
theorem dX1_init_29 : decode cX1_init 29 = .ok (.sipush 2048, 3) := by decide +kernel
theorem dX1_init_32 : decode cX1_init 32 = .ok (.newarray .long, 2) := by decide +kernel
theorem dX1_init_34 : decode cX1_init 34 = .ok (.putfield 22, 3) := by decide +kernel
theorem dX1_init_37 : decode cX1_init 37 = .ok (.aload_n 0, 1) := by decide +kernel
theorem dX1_init_38 : decode cX1_init 38 = .ok (.sipush 2048, 3) := by decide +kernel
theorem dX1_init_41 : decode cX1_init 41 = .ok (.newarray .long, 2) := by decide +kernel
theorem dX1_init_43 : decode cX1_init 43 = .ok (.putfield 25, 3) := by decide +kernel
theorem dX1_init_46 : decode cX1_init 46 = .ok (.aload_n 0, 1) := by decide +kernel
theorem dX1_init_47 : decode cX1_init 47 = .ok (.iconst (-1), 1) := by decide +kernel
theorem dX1_init_48 : decode cX1_init 48 = .ok (.putfield 28, 3) := by decide +kernel
theorem dX1_init_51 : decode cX1_init 51 = .ok (.aload_n 0, 1) := by decide +kernel
theorem dX1_init_52 : decode cX1_init 52 = .ok (.aload_n 1, 1) := by decide +kernel
theorem dX1_init_53 : decode cX1_init 53 = .ok (.putfield 32, 3) := by decide +kernel
theorem dX1_init_56 : decode cX1_init 56 = .ok (.return_, 1) := by decide +kernel
theorem dX1_bones_0 : decode cX1_bones 0 = .ok (.aload_n 0, 1) := by decide +kernel
theorem dX1_bones_1 : decode cX1_bones 1 = .ok (.invokevirtual 36, 3) := by decide +kernel
theorem dX1_bones_4 : decode cX1_bones 4 = .ok (.aload_n 0, 1) := by decide +kernel
theorem dX1_bones_5 : decode cX1_bones 5 = .ok (.getfield 22, 3) := by decide +kernel
theorem dX1_bones_8 : decode cX1_bones 8 = .ok (.iconst 0, 1) := by decide +kernel
theorem dX1_bones_9 : decode cX1_bones 9 = .ok (.laload, 1) := by decide +kernel
theorem dX1_bones_10 : decode cX1_bones 10 = .ok (.bipush 52, 2) := by decide +kernel
theorem dX1_bones_12 : decode cX1_bones 12 = .ok (.lshr, 1) := by decide +kernel
theorem dX1_bones_13 : decode cX1_bones 13 = .ok (.l2i, 1) := by decide +kernel
theorem dX1_bones_14 : decode cX1_bones 14 = .ok (.ireturn, 1) := by decide +kernel
theorem dX1_thefts_0 : decode cX1_thefts 0 = .ok (.aload_n 0, 1) := by decide +kernel
theorem dX1_thefts_1 : decode cX1_thefts 1 = .ok (.invokevirtual 36, 3) := by decide +kernel
theorem dX1_thefts_4 : decode cX1_thefts 4 = .ok (.aload_n 0, 1) := by decide +kernel
theorem dX1_thefts_5 : decode cX1_thefts 5 = .ok (.getfield 22, 3) := by decide +kernel
theorem dX1_thefts_8 : decode cX1_thefts 8 = .ok (.iconst 0, 1) := by decide +kernel
theorem dX1_thefts_9 : decode cX1_thefts 9 = .ok (.laload, 1) := by decide +kernel
theorem dX1_thefts_10 : decode cX1_thefts 10 = .ok (.bipush 48, 2) := by decide +kernel
theorem dX1_thefts_12 : decode cX1_thefts 12 = .ok (.lshr, 1) := by decide +kernel
theorem dX1_thefts_13 : decode cX1_thefts 13 = .ok (.ldc2_w 39, 3) := by decide +kernel
theorem dX1_thefts_16 : decode cX1_thefts 16 = .ok (.land, 1) := by decide +kernel
theorem dX1_thefts_17 : decode cX1_thefts 17 = .ok (.l2i, 1) := by decide +kernel
theorem dX1_thefts_18 : decode cX1_thefts 18 = .ok (.ireturn, 1) := by decide +kernel
theorem dX1_count_0 : decode cX1_count 0 = .ok (.aload_n 0, 1) := by decide +kernel
theorem dX1_count_1 : decode cX1_count 1 = .ok (.invokevirtual 36, 3) := by decide +kernel
theorem dX1_count_4 : decode cX1_count 4 = .ok (.aload_n 0, 1) := by decide +kernel
theorem dX1_count_5 : decode cX1_count 5 = .ok (.getfield 25, 3) := by decide +kernel
theorem dX1_count_8 : decode cX1_count 8 = .ok (.iconst 0, 1) := by decide +kernel
theorem dX1_count_9 : decode cX1_count 9 = .ok (.laload, 1) := by decide +kernel
theorem dX1_count_10 : decode cX1_count 10 = .ok (.lreturn, 1) := by decide +kernel
theorem dX1_aheadOf_0 : decode cX1_aheadOf 0 = .ok (.aload_n 0, 1) := by decide +kernel
theorem dX1_aheadOf_1 : decode cX1_aheadOf 1 = .ok (.invokevirtual 36, 3) := by decide +kernel
theorem dX1_aheadOf_4 : decode cX1_aheadOf 4 = .ok (.aload_n 0, 1) := by decide +kernel
theorem dX1_aheadOf_5 : decode cX1_aheadOf 5 = .ok (.getfield 22, 3) := by decide +kernel
theorem dX1_aheadOf_8 : decode cX1_aheadOf 8 = .ok (.iconst 0, 1) := by decide +kernel
theorem dX1_aheadOf_9 : decode cX1_aheadOf 9 = .ok (.laload, 1) := by decide +kernel
theorem dX1_aheadOf_10 : decode cX1_aheadOf 10 = .ok (.iload_n 1, 1) := by decide +kernel
theorem dX1_aheadOf_11 : decode cX1_aheadOf 11 = .ok (.invokestatic 41, 3) := by decide +kernel
theorem dX1_aheadOf_14 : decode cX1_aheadOf 14 = .ok (.lshr, 1) := by decide +kernel
theorem dX1_aheadOf_15 : decode cX1_aheadOf 15 = .ok (.ldc2_w 39, 3) := by decide +kernel
theorem dX1_aheadOf_18 : decode cX1_aheadOf 18 = .ok (.land, 1) := by decide +kernel
theorem dX1_aheadOf_19 : decode cX1_aheadOf 19 = .ok (.l2i, 1) := by decide +kernel
theorem dX1_aheadOf_20 : decode cX1_aheadOf 20 = .ok (.iconst 1, 1) := by decide +kernel
theorem dX1_aheadOf_21 : decode cX1_aheadOf 21 = .ok (.isub, 1) := by decide +kernel
theorem dX1_aheadOf_22 : decode cX1_aheadOf 22 = .ok (.ireturn, 1) := by decide +kernel
theorem dX1_digitOf_0 : decode cX1_digitOf 0 = .ok (.iconst 4, 1) := by decide +kernel
theorem dX1_digitOf_1 : decode cX1_digitOf 1 = .ok (.bipush 11, 2) := by decide +kernel
theorem dX1_digitOf_3 : decode cX1_digitOf 3 = .ok (.iload_n 0, 1) := by decide +kernel
theorem dX1_digitOf_4 : decode cX1_digitOf 4 = .ok (.isub, 1) := by decide +kernel
theorem dX1_digitOf_5 : decode cX1_digitOf 5 = .ok (.imul, 1) := by decide +kernel
theorem dX1_digitOf_6 : decode cX1_digitOf 6 = .ok (.ireturn, 1) := by decide +kernel
theorem dX1_solve_0 : decode cX1_solve 0 = .ok (.aload_n 0, 1) := by decide +kernel
theorem dX1_solve_1 : decode cX1_solve 1 = .ok (.getfield 28, 3) := by decide +kernel
theorem dX1_solve_4 : decode cX1_solve 4 = .ok (.aload_n 0, 1) := by decide +kernel
theorem dX1_solve_5 : decode cX1_solve 5 = .ok (.getfield 32, 3) := by decide +kernel
theorem dX1_solve_8 : decode cX1_solve 8 = .ok (.getfield 45, 3) := by decide +kernel
theorem dX1_solve_11 : decode cX1_solve 11 = .ok (.if_icmp .ne 4, 3) := by decide +kernel
theorem dX1_solve_14 : decode cX1_solve 14 = .ok (.return_, 1) := by decide +kernel
theorem dX1_solve_15 : decode cX1_solve 15 = .ok (.aload_n 0, 1) := by decide +kernel
theorem dX1_solve_16 : decode cX1_solve 16 = .ok (.aload_n 0, 1) := by decide +kernel
theorem dX1_solve_17 : decode cX1_solve 17 = .ok (.getfield 32, 3) := by decide +kernel
theorem dX1_solve_20 : decode cX1_solve 20 = .ok (.getfield 45, 3) := by decide +kernel
theorem dX1_solve_23 : decode cX1_solve 23 = .ok (.putfield 28, 3) := by decide +kernel
theorem dX1_solve_26 : decode cX1_solve 26 = .ok (.aload_n 0, 1) := by decide +kernel
theorem dX1_solve_27 : decode cX1_solve 27 = .ok (.invokevirtual 48, 3) := by decide +kernel
theorem dX1_solve_30 : decode cX1_solve 30 = .ok (.iconst 1, 1) := by decide +kernel
theorem dX1_solve_31 : decode cX1_solve 31 = .ok (.aload_n 0, 1) := by decide +kernel
theorem dX1_solve_32 : decode cX1_solve 32 = .ok (.getfield 32, 3) := by decide +kernel
theorem dX1_solve_35 : decode cX1_solve 35 = .ok (.getfield 51, 3) := by decide +kernel
theorem dX1_solve_38 : decode cX1_solve 38 = .ok (.getfield 55, 3) := by decide +kernel
theorem dX1_solve_41 : decode cX1_solve 41 = .ok (.iconst 1, 1) := by decide +kernel
theorem dX1_solve_42 : decode cX1_solve 42 = .ok (.isub, 1) := by decide +kernel
theorem dX1_solve_43 : decode cX1_solve 43 = .ok (.iconst 0, 1) := by decide +kernel
theorem dX1_solve_44 : decode cX1_solve 44 = .ok (.invokestatic 60, 3) := by decide +kernel
theorem dX1_solve_47 : decode cX1_solve 47 = .ok (.ishl, 1) := by decide +kernel
theorem dX1_solve_48 : decode cX1_solve 48 = .ok (.istore_n 1, 1) := by decide +kernel
theorem dX1_solve_49 : decode cX1_solve 49 = .ok (.iconst 0, 1) := by decide +kernel
theorem dX1_solve_50 : decode cX1_solve 50 = .ok (.istore_n 2, 1) := by decide +kernel
theorem dX1_solve_51 : decode cX1_solve 51 = .ok (.iload_n 2, 1) := by decide +kernel
theorem dX1_solve_52 : decode cX1_solve 52 = .ok (.iload_n 1, 1) := by decide +kernel
theorem dX1_solve_53 : decode cX1_solve 53 = .ok (.if_icmp .ge 23, 3) := by decide +kernel
theorem dX1_solve_56 : decode cX1_solve 56 = .ok (.aload_n 0, 1) := by decide +kernel
theorem dX1_solve_57 : decode cX1_solve 57 = .ok (.getfield 22, 3) := by decide +kernel
theorem dX1_solve_60 : decode cX1_solve 60 = .ok (.iload_n 2, 1) := by decide +kernel
theorem dX1_solve_61 : decode cX1_solve 61 = .ok (.lconst 0, 1) := by decide +kernel
theorem dX1_solve_62 : decode cX1_solve 62 = .ok (.lastore, 1) := by decide +kernel
theorem dX1_solve_63 : decode cX1_solve 63 = .ok (.aload_n 0, 1) := by decide +kernel
theorem dX1_solve_64 : decode cX1_solve 64 = .ok (.getfield 25, 3) := by decide +kernel
theorem dX1_solve_67 : decode cX1_solve 67 = .ok (.iload_n 2, 1) := by decide +kernel
theorem dX1_solve_68 : decode cX1_solve 68 = .ok (.lconst 1, 1) := by decide +kernel
theorem dX1_solve_69 : decode cX1_solve 69 = .ok (.lastore, 1) := by decide +kernel
theorem dX1_solve_70 : decode cX1_solve 70 = .ok (.iinc 2 1, 3) := by decide +kernel
theorem dX1_solve_73 : decode cX1_solve 73 = .ok (.goto (-22), 3) := by decide +kernel
theorem dX1_solve_76 : decode cX1_solve 76 = .ok (.aload_n 0, 1) := by decide +kernel
theorem dX1_solve_77 : decode cX1_solve 77 = .ok (.getfield 32, 3) := by decide +kernel
theorem dX1_solve_80 : decode cX1_solve 80 = .ok (.getfield 51, 3) := by decide +kernel
theorem dX1_solve_83 : decode cX1_solve 83 = .ok (.getfield 55, 3) := by decide +kernel
theorem dX1_solve_86 : decode cX1_solve 86 = .ok (.iconst 1, 1) := by decide +kernel
theorem dX1_solve_87 : decode cX1_solve 87 = .ok (.isub, 1) := by decide +kernel
theorem dX1_solve_88 : decode cX1_solve 88 = .ok (.istore_n 2, 1) := by decide +kernel
theorem dX1_solve_89 : decode cX1_solve 89 = .ok (.iload_n 2, 1) := by decide +kernel
theorem dX1_solve_90 : decode cX1_solve 90 = .ok (.ifCond .lt 34, 3) := by decide +kernel
theorem dX1_solve_93 : decode cX1_solve 93 = .ok (.aload_n 0, 1) := by decide +kernel
theorem dX1_solve_94 : decode cX1_solve 94 = .ok (.iload_n 2, 1) := by decide +kernel
theorem dX1_solve_95 : decode cX1_solve 95 = .ok (.invokevirtual 66, 3) := by decide +kernel
theorem dX1_solve_98 : decode cX1_solve 98 = .ok (.iconst 0, 1) := by decide +kernel
theorem dX1_solve_99 : decode cX1_solve 99 = .ok (.istore_n 3, 1) := by decide +kernel
theorem dX1_solve_100 : decode cX1_solve 100 = .ok (.iload_n 3, 1) := by decide +kernel
theorem dX1_solve_101 : decode cX1_solve 101 = .ok (.iconst 1, 1) := by decide +kernel
theorem dX1_solve_102 : decode cX1_solve 102 = .ok (.iload_n 2, 1) := by decide +kernel
theorem dX1_solve_103 : decode cX1_solve 103 = .ok (.ishl, 1) := by decide +kernel
theorem dX1_solve_104 : decode cX1_solve 104 = .ok (.if_icmp .ge 14, 3) := by decide +kernel
theorem dX1_solve_107 : decode cX1_solve 107 = .ok (.aload_n 0, 1) := by decide +kernel
theorem dX1_solve_108 : decode cX1_solve 108 = .ok (.iload_n 3, 1) := by decide +kernel
theorem dX1_solve_109 : decode cX1_solve 109 = .ok (.invokevirtual 70, 3) := by decide +kernel
theorem dX1_solve_112 : decode cX1_solve 112 = .ok (.iinc 3 1, 3) := by decide +kernel
theorem dX1_solve_115 : decode cX1_solve 115 = .ok (.goto (-15), 3) := by decide +kernel
theorem dX1_solve_118 : decode cX1_solve 118 = .ok (.iinc 2 (-1), 3) := by decide +kernel
theorem dX1_solve_121 : decode cX1_solve 121 = .ok (.goto (-32), 3) := by decide +kernel
theorem dX1_solve_124 : decode cX1_solve 124 = .ok (.return_, 1) := by decide +kernel
theorem dX1_sortByYear_0 : decode cX1_sortByYear 0 = .ok (.aload_n 0, 1) := by decide +kernel
theorem dX1_sortByYear_1 : decode cX1_sortByYear 1 = .ok (.getfield 32, 3) := by decide +kernel
theorem dX1_sortByYear_4 : decode cX1_sortByYear 4 = .ok (.getfield 51, 3) := by decide +kernel
theorem dX1_sortByYear_7 : decode cX1_sortByYear 7 = .ok (.getfield 73, 3) := by decide +kernel
theorem dX1_sortByYear_10 : decode cX1_sortByYear 10 = .ok (.astore_n 1, 1) := by decide +kernel
theorem dX1_sortByYear_11 : decode cX1_sortByYear 11 = .ok (.iconst 0, 1) := by decide +kernel
theorem dX1_sortByYear_12 : decode cX1_sortByYear 12 = .ok (.istore_n 2, 1) := by decide +kernel
theorem dX1_sortByYear_13 : decode cX1_sortByYear 13 = .ok (.iload_n 2, 1) := by decide +kernel
theorem dX1_sortByYear_14 : decode cX1_sortByYear 14 = .ok (.aload_n 0, 1) := by decide +kernel
theorem dX1_sortByYear_15 : decode cX1_sortByYear 15 = .ok (.getfield 32, 3) := by decide +kernel
theorem dX1_sortByYear_18 : decode cX1_sortByYear 18 = .ok (.getfield 51, 3) := by decide +kernel
theorem dX1_sortByYear_21 : decode cX1_sortByYear 21 = .ok (.getfield 55, 3) := by decide +kernel
theorem dX1_sortByYear_24 : decode cX1_sortByYear 24 = .ok (.if_icmp .ge 58, 3) := by decide +kernel
theorem dX1_sortByYear_27 : decode cX1_sortByYear 27 = .ok (.iload_n 2, 1) := by decide +kernel
theorem dX1_sortByYear_28 : decode cX1_sortByYear 28 = .ok (.istore_n 3, 1) := by decide +kernel
theorem dX1_sortByYear_29 : decode cX1_sortByYear 29 = .ok (.iload_n 3, 1) := by decide +kernel
theorem dX1_sortByYear_30 : decode cX1_sortByYear 30 = .ok (.ifCond .le 39, 3) := by decide +kernel
theorem dX1_sortByYear_33 : decode cX1_sortByYear 33 = .ok (.aload_n 1, 1) := by decide +kernel
theorem dX1_sortByYear_34 : decode cX1_sortByYear 34 = .ok (.aload_n 0, 1) := by decide +kernel
theorem dX1_sortByYear_35 : decode cX1_sortByYear 35 = .ok (.getfield 11, 3) := by decide +kernel
theorem dX1_sortByYear_38 : decode cX1_sortByYear 38 = .ok (.iload_n 3, 1) := by decide +kernel
theorem dX1_sortByYear_39 : decode cX1_sortByYear 39 = .ok (.iconst 1, 1) := by decide +kernel
theorem dX1_sortByYear_40 : decode cX1_sortByYear 40 = .ok (.isub, 1) := by decide +kernel
theorem dX1_sortByYear_41 : decode cX1_sortByYear 41 = .ok (.iaload, 1) := by decide +kernel
theorem dX1_sortByYear_42 : decode cX1_sortByYear 42 = .ok (.iaload, 1) := by decide +kernel
theorem dX1_sortByYear_43 : decode cX1_sortByYear 43 = .ok (.aload_n 1, 1) := by decide +kernel
theorem dX1_sortByYear_44 : decode cX1_sortByYear 44 = .ok (.iload_n 2, 1) := by decide +kernel
theorem dX1_sortByYear_45 : decode cX1_sortByYear 45 = .ok (.iaload, 1) := by decide +kernel
theorem dX1_sortByYear_46 : decode cX1_sortByYear 46 = .ok (.if_icmp .le 23, 3) := by decide +kernel
theorem dX1_sortByYear_49 : decode cX1_sortByYear 49 = .ok (.aload_n 0, 1) := by decide +kernel
theorem dX1_sortByYear_50 : decode cX1_sortByYear 50 = .ok (.getfield 11, 3) := by decide +kernel
theorem dX1_sortByYear_53 : decode cX1_sortByYear 53 = .ok (.iload_n 3, 1) := by decide +kernel
theorem dX1_sortByYear_54 : decode cX1_sortByYear 54 = .ok (.aload_n 0, 1) := by decide +kernel
theorem dX1_sortByYear_55 : decode cX1_sortByYear 55 = .ok (.getfield 11, 3) := by decide +kernel
theorem dX1_sortByYear_58 : decode cX1_sortByYear 58 = .ok (.iload_n 3, 1) := by decide +kernel
theorem dX1_sortByYear_59 : decode cX1_sortByYear 59 = .ok (.iconst 1, 1) := by decide +kernel
theorem dX1_sortByYear_60 : decode cX1_sortByYear 60 = .ok (.isub, 1) := by decide +kernel
theorem dX1_sortByYear_61 : decode cX1_sortByYear 61 = .ok (.iaload, 1) := by decide +kernel
theorem dX1_sortByYear_62 : decode cX1_sortByYear 62 = .ok (.iastore, 1) := by decide +kernel
theorem dX1_sortByYear_63 : decode cX1_sortByYear 63 = .ok (.iinc 3 (-1), 3) := by decide +kernel
theorem dX1_sortByYear_66 : decode cX1_sortByYear 66 = .ok (.goto (-37), 3) := by decide +kernel
theorem dX1_sortByYear_69 : decode cX1_sortByYear 69 = .ok (.aload_n 0, 1) := by decide +kernel
theorem dX1_sortByYear_70 : decode cX1_sortByYear 70 = .ok (.getfield 11, 3) := by decide +kernel
theorem dX1_sortByYear_73 : decode cX1_sortByYear 73 = .ok (.iload_n 3, 1) := by decide +kernel
theorem dX1_sortByYear_74 : decode cX1_sortByYear 74 = .ok (.iload_n 2, 1) := by decide +kernel
theorem dX1_sortByYear_75 : decode cX1_sortByYear 75 = .ok (.iastore, 1) := by decide +kernel
theorem dX1_sortByYear_76 : decode cX1_sortByYear 76 = .ok (.iinc 2 1, 3) := by decide +kernel
theorem dX1_sortByYear_79 : decode cX1_sortByYear 79 = .ok (.goto (-66), 3) := by decide +kernel
theorem dX1_sortByYear_82 : decode cX1_sortByYear 82 = .ok (.return_, 1) := by decide +kernel
theorem dX1_link_0 : decode cX1_link 0 = .ok (.aload_n 0, 1) := by decide +kernel
theorem dX1_link_1 : decode cX1_link 1 = .ok (.getfield 11, 3) := by decide +kernel
theorem dX1_link_4 : decode cX1_link 4 = .ok (.iload_n 1, 1) := by decide +kernel
theorem dX1_link_5 : decode cX1_link 5 = .ok (.iaload, 1) := by decide +kernel
theorem dX1_link_6 : decode cX1_link 6 = .ok (.istore_n 2, 1) := by decide +kernel
theorem dX1_link_7 : decode cX1_link 7 = .ok (.aload_n 0, 1) := by decide +kernel
theorem dX1_link_8 : decode cX1_link 8 = .ok (.iconst 0, 1) := by decide +kernel
theorem dX1_link_9 : decode cX1_link 9 = .ok (.putfield 76, 3) := by decide +kernel
theorem dX1_link_12 : decode cX1_link 12 = .ok (.iconst 0, 1) := by decide +kernel
theorem dX1_link_13 : decode cX1_link 13 = .ok (.istore_n 3, 1) := by decide +kernel
theorem dX1_link_14 : decode cX1_link 14 = .ok (.iload_n 3, 1) := by decide +kernel
theorem dX1_link_15 : decode cX1_link 15 = .ok (.iload_n 1, 1) := by decide +kernel
theorem dX1_link_16 : decode cX1_link 16 = .ok (.if_icmp .ge 112, 3) := by decide +kernel
theorem dX1_link_19 : decode cX1_link 19 = .ok (.aload_n 0, 1) := by decide +kernel
theorem dX1_link_20 : decode cX1_link 20 = .ok (.getfield 11, 3) := by decide +kernel
theorem dX1_link_23 : decode cX1_link 23 = .ok (.iload_n 3, 1) := by decide +kernel
theorem dX1_link_24 : decode cX1_link 24 = .ok (.iaload, 1) := by decide +kernel
theorem dX1_link_25 : decode cX1_link 25 = .ok (.istore 4, 2) := by decide +kernel
theorem dX1_link_27 : decode cX1_link 27 = .ok (.aload_n 0, 1) := by decide +kernel
theorem dX1_link_28 : decode cX1_link 28 = .ok (.getfield 32, 3) := by decide +kernel
theorem dX1_link_31 : decode cX1_link 31 = .ok (.iload 4, 2) := by decide +kernel
theorem dX1_link_33 : decode cX1_link 33 = .ok (.iload_n 2, 1) := by decide +kernel
theorem dX1_link_34 : decode cX1_link 34 = .ok (.invokevirtual 79, 3) := by decide +kernel
theorem dX1_link_37 : decode cX1_link 37 = .ok (.ifCond .eq 85, 3) := by decide +kernel
theorem dX1_link_40 : decode cX1_link 40 = .ok (.aload_n 0, 1) := by decide +kernel
theorem dX1_link_41 : decode cX1_link 41 = .ok (.getfield 32, 3) := by decide +kernel
theorem dX1_link_44 : decode cX1_link 44 = .ok (.getfield 51, 3) := by decide +kernel
theorem dX1_link_47 : decode cX1_link 47 = .ok (.getfield 83, 3) := by decide +kernel
theorem dX1_link_50 : decode cX1_link 50 = .ok (.iload 4, 2) := by decide +kernel
theorem dX1_link_52 : decode cX1_link 52 = .ok (.iaload, 1) := by decide +kernel
theorem dX1_link_53 : decode cX1_link 53 = .ok (.aload_n 0, 1) := by decide +kernel
theorem dX1_link_54 : decode cX1_link 54 = .ok (.getfield 32, 3) := by decide +kernel
theorem dX1_link_57 : decode cX1_link 57 = .ok (.getfield 51, 3) := by decide +kernel
theorem dX1_link_60 : decode cX1_link 60 = .ok (.getfield 83, 3) := by decide +kernel
theorem dX1_link_63 : decode cX1_link 63 = .ok (.iload_n 2, 1) := by decide +kernel
theorem dX1_link_64 : decode cX1_link 64 = .ok (.iaload, 1) := by decide +kernel
theorem dX1_link_65 : decode cX1_link 65 = .ok (.if_icmp .ne 7, 3) := by decide +kernel
theorem dX1_link_68 : decode cX1_link 68 = .ok (.lconst 0, 1) := by decide +kernel
theorem dX1_link_69 : decode cX1_link 69 = .ok (.goto 4, 3) := by decide +kernel
theorem dX1_link_72 : decode cX1_link 72 = .ok (.lconst 1, 1) := by decide +kernel
theorem dX1_link_73 : decode cX1_link 73 = .ok (.lstore 5, 2) := by decide +kernel
theorem dX1_link_75 : decode cX1_link 75 = .ok (.aload_n 0, 1) := by decide +kernel
theorem dX1_link_76 : decode cX1_link 76 = .ok (.getfield 15, 3) := by decide +kernel
theorem dX1_link_79 : decode cX1_link 79 = .ok (.aload_n 0, 1) := by decide +kernel
theorem dX1_link_80 : decode cX1_link 80 = .ok (.getfield 76, 3) := by decide +kernel
theorem dX1_link_83 : decode cX1_link 83 = .ok (.iconst 1, 1) := by decide +kernel
theorem dX1_link_84 : decode cX1_link 84 = .ok (.iload_n 3, 1) := by decide +kernel
theorem dX1_link_85 : decode cX1_link 85 = .ok (.ishl, 1) := by decide +kernel
theorem dX1_link_86 : decode cX1_link 86 = .ok (.iastore, 1) := by decide +kernel
theorem dX1_link_87 : decode cX1_link 87 = .ok (.aload_n 0, 1) := by decide +kernel
theorem dX1_link_88 : decode cX1_link 88 = .ok (.getfield 18, 3) := by decide +kernel
theorem dX1_link_91 : decode cX1_link 91 = .ok (.aload_n 0, 1) := by decide +kernel
theorem dX1_link_92 : decode cX1_link 92 = .ok (.getfield 76, 3) := by decide +kernel
theorem dX1_link_95 : decode cX1_link 95 = .ok (.lload 5, 2) := by decide +kernel
theorem dX1_link_97 : decode cX1_link 97 = .ok (.bipush 48, 2) := by decide +kernel
theorem dX1_link_99 : decode cX1_link 99 = .ok (.lshl, 1) := by decide +kernel
theorem dX1_link_100 : decode cX1_link 100 = .ok (.iload 4, 2) := by decide +kernel
theorem dX1_link_102 : decode cX1_link 102 = .ok (.i2l, 1) := by decide +kernel
theorem dX1_link_103 : decode cX1_link 103 = .ok (.lconst 1, 1) := by decide +kernel
theorem dX1_link_104 : decode cX1_link 104 = .ok (.ladd, 1) := by decide +kernel
theorem dX1_link_105 : decode cX1_link 105 = .ok (.iload_n 2, 1) := by decide +kernel
theorem dX1_link_106 : decode cX1_link 106 = .ok (.invokestatic 41, 3) := by decide +kernel
theorem dX1_link_109 : decode cX1_link 109 = .ok (.lshl, 1) := by decide +kernel
theorem dX1_link_110 : decode cX1_link 110 = .ok (.ladd, 1) := by decide +kernel
theorem dX1_link_111 : decode cX1_link 111 = .ok (.lastore, 1) := by decide +kernel
theorem dX1_link_112 : decode cX1_link 112 = .ok (.aload_n 0, 1) := by decide +kernel
theorem dX1_link_113 : decode cX1_link 113 = .ok (.dup, 1) := by decide +kernel
theorem dX1_link_114 : decode cX1_link 114 = .ok (.getfield 76, 3) := by decide +kernel
theorem dX1_link_117 : decode cX1_link 117 = .ok (.iconst 1, 1) := by decide +kernel
theorem dX1_link_118 : decode cX1_link 118 = .ok (.iadd, 1) := by decide +kernel
theorem dX1_link_119 : decode cX1_link 119 = .ok (.putfield 76, 3) := by decide +kernel
theorem dX1_link_122 : decode cX1_link 122 = .ok (.iinc 3 1, 3) := by decide +kernel
theorem dX1_link_125 : decode cX1_link 125 = .ok (.goto (-111), 3) := by decide +kernel
theorem dX1_link_128 : decode cX1_link 128 = .ok (.return_, 1) := by decide +kernel
theorem dX1_choose_0 : decode cX1_choose 0 = .ok (.aload_n 0, 1) := by decide +kernel
theorem dX1_choose_1 : decode cX1_choose 1 = .ok (.getfield 22, 3) := by decide +kernel
theorem dX1_choose_4 : decode cX1_choose 4 = .ok (.iload_n 1, 1) := by decide +kernel
theorem dX1_choose_5 : decode cX1_choose 5 = .ok (.laload, 1) := by decide +kernel
theorem dX1_choose_6 : decode cX1_choose 6 = .ok (.ldc2_w 86, 3) := by decide +kernel
theorem dX1_choose_9 : decode cX1_choose 9 = .ok (.ladd, 1) := by decide +kernel
theorem dX1_choose_10 : decode cX1_choose 10 = .ok (.lstore_n 2, 1) := by decide +kernel
theorem dX1_choose_11 : decode cX1_choose 11 = .ok (.aload_n 0, 1) := by decide +kernel
theorem dX1_choose_12 : decode cX1_choose 12 = .ok (.getfield 25, 3) := by decide +kernel
theorem dX1_choose_15 : decode cX1_choose 15 = .ok (.iload_n 1, 1) := by decide +kernel
theorem dX1_choose_16 : decode cX1_choose 16 = .ok (.laload, 1) := by decide +kernel
theorem dX1_choose_17 : decode cX1_choose 17 = .ok (.lstore 4, 2) := by decide +kernel
theorem dX1_choose_19 : decode cX1_choose 19 = .ok (.iconst 0, 1) := by decide +kernel
theorem dX1_choose_20 : decode cX1_choose 20 = .ok (.istore 6, 2) := by decide +kernel
theorem dX1_choose_22 : decode cX1_choose 22 = .ok (.iload 6, 2) := by decide +kernel
theorem dX1_choose_24 : decode cX1_choose 24 = .ok (.aload_n 0, 1) := by decide +kernel
theorem dX1_choose_25 : decode cX1_choose 25 = .ok (.getfield 76, 3) := by decide +kernel
theorem dX1_choose_28 : decode cX1_choose 28 = .ok (.if_icmp .ge 110, 3) := by decide +kernel
theorem dX1_choose_31 : decode cX1_choose 31 = .ok (.iload_n 1, 1) := by decide +kernel
theorem dX1_choose_32 : decode cX1_choose 32 = .ok (.aload_n 0, 1) := by decide +kernel
theorem dX1_choose_33 : decode cX1_choose 33 = .ok (.getfield 15, 3) := by decide +kernel
theorem dX1_choose_36 : decode cX1_choose 36 = .ok (.iload 6, 2) := by decide +kernel
theorem dX1_choose_38 : decode cX1_choose 38 = .ok (.iaload, 1) := by decide +kernel
theorem dX1_choose_39 : decode cX1_choose 39 = .ok (.iand, 1) := by decide +kernel
theorem dX1_choose_40 : decode cX1_choose 40 = .ok (.ifCond .ne 92, 3) := by decide +kernel
theorem dX1_choose_43 : decode cX1_choose 43 = .ok (.aload_n 0, 1) := by decide +kernel
theorem dX1_choose_44 : decode cX1_choose 44 = .ok (.getfield 22, 3) := by decide +kernel
theorem dX1_choose_47 : decode cX1_choose 47 = .ok (.iload_n 1, 1) := by decide +kernel
theorem dX1_choose_48 : decode cX1_choose 48 = .ok (.aload_n 0, 1) := by decide +kernel
theorem dX1_choose_49 : decode cX1_choose 49 = .ok (.getfield 15, 3) := by decide +kernel
theorem dX1_choose_52 : decode cX1_choose 52 = .ok (.iload 6, 2) := by decide +kernel
theorem dX1_choose_54 : decode cX1_choose 54 = .ok (.iaload, 1) := by decide +kernel
theorem dX1_choose_55 : decode cX1_choose 55 = .ok (.ior, 1) := by decide +kernel
theorem dX1_choose_56 : decode cX1_choose 56 = .ok (.laload, 1) := by decide +kernel
theorem dX1_choose_57 : decode cX1_choose 57 = .ok (.aload_n 0, 1) := by decide +kernel
theorem dX1_choose_58 : decode cX1_choose 58 = .ok (.getfield 18, 3) := by decide +kernel
theorem dX1_choose_61 : decode cX1_choose 61 = .ok (.iload 6, 2) := by decide +kernel
theorem dX1_choose_63 : decode cX1_choose 63 = .ok (.laload, 1) := by decide +kernel
theorem dX1_choose_64 : decode cX1_choose 64 = .ok (.ladd, 1) := by decide +kernel
theorem dX1_choose_65 : decode cX1_choose 65 = .ok (.lstore 7, 2) := by decide +kernel
theorem dX1_choose_67 : decode cX1_choose 67 = .ok (.lload 7, 2) := by decide +kernel
theorem dX1_choose_69 : decode cX1_choose 69 = .ok (.bipush 48, 2) := by decide +kernel
theorem dX1_choose_71 : decode cX1_choose 71 = .ok (.lshr, 1) := by decide +kernel
theorem dX1_choose_72 : decode cX1_choose 72 = .ok (.lload_n 2, 1) := by decide +kernel
theorem dX1_choose_73 : decode cX1_choose 73 = .ok (.bipush 48, 2) := by decide +kernel
theorem dX1_choose_75 : decode cX1_choose 75 = .ok (.lshr, 1) := by decide +kernel
theorem dX1_choose_76 : decode cX1_choose 76 = .ok (.lcmp, 1) := by decide +kernel
theorem dX1_choose_77 : decode cX1_choose 77 = .ok (.ifCond .ne 25, 3) := by decide +kernel
theorem dX1_choose_80 : decode cX1_choose 80 = .ok (.lload 4, 2) := by decide +kernel
theorem dX1_choose_82 : decode cX1_choose 82 = .ok (.aload_n 0, 1) := by decide +kernel
theorem dX1_choose_83 : decode cX1_choose 83 = .ok (.getfield 25, 3) := by decide +kernel
theorem dX1_choose_86 : decode cX1_choose 86 = .ok (.iload_n 1, 1) := by decide +kernel
theorem dX1_choose_87 : decode cX1_choose 87 = .ok (.aload_n 0, 1) := by decide +kernel
theorem dX1_choose_88 : decode cX1_choose 88 = .ok (.getfield 15, 3) := by decide +kernel
theorem dX1_choose_91 : decode cX1_choose 91 = .ok (.iload 6, 2) := by decide +kernel
theorem dX1_choose_93 : decode cX1_choose 93 = .ok (.iaload, 1) := by decide +kernel
theorem dX1_choose_94 : decode cX1_choose 94 = .ok (.ior, 1) := by decide +kernel
theorem dX1_choose_95 : decode cX1_choose 95 = .ok (.laload, 1) := by decide +kernel
theorem dX1_choose_96 : decode cX1_choose 96 = .ok (.ladd, 1) := by decide +kernel
theorem dX1_choose_97 : decode cX1_choose 97 = .ok (.lstore 4, 2) := by decide +kernel
theorem dX1_choose_99 : decode cX1_choose 99 = .ok (.goto 26, 3) := by decide +kernel
theorem dX1_choose_102 : decode cX1_choose 102 = .ok (.lload 7, 2) := by decide +kernel
theorem dX1_choose_104 : decode cX1_choose 104 = .ok (.lload_n 2, 1) := by decide +kernel
theorem dX1_choose_105 : decode cX1_choose 105 = .ok (.lcmp, 1) := by decide +kernel
theorem dX1_choose_106 : decode cX1_choose 106 = .ok (.ifCond .ge 19, 3) := by decide +kernel
theorem dX1_choose_109 : decode cX1_choose 109 = .ok (.aload_n 0, 1) := by decide +kernel
theorem dX1_choose_110 : decode cX1_choose 110 = .ok (.getfield 25, 3) := by decide +kernel
theorem dX1_choose_113 : decode cX1_choose 113 = .ok (.iload_n 1, 1) := by decide +kernel
theorem dX1_choose_114 : decode cX1_choose 114 = .ok (.aload_n 0, 1) := by decide +kernel
theorem dX1_choose_115 : decode cX1_choose 115 = .ok (.getfield 15, 3) := by decide +kernel
theorem dX1_choose_118 : decode cX1_choose 118 = .ok (.iload 6, 2) := by decide +kernel
theorem dX1_choose_120 : decode cX1_choose 120 = .ok (.iaload, 1) := by decide +kernel
theorem dX1_choose_121 : decode cX1_choose 121 = .ok (.ior, 1) := by decide +kernel
theorem dX1_choose_122 : decode cX1_choose 122 = .ok (.laload, 1) := by decide +kernel
theorem dX1_choose_123 : decode cX1_choose 123 = .ok (.lstore 4, 2) := by decide +kernel
theorem dX1_choose_125 : decode cX1_choose 125 = .ok (.lload_n 2, 1) := by decide +kernel
theorem dX1_choose_126 : decode cX1_choose 126 = .ok (.lload 7, 2) := by decide +kernel
theorem dX1_choose_128 : decode cX1_choose 128 = .ok (.invokestatic 88, 3) := by decide +kernel
theorem dX1_choose_131 : decode cX1_choose 131 = .ok (.lstore_n 2, 1) := by decide +kernel
theorem dX1_choose_132 : decode cX1_choose 132 = .ok (.iinc 6 1, 3) := by decide +kernel
theorem dX1_choose_135 : decode cX1_choose 135 = .ok (.goto (-113), 3) := by decide +kernel
theorem dX1_choose_138 : decode cX1_choose 138 = .ok (.aload_n 0, 1) := by decide +kernel
theorem dX1_choose_139 : decode cX1_choose 139 = .ok (.getfield 22, 3) := by decide +kernel
theorem dX1_choose_142 : decode cX1_choose 142 = .ok (.iload_n 1, 1) := by decide +kernel
theorem dX1_choose_143 : decode cX1_choose 143 = .ok (.lload_n 2, 1) := by decide +kernel
theorem dX1_choose_144 : decode cX1_choose 144 = .ok (.lastore, 1) := by decide +kernel
theorem dX1_choose_145 : decode cX1_choose 145 = .ok (.aload_n 0, 1) := by decide +kernel
theorem dX1_choose_146 : decode cX1_choose 146 = .ok (.getfield 25, 3) := by decide +kernel
theorem dX1_choose_149 : decode cX1_choose 149 = .ok (.iload_n 1, 1) := by decide +kernel
theorem dX1_choose_150 : decode cX1_choose 150 = .ok (.lload 4, 2) := by decide +kernel
theorem dX1_choose_152 : decode cX1_choose 152 = .ok (.lastore, 1) := by decide +kernel
theorem dX1_choose_153 : decode cX1_choose 153 = .ok (.return_, 1) := by decide +kernel
theorem dX2_init_0 : decode cX2_init 0 = .ok (.aload_n 0, 1) := by decide +kernel
theorem dX2_init_1 : decode cX2_init 1 = .ok (.invokespecial 3, 3) := by decide +kernel
theorem dX2_init_4 : decode cX2_init 4 = .ok (.aload_n 0, 1) := by decide +kernel
theorem dX2_init_5 : decode cX2_init 5 = .ok (.sipush 301, 3) := by decide +kernel
theorem dX2_init_8 : decode cX2_init 8 = .ok (.newarray .int, 2) := by decide +kernel
theorem dX2_init_10 : decode cX2_init 10 = .ok (.putfield 9, 3) := by decide +kernel
theorem dX2_init_13 : decode cX2_init 13 = .ok (.aload_n 0, 1) := by decide +kernel
theorem dX2_init_14 : decode cX2_init 14 = .ok (.aload_n 1, 1) := by decide +kernel
theorem dX2_init_15 : decode cX2_init 15 = .ok (.putfield 15, 3) := by decide +kernel
theorem dX2_init_18 : decode cX2_init 18 = .ok (.return_, 1) := by decide +kernel
theorem dX2_isHoly_0 : decode cX2_isHoly 0 = .ok (.aload_n 0, 1) := by decide +kernel
theorem dX2_isHoly_1 : decode cX2_isHoly 1 = .ok (.bipush 17, 2) := by decide +kernel
theorem dX2_isHoly_3 : decode cX2_isHoly 3 = .ok (.iload_n 1, 1) := by decide +kernel
theorem dX2_isHoly_4 : decode cX2_isHoly 4 = .ok (.iload_n 1, 1) := by decide +kernel
theorem dX2_isHoly_5 : decode cX2_isHoly 5 = .ok (.iconst 1, 1) := by decide +kernel
theorem dX2_isHoly_6 : decode cX2_isHoly 6 = .ok (.invokevirtual 19, 3) := by decide +kernel
theorem dX2_isHoly_9 : decode cX2_isHoly 9 = .ok (.ifCond .eq 7, 3) := by decide +kernel
theorem dX2_isHoly_12 : decode cX2_isHoly 12 = .ok (.iconst 1, 1) := by decide +kernel
theorem dX2_isHoly_13 : decode cX2_isHoly 13 = .ok (.goto 4, 3) := by decide +kernel
theorem dX2_isHoly_16 : decode cX2_isHoly 16 = .ok (.iconst 0, 1) := by decide +kernel
theorem dX2_isHoly_17 : decode cX2_isHoly 17 = .ok (.ireturn, 1) := by decide +kernel
theorem dX2_manyOf_0 : decode cX2_manyOf 0 = .ok (.aload_n 0, 1) := by decide +kernel
theorem dX2_manyOf_1 : decode cX2_manyOf 1 = .ok (.getfield 15, 3) := by decide +kernel
theorem dX2_manyOf_4 : decode cX2_manyOf 4 = .ok (.invokevirtual 23, 3) := by decide +kernel
theorem dX2_manyOf_7 : decode cX2_manyOf 7 = .ok (.astore_n 2, 1) := by decide +kernel
theorem dX2_manyOf_8 : decode cX2_manyOf 8 = .ok (.aload_n 2, 1) := by decide +kernel
theorem dX2_manyOf_9 : decode cX2_manyOf 9 = .ok (.ifnull 12, 3) := by decide +kernel
theorem dX2_manyOf_12 : decode cX2_manyOf 12 = .ok (.aload_n 2, 1) := by decide +kernel
theorem dX2_manyOf_13 : decode cX2_manyOf 13 = .ok (.getfield 29, 3) := by decide +kernel
theorem dX2_manyOf_16 : decode cX2_manyOf 16 = .ok (.iload_n 1, 1) := by decide +kernel
theorem dX2_manyOf_17 : decode cX2_manyOf 17 = .ok (.iaload, 1) := by decide +kernel
theorem dX2_manyOf_18 : decode cX2_manyOf 18 = .ok (.ifCond .ne 7, 3) := by decide +kernel
theorem dX2_manyOf_21 : decode cX2_manyOf 21 = .ok (.iconst 1, 1) := by decide +kernel
theorem dX2_manyOf_22 : decode cX2_manyOf 22 = .ok (.goto 9, 3) := by decide +kernel
theorem dX2_manyOf_25 : decode cX2_manyOf 25 = .ok (.aload_n 2, 1) := by decide +kernel
theorem dX2_manyOf_26 : decode cX2_manyOf 26 = .ok (.getfield 29, 3) := by decide +kernel
theorem dX2_manyOf_29 : decode cX2_manyOf 29 = .ok (.iload_n 1, 1) := by decide +kernel
theorem dX2_manyOf_30 : decode cX2_manyOf 30 = .ok (.iaload, 1) := by decide +kernel
theorem dX2_manyOf_31 : decode cX2_manyOf 31 = .ok (.ireturn, 1) := by decide +kernel
theorem dX2_holyTowns_0 : decode cX2_holyTowns 0 = .ok (.iconst 0, 1) := by decide +kernel
theorem dX2_holyTowns_1 : decode cX2_holyTowns 1 = .ok (.istore_n 1, 1) := by decide +kernel
theorem dX2_holyTowns_2 : decode cX2_holyTowns 2 = .ok (.iconst 0, 1) := by decide +kernel
theorem dX2_holyTowns_3 : decode cX2_holyTowns 3 = .ok (.istore_n 2, 1) := by decide +kernel
theorem dX2_holyTowns_4 : decode cX2_holyTowns 4 = .ok (.iload_n 2, 1) := by decide +kernel
theorem dX2_holyTowns_5 : decode cX2_holyTowns 5 = .ok (.aload_n 0, 1) := by decide +kernel
theorem dX2_holyTowns_6 : decode cX2_holyTowns 6 = .ok (.getfield 15, 3) := by decide +kernel
theorem dX2_holyTowns_9 : decode cX2_holyTowns 9 = .ok (.getfield 34, 3) := by decide +kernel
theorem dX2_holyTowns_12 : decode cX2_holyTowns 12 = .ok (.getfield 38, 3) := by decide +kernel
theorem dX2_holyTowns_15 : decode cX2_holyTowns 15 = .ok (.if_icmp .ge 34, 3) := by decide +kernel
theorem dX2_holyTowns_18 : decode cX2_holyTowns 18 = .ok (.aload_n 0, 1) := by decide +kernel
theorem dX2_holyTowns_19 : decode cX2_holyTowns 19 = .ok (.iload_n 2, 1) := by decide +kernel
theorem dX2_holyTowns_20 : decode cX2_holyTowns 20 = .ok (.invokevirtual 44, 3) := by decide +kernel
theorem dX2_holyTowns_23 : decode cX2_holyTowns 23 = .ok (.ifCond .eq 20, 3) := by decide +kernel
theorem dX2_holyTowns_26 : decode cX2_holyTowns 26 = .ok (.iload_n 1, 1) := by decide +kernel
theorem dX2_holyTowns_27 : decode cX2_holyTowns 27 = .ok (.iconst 1, 1) := by decide +kernel
theorem dX2_holyTowns_28 : decode cX2_holyTowns 28 = .ok (.aload_n 0, 1) := by decide +kernel
theorem dX2_holyTowns_29 : decode cX2_holyTowns 29 = .ok (.getfield 15, 3) := by decide +kernel
theorem dX2_holyTowns_32 : decode cX2_holyTowns 32 = .ok (.getfield 34, 3) := by decide +kernel
theorem dX2_holyTowns_35 : decode cX2_holyTowns 35 = .ok (.getfield 48, 3) := by decide +kernel
theorem dX2_holyTowns_38 : decode cX2_holyTowns 38 = .ok (.iload_n 2, 1) := by decide +kernel
theorem dX2_holyTowns_39 : decode cX2_holyTowns 39 = .ok (.iaload, 1) := by decide +kernel
theorem dX2_holyTowns_40 : decode cX2_holyTowns 40 = .ok (.ishl, 1) := by decide +kernel
theorem dX2_holyTowns_41 : decode cX2_holyTowns 41 = .ok (.ior, 1) := by decide +kernel
theorem dX2_holyTowns_42 : decode cX2_holyTowns 42 = .ok (.istore_n 1, 1) := by decide +kernel
theorem dX2_holyTowns_43 : decode cX2_holyTowns 43 = .ok (.iinc 2 1, 3) := by decide +kernel
theorem dX2_holyTowns_46 : decode cX2_holyTowns 46 = .ok (.goto (-42), 3) := by decide +kernel
theorem dX2_holyTowns_49 : decode cX2_holyTowns 49 = .ok (.iload_n 1, 1) := by decide +kernel
theorem dX2_holyTowns_50 : decode cX2_holyTowns 50 = .ok (.ireturn, 1) := by decide +kernel
theorem dX2_value_0 : decode cX2_value 0 = .ok (.aload_n 0, 1) := by decide +kernel
theorem dX2_value_1 : decode cX2_value 1 = .ok (.getfield 15, 3) := by decide +kernel
theorem dX2_value_4 : decode cX2_value 4 = .ok (.invokevirtual 23, 3) := by decide +kernel
theorem dX2_value_7 : decode cX2_value 7 = .ok (.astore 5, 2) := by decide +kernel
theorem dX2_value_9 : decode cX2_value 9 = .ok (.aload 5, 2) := by decide +kernel
theorem dX2_value_11 : decode cX2_value 11 = .ok (.ifnull 17, 3) := by decide +kernel
theorem dX2_value_14 : decode cX2_value 14 = .ok (.aload 5, 2) := by decide +kernel
theorem dX2_value_16 : decode cX2_value 16 = .ok (.getfield 51, 3) := by decide +kernel
theorem dX2_value_19 : decode cX2_value 19 = .ok (.iload_n 1, 1) := by decide +kernel
theorem dX2_value_20 : decode cX2_value 20 = .ok (.bipush 16, 2) := by decide +kernel
theorem dX2_value_22 : decode cX2_value 22 = .ok (.isub, 1) := by decide +kernel
theorem dX2_value_23 : decode cX2_value 23 = .ok (.iaload, 1) := by decide +kernel
theorem dX2_value_24 : decode cX2_value 24 = .ok (.iconst (-1), 1) := by decide +kernel
theorem dX2_value_25 : decode cX2_value 25 = .ok (.if_icmp .ne 6, 3) := by decide +kernel
theorem dX2_value_28 : decode cX2_value 28 = .ok (.iload 4, 2) := by decide +kernel
theorem dX2_value_30 : decode cX2_value 30 = .ok (.ireturn, 1) := by decide +kernel
theorem dX2_value_31 : decode cX2_value 31 = .ok (.aload_n 0, 1) := by decide +kernel
theorem dX2_value_32 : decode cX2_value 32 = .ok (.iload_n 2, 1) := by decide +kernel
theorem dX2_value_33 : decode cX2_value 33 = .ok (.putfield 54, 3) := by decide +kernel
theorem dX2_value_36 : decode cX2_value 36 = .ok (.aload_n 0, 1) := by decide +kernel
theorem dX2_value_37 : decode cX2_value 37 = .ok (.iload_n 3, 1) := by decide +kernel
theorem dX2_value_38 : decode cX2_value 38 = .ok (.putfield 57, 3) := by decide +kernel
theorem dX2_value_41 : decode cX2_value 41 = .ok (.aload_n 0, 1) := by decide +kernel
theorem dX2_value_42 : decode cX2_value 42 = .ok (.aload 5, 2) := by decide +kernel
theorem dX2_value_44 : decode cX2_value 44 = .ok (.getfield 60, 3) := by decide +kernel
theorem dX2_value_47 : decode cX2_value 47 = .ok (.aload 5, 2) := by decide +kernel
theorem dX2_value_49 : decode cX2_value 49 = .ok (.getfield 51, 3) := by decide +kernel
theorem dX2_value_52 : decode cX2_value 52 = .ok (.iload_n 1, 1) := by decide +kernel
theorem dX2_value_53 : decode cX2_value 53 = .ok (.bipush 16, 2) := by decide +kernel
theorem dX2_value_55 : decode cX2_value 55 = .ok (.isub, 1) := by decide +kernel
theorem dX2_value_56 : decode cX2_value 56 = .ok (.iaload, 1) := by decide +kernel
theorem dX2_value_57 : decode cX2_value 57 = .ok (.aload 5, 2) := by decide +kernel
theorem dX2_value_59 : decode cX2_value 59 = .ok (.getfield 63, 3) := by decide +kernel
theorem dX2_value_62 : decode cX2_value 62 = .ok (.iload_n 1, 1) := by decide +kernel
theorem dX2_value_63 : decode cX2_value 63 = .ok (.bipush 16, 2) := by decide +kernel
theorem dX2_value_65 : decode cX2_value 65 = .ok (.isub, 1) := by decide +kernel
theorem dX2_value_66 : decode cX2_value 66 = .ok (.iaload, 1) := by decide +kernel
theorem dX2_value_67 : decode cX2_value 67 = .ok (.invokevirtual 66, 3) := by decide +kernel
theorem dX2_value_70 : decode cX2_value 70 = .ok (.ireturn, 1) := by decide +kernel
theorem dX2_reckon_0 : decode cX2_reckon 0 = .ok (.iconst 0, 1) := by decide +kernel
theorem dX2_reckon_1 : decode cX2_reckon 1 = .ok (.istore 4, 2) := by decide +kernel
theorem dX2_reckon_3 : decode cX2_reckon 3 = .ok (.iload_n 2, 1) := by decide +kernel
theorem dX2_reckon_4 : decode cX2_reckon 4 = .ok (.istore 5, 2) := by decide +kernel
theorem dX2_reckon_6 : decode cX2_reckon 6 = .ok (.iload 5, 2) := by decide +kernel
theorem dX2_reckon_8 : decode cX2_reckon 8 = .ok (.iload_n 3, 1) := by decide +kernel
theorem dX2_reckon_9 : decode cX2_reckon 9 = .ok (.if_icmp .ge 183, 3) := by decide +kernel
theorem dX2_reckon_12 : decode cX2_reckon 12 = .ok (.iload 5, 2) := by decide +kernel
theorem dX2_reckon_14 : decode cX2_reckon 14 = .ok (.aload_n 1, 1) := by decide +kernel
theorem dX2_reckon_15 : decode cX2_reckon 15 = .ok (.arraylength, 1) := by decide +kernel
theorem dX2_reckon_16 : decode cX2_reckon 16 = .ok (.if_icmp .ge 176, 3) := by decide +kernel
theorem dX2_reckon_19 : decode cX2_reckon 19 = .ok (.aload_n 1, 1) := by decide +kernel
theorem dX2_reckon_20 : decode cX2_reckon 20 = .ok (.iload 5, 2) := by decide +kernel
theorem dX2_reckon_22 : decode cX2_reckon 22 = .ok (.iaload, 1) := by decide +kernel
theorem dX2_reckon_23 : decode cX2_reckon 23 = .ok (.ineg, 1) := by decide +kernel
theorem dX2_reckon_24 : decode cX2_reckon 24 = .ok (.istore 6, 2) := by decide +kernel
theorem dX2_reckon_26 : decode cX2_reckon 26 = .ok (.iload 6, 2) := by decide +kernel
theorem dX2_reckon_28 : decode cX2_reckon 28 = .ok (.ifCond .le 17, 3) := by decide +kernel
theorem dX2_reckon_31 : decode cX2_reckon 31 = .ok (.iload 6, 2) := by decide +kernel
theorem dX2_reckon_33 : decode cX2_reckon 33 = .ok (.bipush 32, 2) := by decide +kernel
theorem dX2_reckon_35 : decode cX2_reckon 35 = .ok (.if_icmp .lt 50, 3) := by decide +kernel
theorem dX2_reckon_38 : decode cX2_reckon 38 = .ok (.iload 6, 2) := by decide +kernel
theorem dX2_reckon_40 : decode cX2_reckon 40 = .ok (.bipush 39, 2) := by decide +kernel
theorem dX2_reckon_42 : decode cX2_reckon 42 = .ok (.if_icmp .gt 43, 3) := by decide +kernel
theorem dX2_reckon_45 : decode cX2_reckon 45 = .ok (.iload 4, 2) := by decide +kernel
theorem dX2_reckon_47 : decode cX2_reckon 47 = .ok (.aload_n 0, 1) := by decide +kernel
theorem dX2_reckon_48 : decode cX2_reckon 48 = .ok (.getfield 9, 3) := by decide +kernel
theorem dX2_reckon_51 : decode cX2_reckon 51 = .ok (.arraylength, 1) := by decide +kernel
theorem dX2_reckon_52 : decode cX2_reckon 52 = .ok (.if_icmp .ge 134, 3) := by decide +kernel
theorem dX2_reckon_55 : decode cX2_reckon 55 = .ok (.aload_n 0, 1) := by decide +kernel
theorem dX2_reckon_56 : decode cX2_reckon 56 = .ok (.getfield 9, 3) := by decide +kernel
theorem dX2_reckon_59 : decode cX2_reckon 59 = .ok (.iload 4, 2) := by decide +kernel
theorem dX2_reckon_61 : decode cX2_reckon 61 = .ok (.iload 6, 2) := by decide +kernel
theorem dX2_reckon_63 : decode cX2_reckon 63 = .ok (.ifCond .gt 9, 3) := by decide +kernel
theorem dX2_reckon_66 : decode cX2_reckon 66 = .ok (.iload 6, 2) := by decide +kernel
theorem dX2_reckon_68 : decode cX2_reckon 68 = .ok (.ineg, 1) := by decide +kernel
theorem dX2_reckon_69 : decode cX2_reckon 69 = .ok (.goto 9, 3) := by decide +kernel
theorem dX2_reckon_72 : decode cX2_reckon 72 = .ok (.aload_n 0, 1) := by decide +kernel
theorem dX2_reckon_73 : decode cX2_reckon 73 = .ok (.iload 6, 2) := by decide +kernel
theorem dX2_reckon_75 : decode cX2_reckon 75 = .ok (.invokevirtual 70, 3) := by decide +kernel
theorem dX2_reckon_78 : decode cX2_reckon 78 = .ok (.iastore, 1) := by decide +kernel
theorem dX2_reckon_79 : decode cX2_reckon 79 = .ok (.iinc 4 1, 3) := by decide +kernel
theorem dX2_reckon_82 : decode cX2_reckon 82 = .ok (.goto 104, 3) := by decide +kernel
theorem dX2_reckon_85 : decode cX2_reckon 85 = .ok (.iload 6, 2) := by decide +kernel
theorem dX2_reckon_87 : decode cX2_reckon 87 = .ok (.bipush 40, 2) := by decide +kernel
theorem dX2_reckon_89 : decode cX2_reckon 89 = .ok (.if_icmp .eq 10, 3) := by decide +kernel
theorem dX2_reckon_92 : decode cX2_reckon 92 = .ok (.iload 6, 2) := by decide +kernel
theorem dX2_reckon_94 : decode cX2_reckon 94 = .ok (.bipush 29, 2) := by decide +kernel
theorem dX2_reckon_96 : decode cX2_reckon 96 = .ok (.if_icmp .ne 51, 3) := by decide +kernel
theorem dX2_reckon_99 : decode cX2_reckon 99 = .ok (.iload 4, 2) := by decide +kernel
theorem dX2_reckon_101 : decode cX2_reckon 101 = .ok (.ifCond .le 85, 3) := by decide +kernel
theorem dX2_reckon_104 : decode cX2_reckon 104 = .ok (.aload_n 0, 1) := by decide +kernel
theorem dX2_reckon_105 : decode cX2_reckon 105 = .ok (.getfield 9, 3) := by decide +kernel
theorem dX2_reckon_108 : decode cX2_reckon 108 = .ok (.iload 4, 2) := by decide +kernel
theorem dX2_reckon_110 : decode cX2_reckon 110 = .ok (.iconst 1, 1) := by decide +kernel
theorem dX2_reckon_111 : decode cX2_reckon 111 = .ok (.isub, 1) := by decide +kernel
theorem dX2_reckon_112 : decode cX2_reckon 112 = .ok (.iload 6, 2) := by decide +kernel
theorem dX2_reckon_114 : decode cX2_reckon 114 = .ok (.bipush 29, 2) := by decide +kernel
theorem dX2_reckon_116 : decode cX2_reckon 116 = .ok (.if_icmp .ne 17, 3) := by decide +kernel
theorem dX2_reckon_119 : decode cX2_reckon 119 = .ok (.iconst 1, 1) := by decide +kernel
theorem dX2_reckon_120 : decode cX2_reckon 120 = .ok (.aload_n 0, 1) := by decide +kernel
theorem dX2_reckon_121 : decode cX2_reckon 121 = .ok (.getfield 9, 3) := by decide +kernel
theorem dX2_reckon_124 : decode cX2_reckon 124 = .ok (.iload 4, 2) := by decide +kernel
theorem dX2_reckon_126 : decode cX2_reckon 126 = .ok (.iconst 1, 1) := by decide +kernel
theorem dX2_reckon_127 : decode cX2_reckon 127 = .ok (.isub, 1) := by decide +kernel
theorem dX2_reckon_128 : decode cX2_reckon 128 = .ok (.iaload, 1) := by decide +kernel
theorem dX2_reckon_129 : decode cX2_reckon 129 = .ok (.isub, 1) := by decide +kernel
theorem dX2_reckon_130 : decode cX2_reckon 130 = .ok (.goto 13, 3) := by decide +kernel
theorem dX2_reckon_133 : decode cX2_reckon 133 = .ok (.aload_n 0, 1) := by decide +kernel
theorem dX2_reckon_134 : decode cX2_reckon 134 = .ok (.getfield 9, 3) := by decide +kernel
theorem dX2_reckon_137 : decode cX2_reckon 137 = .ok (.iload 4, 2) := by decide +kernel
theorem dX2_reckon_139 : decode cX2_reckon 139 = .ok (.iconst 1, 1) := by decide +kernel
theorem dX2_reckon_140 : decode cX2_reckon 140 = .ok (.isub, 1) := by decide +kernel
theorem dX2_reckon_141 : decode cX2_reckon 141 = .ok (.iaload, 1) := by decide +kernel
theorem dX2_reckon_142 : decode cX2_reckon 142 = .ok (.ineg, 1) := by decide +kernel
theorem dX2_reckon_143 : decode cX2_reckon 143 = .ok (.iastore, 1) := by decide +kernel
theorem dX2_reckon_144 : decode cX2_reckon 144 = .ok (.goto 42, 3) := by decide +kernel
theorem dX2_reckon_147 : decode cX2_reckon 147 = .ok (.iload 4, 2) := by decide +kernel
theorem dX2_reckon_149 : decode cX2_reckon 149 = .ok (.iconst 1, 1) := by decide +kernel
theorem dX2_reckon_150 : decode cX2_reckon 150 = .ok (.if_icmp .le 36, 3) := by decide +kernel
theorem dX2_reckon_153 : decode cX2_reckon 153 = .ok (.iinc 4 (-1), 3) := by decide +kernel
theorem dX2_reckon_156 : decode cX2_reckon 156 = .ok (.aload_n 0, 1) := by decide +kernel
theorem dX2_reckon_157 : decode cX2_reckon 157 = .ok (.getfield 9, 3) := by decide +kernel
theorem dX2_reckon_160 : decode cX2_reckon 160 = .ok (.iload 4, 2) := by decide +kernel
theorem dX2_reckon_162 : decode cX2_reckon 162 = .ok (.iconst 1, 1) := by decide +kernel
theorem dX2_reckon_163 : decode cX2_reckon 163 = .ok (.isub, 1) := by decide +kernel
theorem dX2_reckon_164 : decode cX2_reckon 164 = .ok (.iload 6, 2) := by decide +kernel
theorem dX2_reckon_166 : decode cX2_reckon 166 = .ok (.aload_n 0, 1) := by decide +kernel
theorem dX2_reckon_167 : decode cX2_reckon 167 = .ok (.getfield 9, 3) := by decide +kernel
theorem dX2_reckon_170 : decode cX2_reckon 170 = .ok (.iload 4, 2) := by decide +kernel
theorem dX2_reckon_172 : decode cX2_reckon 172 = .ok (.iconst 1, 1) := by decide +kernel
theorem dX2_reckon_173 : decode cX2_reckon 173 = .ok (.isub, 1) := by decide +kernel
theorem dX2_reckon_174 : decode cX2_reckon 174 = .ok (.iaload, 1) := by decide +kernel
theorem dX2_reckon_175 : decode cX2_reckon 175 = .ok (.aload_n 0, 1) := by decide +kernel
theorem dX2_reckon_176 : decode cX2_reckon 176 = .ok (.getfield 9, 3) := by decide +kernel
theorem dX2_reckon_179 : decode cX2_reckon 179 = .ok (.iload 4, 2) := by decide +kernel
theorem dX2_reckon_181 : decode cX2_reckon 181 = .ok (.iaload, 1) := by decide +kernel
theorem dX2_reckon_182 : decode cX2_reckon 182 = .ok (.invokestatic 74, 3) := by decide +kernel
theorem dX2_reckon_185 : decode cX2_reckon 185 = .ok (.iastore, 1) := by decide +kernel
theorem dX2_reckon_186 : decode cX2_reckon 186 = .ok (.iinc 5 1, 3) := by decide +kernel
theorem dX2_reckon_189 : decode cX2_reckon 189 = .ok (.goto (-183), 3) := by decide +kernel
theorem dX2_reckon_192 : decode cX2_reckon 192 = .ok (.aload_n 0, 1) := by decide +kernel
theorem dX2_reckon_193 : decode cX2_reckon 193 = .ok (.getfield 9, 3) := by decide +kernel
theorem dX2_reckon_196 : decode cX2_reckon 196 = .ok (.iconst 0, 1) := by decide +kernel
theorem dX2_reckon_197 : decode cX2_reckon 197 = .ok (.iaload, 1) := by decide +kernel
theorem dX2_reckon_198 : decode cX2_reckon 198 = .ok (.ireturn, 1) := by decide +kernel
theorem dX2_nameOf_0 : decode cX2_nameOf 0 = .ok (.iload_n 1, 1) := by decide +kernel
theorem dX2_nameOf_1 : decode cX2_nameOf 1 = .ok (.tableswitch 140 32 38 #[43, 56, 72, 88, 100, 111, 124], 43) := by decide +kernel
theorem dX2_nameOf_44 : decode cX2_nameOf 44 = .ok (.aload_n 0, 1) := by decide +kernel
theorem dX2_nameOf_45 : decode cX2_nameOf 45 = .ok (.getfield 15, 3) := by decide +kernel
theorem dX2_nameOf_48 : decode cX2_nameOf 48 = .ok (.getfield 78, 3) := by decide +kernel
theorem dX2_nameOf_51 : decode cX2_nameOf 51 = .ok (.aload_n 0, 1) := by decide +kernel
theorem dX2_nameOf_52 : decode cX2_nameOf 52 = .ok (.getfield 54, 3) := by decide +kernel
theorem dX2_nameOf_55 : decode cX2_nameOf 55 = .ok (.iaload, 1) := by decide +kernel
theorem dX2_nameOf_56 : decode cX2_nameOf 56 = .ok (.ireturn, 1) := by decide +kernel
theorem dX2_nameOf_57 : decode cX2_nameOf 57 = .ok (.aload_n 0, 1) := by decide +kernel
theorem dX2_nameOf_58 : decode cX2_nameOf 58 = .ok (.getfield 15, 3) := by decide +kernel
theorem dX2_nameOf_61 : decode cX2_nameOf 61 = .ok (.getfield 34, 3) := by decide +kernel
theorem dX2_nameOf_64 : decode cX2_nameOf 64 = .ok (.getfield 81, 3) := by decide +kernel
theorem dX2_nameOf_67 : decode cX2_nameOf 67 = .ok (.aload_n 0, 1) := by decide +kernel
theorem dX2_nameOf_68 : decode cX2_nameOf 68 = .ok (.getfield 54, 3) := by decide +kernel
theorem dX2_nameOf_71 : decode cX2_nameOf 71 = .ok (.iaload, 1) := by decide +kernel
theorem dX2_nameOf_72 : decode cX2_nameOf 72 = .ok (.ireturn, 1) := by decide +kernel
theorem dX2_nameOf_73 : decode cX2_nameOf 73 = .ok (.aload_n 0, 1) := by decide +kernel
theorem dX2_nameOf_74 : decode cX2_nameOf 74 = .ok (.getfield 15, 3) := by decide +kernel
theorem dX2_nameOf_77 : decode cX2_nameOf 77 = .ok (.getfield 34, 3) := by decide +kernel
theorem dX2_nameOf_80 : decode cX2_nameOf 80 = .ok (.getfield 48, 3) := by decide +kernel
theorem dX2_nameOf_83 : decode cX2_nameOf 83 = .ok (.aload_n 0, 1) := by decide +kernel
theorem dX2_nameOf_84 : decode cX2_nameOf 84 = .ok (.getfield 54, 3) := by decide +kernel
theorem dX2_nameOf_87 : decode cX2_nameOf 87 = .ok (.iaload, 1) := by decide +kernel
theorem dX2_nameOf_88 : decode cX2_nameOf 88 = .ok (.ireturn, 1) := by decide +kernel
theorem dX2_nameOf_89 : decode cX2_nameOf 89 = .ok (.aload_n 0, 1) := by decide +kernel
theorem dX2_nameOf_90 : decode cX2_nameOf 90 = .ok (.getfield 15, 3) := by decide +kernel
theorem dX2_nameOf_93 : decode cX2_nameOf 93 = .ok (.aload_n 0, 1) := by decide +kernel
theorem dX2_nameOf_94 : decode cX2_nameOf 94 = .ok (.getfield 54, 3) := by decide +kernel
theorem dX2_nameOf_97 : decode cX2_nameOf 97 = .ok (.invokevirtual 84, 3) := by decide +kernel
theorem dX2_nameOf_100 : decode cX2_nameOf 100 = .ok (.ireturn, 1) := by decide +kernel
theorem dX2_nameOf_101 : decode cX2_nameOf 101 = .ok (.aload_n 0, 1) := by decide +kernel
theorem dX2_nameOf_102 : decode cX2_nameOf 102 = .ok (.getfield 15, 3) := by decide +kernel
theorem dX2_nameOf_105 : decode cX2_nameOf 105 = .ok (.getfield 34, 3) := by decide +kernel
theorem dX2_nameOf_108 : decode cX2_nameOf 108 = .ok (.getfield 87, 3) := by decide +kernel
theorem dX2_nameOf_111 : decode cX2_nameOf 111 = .ok (.ireturn, 1) := by decide +kernel
theorem dX2_nameOf_112 : decode cX2_nameOf 112 = .ok (.aload_n 0, 1) := by decide +kernel
theorem dX2_nameOf_113 : decode cX2_nameOf 113 = .ok (.getfield 15, 3) := by decide +kernel
theorem dX2_nameOf_116 : decode cX2_nameOf 116 = .ok (.getfield 78, 3) := by decide +kernel
theorem dX2_nameOf_119 : decode cX2_nameOf 119 = .ok (.aload_n 0, 1) := by decide +kernel
theorem dX2_nameOf_120 : decode cX2_nameOf 120 = .ok (.getfield 57, 3) := by decide +kernel
theorem dX2_nameOf_123 : decode cX2_nameOf 123 = .ok (.iaload, 1) := by decide +kernel
theorem dX2_nameOf_124 : decode cX2_nameOf 124 = .ok (.ireturn, 1) := by decide +kernel
theorem dX2_nameOf_125 : decode cX2_nameOf 125 = .ok (.aload_n 0, 1) := by decide +kernel
theorem dX2_nameOf_126 : decode cX2_nameOf 126 = .ok (.getfield 15, 3) := by decide +kernel
theorem dX2_nameOf_129 : decode cX2_nameOf 129 = .ok (.getfield 34, 3) := by decide +kernel
theorem dX2_nameOf_132 : decode cX2_nameOf 132 = .ok (.getfield 81, 3) := by decide +kernel
theorem dX2_nameOf_135 : decode cX2_nameOf 135 = .ok (.aload_n 0, 1) := by decide +kernel
theorem dX2_nameOf_136 : decode cX2_nameOf 136 = .ok (.getfield 57, 3) := by decide +kernel
theorem dX2_nameOf_139 : decode cX2_nameOf 139 = .ok (.iaload, 1) := by decide +kernel
theorem dX2_nameOf_140 : decode cX2_nameOf 140 = .ok (.ireturn, 1) := by decide +kernel
theorem dX2_nameOf_141 : decode cX2_nameOf 141 = .ok (.aload_n 0, 1) := by decide +kernel
theorem dX2_nameOf_142 : decode cX2_nameOf 142 = .ok (.getfield 15, 3) := by decide +kernel
theorem dX2_nameOf_145 : decode cX2_nameOf 145 = .ok (.getfield 34, 3) := by decide +kernel
theorem dX2_nameOf_148 : decode cX2_nameOf 148 = .ok (.getfield 48, 3) := by decide +kernel
theorem dX2_nameOf_151 : decode cX2_nameOf 151 = .ok (.aload_n 0, 1) := by decide +kernel
theorem dX2_nameOf_152 : decode cX2_nameOf 152 = .ok (.getfield 57, 3) := by decide +kernel
theorem dX2_nameOf_155 : decode cX2_nameOf 155 = .ok (.iaload, 1) := by decide +kernel
theorem dX2_nameOf_156 : decode cX2_nameOf 156 = .ok (.ireturn, 1) := by decide +kernel
theorem dX2_join_0 : decode cX2_join 0 = .ok (.iload_n 0, 1) := by decide +kernel
theorem dX2_join_1 : decode cX2_join 1 = .ok (.tableswitch 224 6 30 #[115, 124, 133, 142, 154, 176, 198, 209, 165, 187, 224, 224, 224, 224, 224, 224, 224, 224, 224, 224, 224, 224, 224, 224, 220], 115) := by decide +kernel
theorem dX2_join_116 : decode cX2_join 116 = .ok (.iload_n 1, 1) := by decide +kernel
theorem dX2_join_117 : decode cX2_join 117 = .ok (.i2l, 1) := by decide +kernel
theorem dX2_join_118 : decode cX2_join 118 = .ok (.iload_n 2, 1) := by decide +kernel
theorem dX2_join_119 : decode cX2_join 119 = .ok (.i2l, 1) := by decide +kernel
theorem dX2_join_120 : decode cX2_join 120 = .ok (.ladd, 1) := by decide +kernel
theorem dX2_join_121 : decode cX2_join 121 = .ok (.invokestatic 90, 3) := by decide +kernel
theorem dX2_join_124 : decode cX2_join 124 = .ok (.ireturn, 1) := by decide +kernel
theorem dX2_join_125 : decode cX2_join 125 = .ok (.iload_n 1, 1) := by decide +kernel
theorem dX2_join_126 : decode cX2_join 126 = .ok (.i2l, 1) := by decide +kernel
theorem dX2_join_127 : decode cX2_join 127 = .ok (.iload_n 2, 1) := by decide +kernel
theorem dX2_join_128 : decode cX2_join 128 = .ok (.i2l, 1) := by decide +kernel
theorem dX2_join_129 : decode cX2_join 129 = .ok (.lsub, 1) := by decide +kernel
theorem dX2_join_130 : decode cX2_join 130 = .ok (.invokestatic 90, 3) := by decide +kernel
theorem dX2_join_133 : decode cX2_join 133 = .ok (.ireturn, 1) := by decide +kernel
theorem dX2_join_134 : decode cX2_join 134 = .ok (.iload_n 1, 1) := by decide +kernel
theorem dX2_join_135 : decode cX2_join 135 = .ok (.i2l, 1) := by decide +kernel
theorem dX2_join_136 : decode cX2_join 136 = .ok (.iload_n 2, 1) := by decide +kernel
theorem dX2_join_137 : decode cX2_join 137 = .ok (.i2l, 1) := by decide +kernel
theorem dX2_join_138 : decode cX2_join 138 = .ok (.lmul, 1) := by decide +kernel
theorem dX2_join_139 : decode cX2_join 139 = .ok (.invokestatic 90, 3) := by decide +kernel
theorem dX2_join_142 : decode cX2_join 142 = .ok (.ireturn, 1) := by decide +kernel
theorem dX2_join_143 : decode cX2_join 143 = .ok (.iload_n 2, 1) := by decide +kernel
theorem dX2_join_144 : decode cX2_join 144 = .ok (.ifCond .ne 7, 3) := by decide +kernel
theorem dX2_join_147 : decode cX2_join 147 = .ok (.iconst 0, 1) := by decide +kernel
theorem dX2_join_148 : decode cX2_join 148 = .ok (.goto 6, 3) := by decide +kernel
theorem dX2_join_151 : decode cX2_join 151 = .ok (.iload_n 1, 1) := by decide +kernel
theorem dX2_join_152 : decode cX2_join 152 = .ok (.iload_n 2, 1) := by decide +kernel
theorem dX2_join_153 : decode cX2_join 153 = .ok (.idiv, 1) := by decide +kernel
theorem dX2_join_154 : decode cX2_join 154 = .ok (.ireturn, 1) := by decide +kernel
theorem dX2_join_155 : decode cX2_join 155 = .ok (.iload_n 1, 1) := by decide +kernel
theorem dX2_join_156 : decode cX2_join 156 = .ok (.iload_n 2, 1) := by decide +kernel
theorem dX2_join_157 : decode cX2_join 157 = .ok (.if_icmp .ge 7, 3) := by decide +kernel
theorem dX2_join_160 : decode cX2_join 160 = .ok (.iconst 1, 1) := by decide +kernel
theorem dX2_join_161 : decode cX2_join 161 = .ok (.goto 4, 3) := by decide +kernel
theorem dX2_join_164 : decode cX2_join 164 = .ok (.iconst 0, 1) := by decide +kernel
theorem dX2_join_165 : decode cX2_join 165 = .ok (.ireturn, 1) := by decide +kernel
theorem dX2_join_166 : decode cX2_join 166 = .ok (.iload_n 1, 1) := by decide +kernel
theorem dX2_join_167 : decode cX2_join 167 = .ok (.iload_n 2, 1) := by decide +kernel
theorem dX2_join_168 : decode cX2_join 168 = .ok (.if_icmp .gt 7, 3) := by decide +kernel
theorem dX2_join_171 : decode cX2_join 171 = .ok (.iconst 1, 1) := by decide +kernel
theorem dX2_join_172 : decode cX2_join 172 = .ok (.goto 4, 3) := by decide +kernel
theorem dX2_join_175 : decode cX2_join 175 = .ok (.iconst 0, 1) := by decide +kernel
theorem dX2_join_176 : decode cX2_join 176 = .ok (.ireturn, 1) := by decide +kernel
theorem dX2_join_177 : decode cX2_join 177 = .ok (.iload_n 1, 1) := by decide +kernel
theorem dX2_join_178 : decode cX2_join 178 = .ok (.iload_n 2, 1) := by decide +kernel
theorem dX2_join_179 : decode cX2_join 179 = .ok (.if_icmp .le 7, 3) := by decide +kernel
theorem dX2_join_182 : decode cX2_join 182 = .ok (.iconst 1, 1) := by decide +kernel
theorem dX2_join_183 : decode cX2_join 183 = .ok (.goto 4, 3) := by decide +kernel
theorem dX2_join_186 : decode cX2_join 186 = .ok (.iconst 0, 1) := by decide +kernel
theorem dX2_join_187 : decode cX2_join 187 = .ok (.ireturn, 1) := by decide +kernel
theorem dX2_join_188 : decode cX2_join 188 = .ok (.iload_n 1, 1) := by decide +kernel
theorem dX2_join_189 : decode cX2_join 189 = .ok (.iload_n 2, 1) := by decide +kernel
theorem dX2_join_190 : decode cX2_join 190 = .ok (.if_icmp .lt 7, 3) := by decide +kernel
theorem dX2_join_193 : decode cX2_join 193 = .ok (.iconst 1, 1) := by decide +kernel
theorem dX2_join_194 : decode cX2_join 194 = .ok (.goto 4, 3) := by decide +kernel
theorem dX2_join_197 : decode cX2_join 197 = .ok (.iconst 0, 1) := by decide +kernel
theorem dX2_join_198 : decode cX2_join 198 = .ok (.ireturn, 1) := by decide +kernel
theorem dX2_join_199 : decode cX2_join 199 = .ok (.iload_n 1, 1) := by decide +kernel
theorem dX2_join_200 : decode cX2_join 200 = .ok (.iload_n 2, 1) := by decide +kernel
theorem dX2_join_201 : decode cX2_join 201 = .ok (.if_icmp .ne 7, 3) := by decide +kernel
theorem dX2_join_204 : decode cX2_join 204 = .ok (.iconst 1, 1) := by decide +kernel
theorem dX2_join_205 : decode cX2_join 205 = .ok (.goto 4, 3) := by decide +kernel
theorem dX2_join_208 : decode cX2_join 208 = .ok (.iconst 0, 1) := by decide +kernel
theorem dX2_join_209 : decode cX2_join 209 = .ok (.ireturn, 1) := by decide +kernel
theorem dX2_join_210 : decode cX2_join 210 = .ok (.iload_n 1, 1) := by decide +kernel
theorem dX2_join_211 : decode cX2_join 211 = .ok (.iload_n 2, 1) := by decide +kernel
theorem dX2_join_212 : decode cX2_join 212 = .ok (.if_icmp .eq 7, 3) := by decide +kernel
theorem dX2_join_215 : decode cX2_join 215 = .ok (.iconst 1, 1) := by decide +kernel
theorem dX2_join_216 : decode cX2_join 216 = .ok (.goto 4, 3) := by decide +kernel
theorem dX2_join_219 : decode cX2_join 219 = .ok (.iconst 0, 1) := by decide +kernel
theorem dX2_join_220 : decode cX2_join 220 = .ok (.ireturn, 1) := by decide +kernel
theorem dX2_join_221 : decode cX2_join 221 = .ok (.iload_n 1, 1) := by decide +kernel
theorem dX2_join_222 : decode cX2_join 222 = .ok (.iload_n 2, 1) := by decide +kernel
theorem dX2_join_223 : decode cX2_join 223 = .ok (.iand, 1) := by decide +kernel
theorem dX2_join_224 : decode cX2_join 224 = .ok (.ireturn, 1) := by decide +kernel
theorem dX2_join_225 : decode cX2_join 225 = .ok (.iload_n 1, 1) := by decide +kernel
theorem dX2_join_226 : decode cX2_join 226 = .ok (.iload_n 2, 1) := by decide +kernel
theorem dX2_join_227 : decode cX2_join 227 = .ok (.ior, 1) := by decide +kernel
theorem dX2_join_228 : decode cX2_join 228 = .ok (.ireturn, 1) := by decide +kernel
theorem dX2_limited_0 : decode cX2_limited 0 = .ok (.lload_n 0, 1) := by decide +kernel
theorem dX2_limited_1 : decode cX2_limited 1 = .ok (.ldc2_w 94, 3) := by decide +kernel
theorem dX2_limited_4 : decode cX2_limited 4 = .ok (.lcmp, 1) := by decide +kernel
theorem dX2_limited_5 : decode cX2_limited 5 = .ok (.ifCond .le 6, 3) := by decide +kernel
theorem dX2_limited_8 : decode cX2_limited 8 = .ok (.ldc 96, 2) := by decide +kernel
theorem dX2_limited_10 : decode cX2_limited 10 = .ok (.ireturn, 1) := by decide +kernel
theorem dX2_limited_11 : decode cX2_limited 11 = .ok (.lload_n 0, 1) := by decide +kernel
theorem dX2_limited_12 : decode cX2_limited 12 = .ok (.ldc2_w 97, 3) := by decide +kernel
theorem dX2_limited_15 : decode cX2_limited 15 = .ok (.lcmp, 1) := by decide +kernel
theorem dX2_limited_16 : decode cX2_limited 16 = .ok (.ifCond .ge 8, 3) := by decide +kernel
theorem dX2_limited_19 : decode cX2_limited 19 = .ok (.ldc 99, 2) := by decide +kernel
theorem dX2_limited_21 : decode cX2_limited 21 = .ok (.goto 5, 3) := by decide +kernel
theorem dX2_limited_24 : decode cX2_limited 24 = .ok (.lload_n 0, 1) := by decide +kernel
theorem dX2_limited_25 : decode cX2_limited 25 = .ok (.l2i, 1) := by decide +kernel
theorem dX2_limited_26 : decode cX2_limited 26 = .ok (.ireturn, 1) := by decide +kernel
theorem dX3_init_0 : decode cX3_init 0 = .ok (.aload_n 0, 1) := by decide +kernel
theorem dX3_init_1 : decode cX3_init 1 = .ok (.invokespecial 3, 3) := by decide +kernel
theorem dX3_init_4 : decode cX3_init 4 = .ok (.aload_n 0, 1) := by decide +kernel
theorem dX3_init_5 : decode cX3_init 5 = .ok (.sipush 300, 3) := by decide +kernel
theorem dX3_init_8 : decode cX3_init 8 = .ok (.newarray .int, 2) := by decide +kernel
theorem dX3_init_10 : decode cX3_init 10 = .ok (.putfield 9, 3) := by decide +kernel
theorem dX3_init_13 : decode cX3_init 13 = .ok (.aload_n 0, 1) := by decide +kernel
theorem dX3_init_14 : decode cX3_init 14 = .ok (.iconst (-1), 1) := by decide +kernel
theorem dX3_init_15 : decode cX3_init 15 = .ok (.putfield 15, 3) := by decide +kernel
theorem dX3_init_18 : decode cX3_init 18 = .ok (.aload_n 0, 1) := by decide +kernel
theorem dX3_init_19 : decode cX3_init 19 = .ok (.iconst (-1), 1) := by decide +kernel
theorem dX3_init_20 : decode cX3_init 20 = .ok (.putfield 19, 3) := by decide +kernel
theorem dX3_init_23 : decode cX3_init 23 = .ok (.aload_n 0, 1) := by decide +kernel
theorem dX3_init_24 : decode cX3_init 24 = .ok (.sipush 301, 3) := by decide +kernel
theorem dX3_init_27 : decode cX3_init 27 = .ok (.newarray .int, 2) := by decide +kernel
theorem dX3_init_29 : decode cX3_init 29 = .ok (.putfield 22, 3) := by decide +kernel
theorem dX3_init_32 : decode cX3_init 32 = .ok (.aload_n 0, 1) := by decide +kernel
theorem dX3_init_33 : decode cX3_init 33 = .ok (.sipush 301, 3) := by decide +kernel
theorem dX3_init_36 : decode cX3_init 36 = .ok (.newarray .int, 2) := by decide +kernel
theorem dX3_init_38 : decode cX3_init 38 = .ok (.putfield 25, 3) := by decide +kernel
theorem dX3_init_41 : decode cX3_init 41 = .ok (.aload_n 0, 1) := by decide +kernel
theorem dX3_init_42 : decode cX3_init 42 = .ok (.sipush 301, 3) := by decide +kernel
theorem dX3_init_45 : decode cX3_init 45 = .ok (.newarray .int, 2) := by decide +kernel
theorem dX3_init_47 : decode cX3_init 47 = .ok (.putfield 28, 3) := by decide +kernel
theorem dX3_init_50 : decode cX3_init 50 = .ok (.aload_n 0, 1) := by decide +kernel
theorem dX3_init_51 : decode cX3_init 51 = .ok (.bipush 96, 2) := by decide +kernel
theorem dX3_init_53 : decode cX3_init 53 = .ok (.newarray .int, 2) := by decide +kernel
theorem dX3_init_55 : decode cX3_init 55 = .ok (.putfield 31, 3) := by decide +kernel
theorem dX3_init_58 : decode cX3_init 58 = .ok (.aload_n 0, 1) := by decide +kernel
theorem dX3_init_59 : decode cX3_init 59 = .ok (.sipush 300, 3) := by decide +kernel
theorem dX3_init_62 : decode cX3_init 62 = .ok (.newarray .int, 2) := by decide +kernel
theorem dX3_init_64 : decode cX3_init 64 = .ok (.putfield 34, 3) := by decide +kernel
theorem dX3_init_67 : decode cX3_init 67 = .ok (.aload_n 0, 1) := by decide +kernel
theorem dX3_init_68 : decode cX3_init 68 = .ok (.iconst 3, 1) := by decide +kernel
theorem dX3_init_69 : decode cX3_init 69 = .ok (.newarray .int, 2) := by decide +kernel
theorem dX3_init_71 : decode cX3_init 71 = .ok (.putfield 37, 3) := by decide +kernel
theorem dX3_init_74 : decode cX3_init 74 = .ok (.aload_n 0, 1) := by decide +kernel
theorem dX3_init_75 : decode cX3_init 75 = .ok (.iconst 3, 1) := by decide +kernel
theorem dX3_init_76 : decode cX3_init 76 = .ok (.newarray .int, 2) := by decide +kernel
theorem dX3_init_78 : decode cX3_init 78 = .ok (.putfield 40, 3) := by decide +kernel
theorem dX3_init_81 : decode cX3_init 81 = .ok (.aload_n 0, 1) := by decide +kernel
theorem dX3_init_82 : decode cX3_init 82 = .ok (.bipush 20, 2) := by decide +kernel
theorem dX3_init_84 : decode cX3_init 84 = .ok (.newarray .int, 2) := by decide +kernel
theorem dX3_init_86 : decode cX3_init 86 = .ok (.putfield 43, 3) := by decide +kernel
theorem dX3_init_89 : decode cX3_init 89 = .ok (.return_, 1) := by decide +kernel
theorem dX3_put_0 : decode cX3_put 0 = .ok (.bipush 24, 2) := by decide +kernel
theorem dX3_put_2 : decode cX3_put 2 = .ok (.istore_n 2, 1) := by decide +kernel
theorem dX3_put_3 : decode cX3_put 3 = .ok (.iload_n 2, 1) := by decide +kernel
theorem dX3_put_4 : decode cX3_put 4 = .ok (.ifCond .lt 45, 3) := by decide +kernel
theorem dX3_put_7 : decode cX3_put 7 = .ok (.aload_n 0, 1) := by decide +kernel
theorem dX3_put_8 : decode cX3_put 8 = .ok (.getfield 46, 3) := by decide +kernel
theorem dX3_put_11 : decode cX3_put 11 = .ok (.sipush 300, 3) := by decide +kernel
theorem dX3_put_14 : decode cX3_put 14 = .ok (.if_icmp .ge 35, 3) := by decide +kernel
theorem dX3_put_17 : decode cX3_put 17 = .ok (.aload_n 0, 1) := by decide +kernel
theorem dX3_put_18 : decode cX3_put 18 = .ok (.getfield 9, 3) := by decide +kernel
theorem dX3_put_21 : decode cX3_put 21 = .ok (.aload_n 0, 1) := by decide +kernel
theorem dX3_put_22 : decode cX3_put 22 = .ok (.getfield 46, 3) := by decide +kernel
theorem dX3_put_25 : decode cX3_put 25 = .ok (.iload_n 1, 1) := by decide +kernel
theorem dX3_put_26 : decode cX3_put 26 = .ok (.iload_n 2, 1) := by decide +kernel
theorem dX3_put_27 : decode cX3_put 27 = .ok (.ishr, 1) := by decide +kernel
theorem dX3_put_28 : decode cX3_put 28 = .ok (.sipush 255, 3) := by decide +kernel
theorem dX3_put_31 : decode cX3_put 31 = .ok (.iand, 1) := by decide +kernel
theorem dX3_put_32 : decode cX3_put 32 = .ok (.iastore, 1) := by decide +kernel
theorem dX3_put_33 : decode cX3_put 33 = .ok (.aload_n 0, 1) := by decide +kernel
theorem dX3_put_34 : decode cX3_put 34 = .ok (.dup, 1) := by decide +kernel
theorem dX3_put_35 : decode cX3_put 35 = .ok (.getfield 46, 3) := by decide +kernel
theorem dX3_put_38 : decode cX3_put 38 = .ok (.iconst 1, 1) := by decide +kernel
theorem dX3_put_39 : decode cX3_put 39 = .ok (.iadd, 1) := by decide +kernel
theorem dX3_put_40 : decode cX3_put 40 = .ok (.putfield 46, 3) := by decide +kernel
theorem dX3_put_43 : decode cX3_put 43 = .ok (.iinc 2 (-8), 3) := by decide +kernel
theorem dX3_put_46 : decode cX3_put 46 = .ok (.goto (-43), 3) := by decide +kernel
theorem dX3_put_49 : decode cX3_put 49 = .ok (.return_, 1) := by decide +kernel
theorem dX3_read_0 : decode cX3_read 0 = .ok (.aload_n 0, 1) := by decide +kernel
theorem dX3_read_1 : decode cX3_read 1 = .ok (.invokevirtual 49, 3) := by decide +kernel
theorem dX3_read_4 : decode cX3_read 4 = .ok (.aload_n 0, 1) := by decide +kernel
theorem dX3_read_5 : decode cX3_read 5 = .ok (.iconst 0, 1) := by decide +kernel
theorem dX3_read_6 : decode cX3_read 6 = .ok (.putfield 46, 3) := by decide +kernel
theorem dX3_read_9 : decode cX3_read 9 = .ok (.aload_n 0, 1) := by decide +kernel
theorem dX3_read_10 : decode cX3_read 10 = .ok (.iconst 0, 1) := by decide +kernel
theorem dX3_read_11 : decode cX3_read 11 = .ok (.putfield 15, 3) := by decide +kernel
theorem dX3_read_14 : decode cX3_read 14 = .ok (.aload_n 0, 1) := by decide +kernel
theorem dX3_read_15 : decode cX3_read 15 = .ok (.iconst (-1), 1) := by decide +kernel
theorem dX3_read_16 : decode cX3_read 16 = .ok (.putfield 19, 3) := by decide +kernel
theorem dX3_read_19 : decode cX3_read 19 = .ok (.aload_n 0, 1) := by decide +kernel
theorem dX3_read_20 : decode cX3_read 20 = .ok (.iconst 0, 1) := by decide +kernel
theorem dX3_read_21 : decode cX3_read 21 = .ok (.putfield 52, 3) := by decide +kernel
theorem dX3_read_24 : decode cX3_read 24 = .ok (.aload_n 0, 1) := by decide +kernel
theorem dX3_read_25 : decode cX3_read 25 = .ok (.iconst 0, 1) := by decide +kernel
theorem dX3_read_26 : decode cX3_read 26 = .ok (.putfield 55, 3) := by decide +kernel
theorem dX3_read_29 : decode cX3_read 29 = .ok (.aload_n 0, 1) := by decide +kernel
theorem dX3_read_30 : decode cX3_read 30 = .ok (.iconst 0, 1) := by decide +kernel
theorem dX3_read_31 : decode cX3_read 31 = .ok (.putfield 58, 3) := by decide +kernel
theorem dX3_read_34 : decode cX3_read 34 = .ok (.aload_n 0, 1) := by decide +kernel
theorem dX3_read_35 : decode cX3_read 35 = .ok (.getfield 37, 3) := by decide +kernel
theorem dX3_read_38 : decode cX3_read 38 = .ok (.iconst (-1), 1) := by decide +kernel
theorem dX3_read_39 : decode cX3_read 39 = .ok (.invokestatic 61, 3) := by decide +kernel
theorem dX3_read_42 : decode cX3_read 42 = .ok (.aload_n 0, 1) := by decide +kernel
theorem dX3_read_43 : decode cX3_read 43 = .ok (.getfield 43, 3) := by decide +kernel
theorem dX3_read_46 : decode cX3_read 46 = .ok (.iconst 0, 1) := by decide +kernel
theorem dX3_read_47 : decode cX3_read 47 = .ok (.invokestatic 61, 3) := by decide +kernel
theorem dX3_read_50 : decode cX3_read 50 = .ok (.iconst 0, 1) := by decide +kernel
theorem dX3_read_51 : decode cX3_read 51 = .ok (.istore_n 1, 1) := by decide +kernel
theorem dX3_read_52 : decode cX3_read 52 = .ok (.iload_n 1, 1) := by decide +kernel
theorem dX3_read_53 : decode cX3_read 53 = .ok (.bipush 24, 2) := by decide +kernel
theorem dX3_read_55 : decode cX3_read 55 = .ok (.if_icmp .gt 32, 3) := by decide +kernel
theorem dX3_read_58 : decode cX3_read 58 = .ok (.aload_n 0, 1) := by decide +kernel
theorem dX3_read_59 : decode cX3_read 59 = .ok (.getfield 15, 3) := by decide +kernel
theorem dX3_read_62 : decode cX3_read 62 = .ok (.ifCond .ne 25, 3) := by decide +kernel
theorem dX3_read_65 : decode cX3_read 65 = .ok (.aload_n 0, 1) := by decide +kernel
theorem dX3_read_66 : decode cX3_read 66 = .ok (.getfield 22, 3) := by decide +kernel
theorem dX3_read_69 : decode cX3_read 69 = .ok (.aload_n 0, 1) := by decide +kernel
theorem dX3_read_70 : decode cX3_read 70 = .ok (.getfield 52, 3) := by decide +kernel
theorem dX3_read_73 : decode cX3_read 73 = .ok (.iaload, 1) := by decide +kernel
theorem dX3_read_74 : decode cX3_read 74 = .ok (.ifCond .eq 13, 3) := by decide +kernel
theorem dX3_read_77 : decode cX3_read 77 = .ok (.aload_n 0, 1) := by decide +kernel
theorem dX3_read_78 : decode cX3_read 78 = .ok (.invokevirtual 67, 3) := by decide +kernel
theorem dX3_read_81 : decode cX3_read 81 = .ok (.iinc 1 1, 3) := by decide +kernel
theorem dX3_read_84 : decode cX3_read 84 = .ok (.goto (-32), 3) := by decide +kernel
theorem dX3_read_87 : decode cX3_read 87 = .ok (.aload_n 0, 1) := by decide +kernel
theorem dX3_read_88 : decode cX3_read 88 = .ok (.getfield 15, 3) := by decide +kernel
theorem dX3_read_91 : decode cX3_read 91 = .ok (.ifCond .ne 14, 3) := by decide +kernel
theorem dX3_read_94 : decode cX3_read 94 = .ok (.new 70, 3) := by decide +kernel
theorem dX3_read_97 : decode cX3_read 97 = .ok (.dup, 1) := by decide +kernel
theorem dX3_read_98 : decode cX3_read 98 = .ok (.aload_n 0, 1) := by decide +kernel
theorem dX3_read_99 : decode cX3_read 99 = .ok (.invokespecial 72, 3) := by decide +kernel
theorem dX3_read_102 : decode cX3_read 102 = .ok (.goto 4, 3) := by decide +kernel
theorem dX3_read_105 : decode cX3_read 105 = .ok (.aconst_null, 1) := by decide +kernel
theorem dX3_read_106 : decode cX3_read 106 = .ok (.areturn, 1) := by decide +kernel
theorem dX3_split_0 : decode cX3_split 0 = .ok (.aload_n 0, 1) := by decide +kernel
theorem dX3_split_1 : decode cX3_split 1 = .ok (.iconst 0, 1) := by decide +kernel
theorem dX3_split_2 : decode cX3_split 2 = .ok (.putfield 75, 3) := by decide +kernel
theorem dX3_split_5 : decode cX3_split 5 = .ok (.iconst 0, 1) := by decide +kernel
theorem dX3_split_6 : decode cX3_split 6 = .ok (.istore_n 1, 1) := by decide +kernel
theorem dX3_split_7 : decode cX3_split 7 = .ok (.iconst 0, 1) := by decide +kernel
theorem dX3_split_8 : decode cX3_split 8 = .ok (.istore_n 2, 1) := by decide +kernel
theorem dX3_split_9 : decode cX3_split 9 = .ok (.iload_n 2, 1) := by decide +kernel
theorem dX3_split_10 : decode cX3_split 10 = .ok (.sipush 300, 3) := by decide +kernel
theorem dX3_split_13 : decode cX3_split 13 = .ok (.if_icmp .ge 80, 3) := by decide +kernel
theorem dX3_split_16 : decode cX3_split 16 = .ok (.iload_n 1, 1) := by decide +kernel
theorem dX3_split_17 : decode cX3_split 17 = .ok (.aload_n 0, 1) := by decide +kernel
theorem dX3_split_18 : decode cX3_split 18 = .ok (.getfield 46, 3) := by decide +kernel
theorem dX3_split_21 : decode cX3_split 21 = .ok (.if_icmp .ge 72, 3) := by decide +kernel
theorem dX3_split_24 : decode cX3_split 24 = .ok (.aload_n 0, 1) := by decide +kernel
theorem dX3_split_25 : decode cX3_split 25 = .ok (.getfield 9, 3) := by decide +kernel
theorem dX3_split_28 : decode cX3_split 28 = .ok (.iload_n 1, 1) := by decide +kernel
theorem dX3_split_29 : decode cX3_split 29 = .ok (.iaload, 1) := by decide +kernel
theorem dX3_split_30 : decode cX3_split 30 = .ok (.istore_n 3, 1) := by decide +kernel
theorem dX3_split_31 : decode cX3_split 31 = .ok (.iload_n 3, 1) := by decide +kernel
theorem dX3_split_32 : decode cX3_split 32 = .ok (.bipush 32, 2) := by decide +kernel
theorem dX3_split_34 : decode cX3_split 34 = .ok (.if_icmp .eq 9, 3) := by decide +kernel
theorem dX3_split_37 : decode cX3_split 37 = .ok (.iload_n 3, 1) := by decide +kernel
theorem dX3_split_38 : decode cX3_split 38 = .ok (.bipush 10, 2) := by decide +kernel
theorem dX3_split_40 : decode cX3_split 40 = .ok (.if_icmp .ne 9, 3) := by decide +kernel
theorem dX3_split_43 : decode cX3_split 43 = .ok (.iinc 1 1, 3) := by decide +kernel
theorem dX3_split_46 : decode cX3_split 46 = .ok (.goto 41, 3) := by decide +kernel
theorem dX3_split_49 : decode cX3_split 49 = .ok (.iload_n 3, 1) := by decide +kernel
theorem dX3_split_50 : decode cX3_split 50 = .ok (.invokestatic 78, 3) := by decide +kernel
theorem dX3_split_53 : decode cX3_split 53 = .ok (.ifCond .eq 12, 3) := by decide +kernel
theorem dX3_split_56 : decode cX3_split 56 = .ok (.aload_n 0, 1) := by decide +kernel
theorem dX3_split_57 : decode cX3_split 57 = .ok (.iload_n 1, 1) := by decide +kernel
theorem dX3_split_58 : decode cX3_split 58 = .ok (.invokevirtual 82, 3) := by decide +kernel
theorem dX3_split_61 : decode cX3_split 61 = .ok (.istore_n 1, 1) := by decide +kernel
theorem dX3_split_62 : decode cX3_split 62 = .ok (.goto 25, 3) := by decide +kernel
theorem dX3_split_65 : decode cX3_split 65 = .ok (.iload_n 3, 1) := by decide +kernel
theorem dX3_split_66 : decode cX3_split 66 = .ok (.invokestatic 86, 3) := by decide +kernel
theorem dX3_split_69 : decode cX3_split 69 = .ok (.ifCond .eq 12, 3) := by decide +kernel
theorem dX3_split_72 : decode cX3_split 72 = .ok (.aload_n 0, 1) := by decide +kernel
theorem dX3_split_73 : decode cX3_split 73 = .ok (.iload_n 1, 1) := by decide +kernel
theorem dX3_split_74 : decode cX3_split 74 = .ok (.invokevirtual 89, 3) := by decide +kernel
theorem dX3_split_77 : decode cX3_split 77 = .ok (.istore_n 1, 1) := by decide +kernel
theorem dX3_split_78 : decode cX3_split 78 = .ok (.goto 9, 3) := by decide +kernel
theorem dX3_split_81 : decode cX3_split 81 = .ok (.aload_n 0, 1) := by decide +kernel
theorem dX3_split_82 : decode cX3_split 82 = .ok (.iload_n 1, 1) := by decide +kernel
theorem dX3_split_83 : decode cX3_split 83 = .ok (.invokevirtual 92, 3) := by decide +kernel
theorem dX3_split_86 : decode cX3_split 86 = .ok (.istore_n 1, 1) := by decide +kernel
theorem dX3_split_87 : decode cX3_split 87 = .ok (.iinc 2 1, 3) := by decide +kernel
theorem dX3_split_90 : decode cX3_split 90 = .ok (.goto (-81), 3) := by decide +kernel
theorem dX3_split_93 : decode cX3_split 93 = .ok (.aload_n 0, 1) := by decide +kernel
theorem dX3_split_94 : decode cX3_split 94 = .ok (.iconst 0, 1) := by decide +kernel
theorem dX3_split_95 : decode cX3_split 95 = .ok (.aload_n 0, 1) := by decide +kernel
theorem dX3_split_96 : decode cX3_split 96 = .ok (.getfield 46, 3) := by decide +kernel
theorem dX3_split_99 : decode cX3_split 99 = .ok (.iconst 0, 1) := by decide +kernel
theorem dX3_split_100 : decode cX3_split 100 = .ok (.invokevirtual 95, 3) := by decide +kernel
theorem dX3_split_103 : decode cX3_split 103 = .ok (.return_, 1) := by decide +kernel
theorem dX3_isLetter_0 : decode cX3_isLetter 0 = .ok (.iload_n 0, 1) := by decide +kernel
theorem dX3_isLetter_1 : decode cX3_isLetter 1 = .ok (.bipush 97, 2) := by decide +kernel
theorem dX3_isLetter_3 : decode cX3_isLetter 3 = .ok (.if_icmp .lt 9, 3) := by decide +kernel
theorem dX3_isLetter_6 : decode cX3_isLetter 6 = .ok (.iload_n 0, 1) := by decide +kernel
theorem dX3_isLetter_7 : decode cX3_isLetter 7 = .ok (.bipush 122, 2) := by decide +kernel
theorem dX3_isLetter_9 : decode cX3_isLetter 9 = .ok (.if_icmp .le 15, 3) := by decide +kernel
theorem dX3_isLetter_12 : decode cX3_isLetter 12 = .ok (.iload_n 0, 1) := by decide +kernel
theorem dX3_isLetter_13 : decode cX3_isLetter 13 = .ok (.bipush 65, 2) := by decide +kernel
theorem dX3_isLetter_15 : decode cX3_isLetter 15 = .ok (.if_icmp .lt 13, 3) := by decide +kernel
theorem dX3_isLetter_18 : decode cX3_isLetter 18 = .ok (.iload_n 0, 1) := by decide +kernel
theorem dX3_isLetter_19 : decode cX3_isLetter 19 = .ok (.bipush 90, 2) := by decide +kernel
theorem dX3_isLetter_21 : decode cX3_isLetter 21 = .ok (.if_icmp .gt 7, 3) := by decide +kernel
theorem dX3_isLetter_24 : decode cX3_isLetter 24 = .ok (.iconst 1, 1) := by decide +kernel
theorem dX3_isLetter_25 : decode cX3_isLetter 25 = .ok (.goto 4, 3) := by decide +kernel
theorem dX3_isLetter_28 : decode cX3_isLetter 28 = .ok (.iconst 0, 1) := by decide +kernel
theorem dX3_isLetter_29 : decode cX3_isLetter 29 = .ok (.ireturn, 1) := by decide +kernel
theorem dX3_isDigit_0 : decode cX3_isDigit 0 = .ok (.iload_n 0, 1) := by decide +kernel
theorem dX3_isDigit_1 : decode cX3_isDigit 1 = .ok (.bipush 48, 2) := by decide +kernel
theorem dX3_isDigit_3 : decode cX3_isDigit 3 = .ok (.if_icmp .lt 13, 3) := by decide +kernel
theorem dX3_isDigit_6 : decode cX3_isDigit 6 = .ok (.iload_n 0, 1) := by decide +kernel
theorem dX3_isDigit_7 : decode cX3_isDigit 7 = .ok (.bipush 57, 2) := by decide +kernel
theorem dX3_isDigit_9 : decode cX3_isDigit 9 = .ok (.if_icmp .gt 7, 3) := by decide +kernel
theorem dX3_isDigit_12 : decode cX3_isDigit 12 = .ok (.iconst 1, 1) := by decide +kernel
theorem dX3_isDigit_13 : decode cX3_isDigit 13 = .ok (.goto 4, 3) := by decide +kernel
theorem dX3_isDigit_16 : decode cX3_isDigit 16 = .ok (.iconst 0, 1) := by decide +kernel
theorem dX3_isDigit_17 : decode cX3_isDigit 17 = .ok (.ireturn, 1) := by decide +kernel
theorem dX3_addToken_0 : decode cX3_addToken 0 = .ok (.aload_n 0, 1) := by decide +kernel
theorem dX3_addToken_1 : decode cX3_addToken 1 = .ok (.getfield 75, 3) := by decide +kernel
theorem dX3_addToken_4 : decode cX3_addToken 4 = .ok (.aload_n 0, 1) := by decide +kernel
theorem dX3_addToken_5 : decode cX3_addToken 5 = .ok (.getfield 22, 3) := by decide +kernel
theorem dX3_addToken_8 : decode cX3_addToken 8 = .ok (.arraylength, 1) := by decide +kernel
theorem dX3_addToken_9 : decode cX3_addToken 9 = .ok (.if_icmp .ge 43, 3) := by decide +kernel
theorem dX3_addToken_12 : decode cX3_addToken 12 = .ok (.aload_n 0, 1) := by decide +kernel
theorem dX3_addToken_13 : decode cX3_addToken 13 = .ok (.getfield 22, 3) := by decide +kernel
theorem dX3_addToken_16 : decode cX3_addToken 16 = .ok (.aload_n 0, 1) := by decide +kernel
theorem dX3_addToken_17 : decode cX3_addToken 17 = .ok (.getfield 75, 3) := by decide +kernel
theorem dX3_addToken_20 : decode cX3_addToken 20 = .ok (.iload_n 1, 1) := by decide +kernel
theorem dX3_addToken_21 : decode cX3_addToken 21 = .ok (.iastore, 1) := by decide +kernel
theorem dX3_addToken_22 : decode cX3_addToken 22 = .ok (.aload_n 0, 1) := by decide +kernel
theorem dX3_addToken_23 : decode cX3_addToken 23 = .ok (.getfield 25, 3) := by decide +kernel
theorem dX3_addToken_26 : decode cX3_addToken 26 = .ok (.aload_n 0, 1) := by decide +kernel
theorem dX3_addToken_27 : decode cX3_addToken 27 = .ok (.getfield 75, 3) := by decide +kernel
theorem dX3_addToken_30 : decode cX3_addToken 30 = .ok (.iload_n 2, 1) := by decide +kernel
theorem dX3_addToken_31 : decode cX3_addToken 31 = .ok (.iastore, 1) := by decide +kernel
theorem dX3_addToken_32 : decode cX3_addToken 32 = .ok (.aload_n 0, 1) := by decide +kernel
theorem dX3_addToken_33 : decode cX3_addToken 33 = .ok (.getfield 28, 3) := by decide +kernel
theorem dX3_addToken_36 : decode cX3_addToken 36 = .ok (.aload_n 0, 1) := by decide +kernel
theorem dX3_addToken_37 : decode cX3_addToken 37 = .ok (.getfield 75, 3) := by decide +kernel
theorem dX3_addToken_40 : decode cX3_addToken 40 = .ok (.iload_n 3, 1) := by decide +kernel
theorem dX3_addToken_41 : decode cX3_addToken 41 = .ok (.iastore, 1) := by decide +kernel
theorem dX3_addToken_42 : decode cX3_addToken 42 = .ok (.aload_n 0, 1) := by decide +kernel
theorem dX3_addToken_43 : decode cX3_addToken 43 = .ok (.dup, 1) := by decide +kernel
theorem dX3_addToken_44 : decode cX3_addToken 44 = .ok (.getfield 75, 3) := by decide +kernel
theorem dX3_addToken_47 : decode cX3_addToken 47 = .ok (.iconst 1, 1) := by decide +kernel
theorem dX3_addToken_48 : decode cX3_addToken 48 = .ok (.iadd, 1) := by decide +kernel
theorem dX3_addToken_49 : decode cX3_addToken 49 = .ok (.putfield 75, 3) := by decide +kernel
theorem dX3_addToken_52 : decode cX3_addToken 52 = .ok (.return_, 1) := by decide +kernel
theorem dX3_splitWord_0 : decode cX3_splitWord 0 = .ok (.iload_n 1, 1) := by decide +kernel
theorem dX3_splitWord_1 : decode cX3_splitWord 1 = .ok (.iconst 1, 1) := by decide +kernel
theorem dX3_splitWord_2 : decode cX3_splitWord 2 = .ok (.iadd, 1) := by decide +kernel
theorem dX3_splitWord_3 : decode cX3_splitWord 3 = .ok (.istore_n 2, 1) := by decide +kernel
theorem dX3_splitWord_4 : decode cX3_splitWord 4 = .ok (.iload_n 2, 1) := by decide +kernel
theorem dX3_splitWord_5 : decode cX3_splitWord 5 = .ok (.aload_n 0, 1) := by decide +kernel
theorem dX3_splitWord_6 : decode cX3_splitWord 6 = .ok (.getfield 46, 3) := by decide +kernel
theorem dX3_splitWord_9 : decode cX3_splitWord 9 = .ok (.if_icmp .ge 21, 3) := by decide +kernel
theorem dX3_splitWord_12 : decode cX3_splitWord 12 = .ok (.aload_n 0, 1) := by decide +kernel
theorem dX3_splitWord_13 : decode cX3_splitWord 13 = .ok (.getfield 9, 3) := by decide +kernel
theorem dX3_splitWord_16 : decode cX3_splitWord 16 = .ok (.iload_n 2, 1) := by decide +kernel
theorem dX3_splitWord_17 : decode cX3_splitWord 17 = .ok (.iaload, 1) := by decide +kernel
theorem dX3_splitWord_18 : decode cX3_splitWord 18 = .ok (.invokestatic 78, 3) := by decide +kernel
theorem dX3_splitWord_21 : decode cX3_splitWord 21 = .ok (.ifCond .eq 9, 3) := by decide +kernel
theorem dX3_splitWord_24 : decode cX3_splitWord 24 = .ok (.iinc 2 1, 3) := by decide +kernel
theorem dX3_splitWord_27 : decode cX3_splitWord 27 = .ok (.goto (-23), 3) := by decide +kernel
theorem dX3_splitWord_30 : decode cX3_splitWord 30 = .ok (.aload_n 0, 1) := by decide +kernel
theorem dX3_splitWord_31 : decode cX3_splitWord 31 = .ok (.aload_n 0, 1) := by decide +kernel
theorem dX3_splitWord_32 : decode cX3_splitWord 32 = .ok (.iload_n 1, 1) := by decide +kernel
theorem dX3_splitWord_33 : decode cX3_splitWord 33 = .ok (.iload_n 2, 1) := by decide +kernel
theorem dX3_splitWord_34 : decode cX3_splitWord 34 = .ok (.invokevirtual 99, 3) := by decide +kernel
theorem dX3_splitWord_37 : decode cX3_splitWord 37 = .ok (.iload_n 1, 1) := by decide +kernel
theorem dX3_splitWord_38 : decode cX3_splitWord 38 = .ok (.iconst 0, 1) := by decide +kernel
theorem dX3_splitWord_39 : decode cX3_splitWord 39 = .ok (.invokevirtual 95, 3) := by decide +kernel
theorem dX3_splitWord_42 : decode cX3_splitWord 42 = .ok (.iload_n 2, 1) := by decide +kernel
theorem dX3_splitWord_43 : decode cX3_splitWord 43 = .ok (.ireturn, 1) := by decide +kernel
theorem dX3_splitNumber_0 : decode cX3_splitNumber 0 = .ok (.iload_n 1, 1) := by decide +kernel
theorem dX3_splitNumber_1 : decode cX3_splitNumber 1 = .ok (.istore_n 2, 1) := by decide +kernel
theorem dX3_splitNumber_2 : decode cX3_splitNumber 2 = .ok (.iconst 0, 1) := by decide +kernel
theorem dX3_splitNumber_3 : decode cX3_splitNumber 3 = .ok (.istore_n 3, 1) := by decide +kernel
theorem dX3_splitNumber_4 : decode cX3_splitNumber 4 = .ok (.iload_n 2, 1) := by decide +kernel
theorem dX3_splitNumber_5 : decode cX3_splitNumber 5 = .ok (.aload_n 0, 1) := by decide +kernel
theorem dX3_splitNumber_6 : decode cX3_splitNumber 6 = .ok (.getfield 46, 3) := by decide +kernel
theorem dX3_splitNumber_9 : decode cX3_splitNumber 9 = .ok (.if_icmp .ge 42, 3) := by decide +kernel
theorem dX3_splitNumber_12 : decode cX3_splitNumber 12 = .ok (.aload_n 0, 1) := by decide +kernel
theorem dX3_splitNumber_13 : decode cX3_splitNumber 13 = .ok (.getfield 9, 3) := by decide +kernel
theorem dX3_splitNumber_16 : decode cX3_splitNumber 16 = .ok (.iload_n 2, 1) := by decide +kernel
theorem dX3_splitNumber_17 : decode cX3_splitNumber 17 = .ok (.iaload, 1) := by decide +kernel
theorem dX3_splitNumber_18 : decode cX3_splitNumber 18 = .ok (.invokestatic 86, 3) := by decide +kernel
theorem dX3_splitNumber_21 : decode cX3_splitNumber 21 = .ok (.ifCond .eq 30, 3) := by decide +kernel
theorem dX3_splitNumber_24 : decode cX3_splitNumber 24 = .ok (.iload_n 3, 1) := by decide +kernel
theorem dX3_splitNumber_25 : decode cX3_splitNumber 25 = .ok (.bipush 10, 2) := by decide +kernel
theorem dX3_splitNumber_27 : decode cX3_splitNumber 27 = .ok (.imul, 1) := by decide +kernel
theorem dX3_splitNumber_28 : decode cX3_splitNumber 28 = .ok (.aload_n 0, 1) := by decide +kernel
theorem dX3_splitNumber_29 : decode cX3_splitNumber 29 = .ok (.getfield 9, 3) := by decide +kernel
theorem dX3_splitNumber_32 : decode cX3_splitNumber 32 = .ok (.iload_n 2, 1) := by decide +kernel
theorem dX3_splitNumber_33 : decode cX3_splitNumber 33 = .ok (.iaload, 1) := by decide +kernel
theorem dX3_splitNumber_34 : decode cX3_splitNumber 34 = .ok (.iadd, 1) := by decide +kernel
theorem dX3_splitNumber_35 : decode cX3_splitNumber 35 = .ok (.bipush 48, 2) := by decide +kernel
theorem dX3_splitNumber_37 : decode cX3_splitNumber 37 = .ok (.isub, 1) := by decide +kernel
theorem dX3_splitNumber_38 : decode cX3_splitNumber 38 = .ok (.sipush 10000, 3) := by decide +kernel
theorem dX3_splitNumber_41 : decode cX3_splitNumber 41 = .ok (.invokestatic 103, 3) := by decide +kernel
theorem dX3_splitNumber_44 : decode cX3_splitNumber 44 = .ok (.istore_n 3, 1) := by decide +kernel
theorem dX3_splitNumber_45 : decode cX3_splitNumber 45 = .ok (.iinc 2 1, 3) := by decide +kernel
theorem dX3_splitNumber_48 : decode cX3_splitNumber 48 = .ok (.goto (-44), 3) := by decide +kernel
theorem dX3_splitNumber_51 : decode cX3_splitNumber 51 = .ok (.aload_n 0, 1) := by decide +kernel
theorem dX3_splitNumber_52 : decode cX3_splitNumber 52 = .ok (.iconst 2, 1) := by decide +kernel
theorem dX3_splitNumber_53 : decode cX3_splitNumber 53 = .ok (.iload_n 1, 1) := by decide +kernel
theorem dX3_splitNumber_54 : decode cX3_splitNumber 54 = .ok (.iload_n 3, 1) := by decide +kernel
theorem dX3_splitNumber_55 : decode cX3_splitNumber 55 = .ok (.invokevirtual 95, 3) := by decide +kernel
theorem dX3_splitNumber_58 : decode cX3_splitNumber 58 = .ok (.iload_n 2, 1) := by decide +kernel
theorem dX3_splitNumber_59 : decode cX3_splitNumber 59 = .ok (.ireturn, 1) := by decide +kernel
theorem dX3_splitSign_0 : decode cX3_splitSign 0 = .ok (.ldc 108, 2) := by decide +kernel
theorem dX3_splitSign_2 : decode cX3_splitSign 2 = .ok (.aload_n 0, 1) := by decide +kernel
theorem dX3_splitSign_3 : decode cX3_splitSign 3 = .ok (.getfield 9, 3) := by decide +kernel
theorem dX3_splitSign_6 : decode cX3_splitSign 6 = .ok (.iload_n 1, 1) := by decide +kernel
theorem dX3_splitSign_7 : decode cX3_splitSign 7 = .ok (.iaload, 1) := by decide +kernel
theorem dX3_splitSign_8 : decode cX3_splitSign 8 = .ok (.i2c, 1) := by decide +kernel
theorem dX3_splitSign_9 : decode cX3_splitSign 9 = .ok (.invokevirtual 110, 3) := by decide +kernel
theorem dX3_splitSign_12 : decode cX3_splitSign 12 = .ok (.istore_n 2, 1) := by decide +kernel
theorem dX3_splitSign_13 : decode cX3_splitSign 13 = .ok (.iload_n 2, 1) := by decide +kernel
theorem dX3_splitSign_14 : decode cX3_splitSign 14 = .ok (.ifCond .ge 7, 3) := by decide +kernel
theorem dX3_splitSign_17 : decode cX3_splitSign 17 = .ok (.iconst 1, 1) := by decide +kernel
theorem dX3_splitSign_18 : decode cX3_splitSign 18 = .ok (.goto 6, 3) := by decide +kernel
theorem dX3_splitSign_21 : decode cX3_splitSign 21 = .ok (.iconst 3, 1) := by decide +kernel
theorem dX3_splitSign_22 : decode cX3_splitSign 22 = .ok (.iload_n 2, 1) := by decide +kernel
theorem dX3_splitSign_23 : decode cX3_splitSign 23 = .ok (.iadd, 1) := by decide +kernel
theorem dX3_splitSign_24 : decode cX3_splitSign 24 = .ok (.istore_n 3, 1) := by decide +kernel
theorem dX3_splitSign_25 : decode cX3_splitSign 25 = .ok (.iload_n 1, 1) := by decide +kernel
theorem dX3_splitSign_26 : decode cX3_splitSign 26 = .ok (.iconst 1, 1) := by decide +kernel
theorem dX3_splitSign_27 : decode cX3_splitSign 27 = .ok (.iadd, 1) := by decide +kernel
theorem dX3_splitSign_28 : decode cX3_splitSign 28 = .ok (.istore 4, 2) := by decide +kernel
theorem dX3_splitSign_30 : decode cX3_splitSign 30 = .ok (.iload_n 3, 1) := by decide +kernel
theorem dX3_splitSign_31 : decode cX3_splitSign 31 = .ok (.bipush 10, 2) := by decide +kernel
theorem dX3_splitSign_33 : decode cX3_splitSign 33 = .ok (.if_icmp .eq 9, 3) := by decide +kernel
theorem dX3_splitSign_36 : decode cX3_splitSign 36 = .ok (.iload_n 3, 1) := by decide +kernel
theorem dX3_splitSign_37 : decode cX3_splitSign 37 = .ok (.bipush 11, 2) := by decide +kernel
theorem dX3_splitSign_39 : decode cX3_splitSign 39 = .ok (.if_icmp .ne 30, 3) := by decide +kernel
theorem dX3_splitSign_42 : decode cX3_splitSign 42 = .ok (.iload 4, 2) := by decide +kernel
theorem dX3_splitSign_44 : decode cX3_splitSign 44 = .ok (.aload_n 0, 1) := by decide +kernel
theorem dX3_splitSign_45 : decode cX3_splitSign 45 = .ok (.getfield 46, 3) := by decide +kernel
theorem dX3_splitSign_48 : decode cX3_splitSign 48 = .ok (.if_icmp .ge 21, 3) := by decide +kernel
theorem dX3_splitSign_51 : decode cX3_splitSign 51 = .ok (.aload_n 0, 1) := by decide +kernel
theorem dX3_splitSign_52 : decode cX3_splitSign 52 = .ok (.getfield 9, 3) := by decide +kernel
theorem dX3_splitSign_55 : decode cX3_splitSign 55 = .ok (.iload 4, 2) := by decide +kernel
theorem dX3_splitSign_57 : decode cX3_splitSign 57 = .ok (.iaload, 1) := by decide +kernel
theorem dX3_splitSign_58 : decode cX3_splitSign 58 = .ok (.bipush 61, 2) := by decide +kernel
theorem dX3_splitSign_60 : decode cX3_splitSign 60 = .ok (.if_icmp .ne 9, 3) := by decide +kernel
theorem dX3_splitSign_63 : decode cX3_splitSign 63 = .ok (.iinc 3 4, 3) := by decide +kernel
theorem dX3_splitSign_66 : decode cX3_splitSign 66 = .ok (.iinc 4 1, 3) := by decide +kernel
theorem dX3_splitSign_69 : decode cX3_splitSign 69 = .ok (.aload_n 0, 1) := by decide +kernel
theorem dX3_splitSign_70 : decode cX3_splitSign 70 = .ok (.iload_n 3, 1) := by decide +kernel
theorem dX3_splitSign_71 : decode cX3_splitSign 71 = .ok (.iload_n 1, 1) := by decide +kernel
theorem dX3_splitSign_72 : decode cX3_splitSign 72 = .ok (.iconst 0, 1) := by decide +kernel
theorem dX3_splitSign_73 : decode cX3_splitSign 73 = .ok (.invokevirtual 95, 3) := by decide +kernel
theorem dX3_splitSign_76 : decode cX3_splitSign 76 = .ok (.iload 4, 2) := by decide +kernel
theorem dX3_splitSign_78 : decode cX3_splitSign 78 = .ok (.ireturn, 1) := by decide +kernel
theorem dX3_wordOf_0 : decode cX3_wordOf 0 = .ok (.bipush 16, 2) := by decide +kernel
theorem dX3_wordOf_2 : decode cX3_wordOf 2 = .ok (.istore_n 3, 1) := by decide +kernel
theorem dX3_wordOf_3 : decode cX3_wordOf 3 = .ok (.iload_n 1, 1) := by decide +kernel
theorem dX3_wordOf_4 : decode cX3_wordOf 4 = .ok (.istore 4, 2) := by decide +kernel
theorem dX3_wordOf_6 : decode cX3_wordOf 6 = .ok (.iconst 1, 1) := by decide +kernel
theorem dX3_wordOf_7 : decode cX3_wordOf 7 = .ok (.istore 5, 2) := by decide +kernel
theorem dX3_wordOf_9 : decode cX3_wordOf 9 = .ok (.iconst 0, 1) := by decide +kernel
theorem dX3_wordOf_10 : decode cX3_wordOf 10 = .ok (.istore 6, 2) := by decide +kernel
theorem dX3_wordOf_12 : decode cX3_wordOf 12 = .ok (.iload 6, 2) := by decide +kernel
theorem dX3_wordOf_14 : decode cX3_wordOf 14 = .ok (.ldc 115, 2) := by decide +kernel
theorem dX3_wordOf_16 : decode cX3_wordOf 16 = .ok (.invokevirtual 117, 3) := by decide +kernel
theorem dX3_wordOf_19 : decode cX3_wordOf 19 = .ok (.if_icmp .ge 83, 3) := by decide +kernel
theorem dX3_wordOf_22 : decode cX3_wordOf 22 = .ok (.ldc 115, 2) := by decide +kernel
theorem dX3_wordOf_24 : decode cX3_wordOf 24 = .ok (.iload 6, 2) := by decide +kernel
theorem dX3_wordOf_26 : decode cX3_wordOf 26 = .ok (.invokevirtual 121, 3) := by decide +kernel
theorem dX3_wordOf_29 : decode cX3_wordOf 29 = .ok (.istore 7, 2) := by decide +kernel
theorem dX3_wordOf_31 : decode cX3_wordOf 31 = .ok (.iload 7, 2) := by decide +kernel
theorem dX3_wordOf_33 : decode cX3_wordOf 33 = .ok (.bipush 32, 2) := by decide +kernel
theorem dX3_wordOf_35 : decode cX3_wordOf 35 = .ok (.if_icmp .ne 28, 3) := by decide +kernel
theorem dX3_wordOf_38 : decode cX3_wordOf 38 = .ok (.iload 5, 2) := by decide +kernel
theorem dX3_wordOf_40 : decode cX3_wordOf 40 = .ok (.ifCond .eq 11, 3) := by decide +kernel
theorem dX3_wordOf_43 : decode cX3_wordOf 43 = .ok (.iload 4, 2) := by decide +kernel
theorem dX3_wordOf_45 : decode cX3_wordOf 45 = .ok (.iload_n 2, 1) := by decide +kernel
theorem dX3_wordOf_46 : decode cX3_wordOf 46 = .ok (.if_icmp .ne 5, 3) := by decide +kernel
theorem dX3_wordOf_49 : decode cX3_wordOf 49 = .ok (.iload_n 3, 1) := by decide +kernel
theorem dX3_wordOf_50 : decode cX3_wordOf 50 = .ok (.ireturn, 1) := by decide +kernel
theorem dX3_wordOf_51 : decode cX3_wordOf 51 = .ok (.iinc 3 1, 3) := by decide +kernel
theorem dX3_wordOf_54 : decode cX3_wordOf 54 = .ok (.iload_n 1, 1) := by decide +kernel
theorem dX3_wordOf_55 : decode cX3_wordOf 55 = .ok (.istore 4, 2) := by decide +kernel
theorem dX3_wordOf_57 : decode cX3_wordOf 57 = .ok (.iconst 1, 1) := by decide +kernel
theorem dX3_wordOf_58 : decode cX3_wordOf 58 = .ok (.istore 5, 2) := by decide +kernel
theorem dX3_wordOf_60 : decode cX3_wordOf 60 = .ok (.goto 36, 3) := by decide +kernel
theorem dX3_wordOf_63 : decode cX3_wordOf 63 = .ok (.iload 5, 2) := by decide +kernel
theorem dX3_wordOf_65 : decode cX3_wordOf 65 = .ok (.ifCond .eq 31, 3) := by decide +kernel
theorem dX3_wordOf_68 : decode cX3_wordOf 68 = .ok (.iload 4, 2) := by decide +kernel
theorem dX3_wordOf_70 : decode cX3_wordOf 70 = .ok (.iload_n 2, 1) := by decide +kernel
theorem dX3_wordOf_71 : decode cX3_wordOf 71 = .ok (.if_icmp .ge 19, 3) := by decide +kernel
theorem dX3_wordOf_74 : decode cX3_wordOf 74 = .ok (.aload_n 0, 1) := by decide +kernel
theorem dX3_wordOf_75 : decode cX3_wordOf 75 = .ok (.getfield 9, 3) := by decide +kernel
theorem dX3_wordOf_78 : decode cX3_wordOf 78 = .ok (.iload 4, 2) := by decide +kernel
theorem dX3_wordOf_80 : decode cX3_wordOf 80 = .ok (.iaload, 1) := by decide +kernel
theorem dX3_wordOf_81 : decode cX3_wordOf 81 = .ok (.iload 7, 2) := by decide +kernel
theorem dX3_wordOf_83 : decode cX3_wordOf 83 = .ok (.if_icmp .ne 7, 3) := by decide +kernel
theorem dX3_wordOf_86 : decode cX3_wordOf 86 = .ok (.iconst 1, 1) := by decide +kernel
theorem dX3_wordOf_87 : decode cX3_wordOf 87 = .ok (.goto 4, 3) := by decide +kernel
theorem dX3_wordOf_90 : decode cX3_wordOf 90 = .ok (.iconst 0, 1) := by decide +kernel
theorem dX3_wordOf_91 : decode cX3_wordOf 91 = .ok (.istore 5, 2) := by decide +kernel
theorem dX3_wordOf_93 : decode cX3_wordOf 93 = .ok (.iinc 4 1, 3) := by decide +kernel
theorem dX3_wordOf_96 : decode cX3_wordOf 96 = .ok (.iinc 6 1, 3) := by decide +kernel
theorem dX3_wordOf_99 : decode cX3_wordOf 99 = .ok (.goto (-87), 3) := by decide +kernel
theorem dX3_wordOf_102 : decode cX3_wordOf 102 = .ok (.iconst 1, 1) := by decide +kernel
theorem dX3_wordOf_103 : decode cX3_wordOf 103 = .ok (.ireturn, 1) := by decide +kernel
theorem dX3_take_0 : decode cX3_take 0 = .ok (.aload_n 0, 1) := by decide +kernel
theorem dX3_take_1 : decode cX3_take 1 = .ok (.getfield 15, 3) := by decide +kernel
theorem dX3_take_4 : decode cX3_take 4 = .ok (.ifCond .eq 5, 3) := by decide +kernel
theorem dX3_take_7 : decode cX3_take 7 = .ok (.iconst 0, 1) := by decide +kernel
theorem dX3_take_8 : decode cX3_take 8 = .ok (.ireturn, 1) := by decide +kernel
theorem dX3_take_9 : decode cX3_take 9 = .ok (.iload_n 1, 1) := by decide +kernel
theorem dX3_take_10 : decode cX3_take 10 = .ok (.ifCond .ne 23, 3) := by decide +kernel
theorem dX3_take_13 : decode cX3_take 13 = .ok (.aload_n 0, 1) := by decide +kernel
theorem dX3_take_14 : decode cX3_take 14 = .ok (.iload_n 2, 1) := by decide +kernel
theorem dX3_take_15 : decode cX3_take 15 = .ok (.putfield 15, 3) := by decide +kernel
theorem dX3_take_18 : decode cX3_take 18 = .ok (.aload_n 0, 1) := by decide +kernel
theorem dX3_take_19 : decode cX3_take 19 = .ok (.aload_n 0, 1) := by decide +kernel
theorem dX3_take_20 : decode cX3_take 20 = .ok (.getfield 25, 3) := by decide +kernel
theorem dX3_take_23 : decode cX3_take 23 = .ok (.aload_n 0, 1) := by decide +kernel
theorem dX3_take_24 : decode cX3_take 24 = .ok (.getfield 52, 3) := by decide +kernel
theorem dX3_take_27 : decode cX3_take 27 = .ok (.iaload, 1) := by decide +kernel
theorem dX3_take_28 : decode cX3_take 28 = .ok (.putfield 19, 3) := by decide +kernel
theorem dX3_take_31 : decode cX3_take 31 = .ok (.iconst 0, 1) := by decide +kernel
theorem dX3_take_32 : decode cX3_take 32 = .ok (.ireturn, 1) := by decide +kernel
theorem dX3_take_33 : decode cX3_take 33 = .ok (.aload_n 0, 1) := by decide +kernel
theorem dX3_take_34 : decode cX3_take 34 = .ok (.getfield 52, 3) := by decide +kernel
theorem dX3_take_37 : decode cX3_take 37 = .ok (.iconst 1, 1) := by decide +kernel
theorem dX3_take_38 : decode cX3_take 38 = .ok (.iadd, 1) := by decide +kernel
theorem dX3_take_39 : decode cX3_take 39 = .ok (.aload_n 0, 1) := by decide +kernel
theorem dX3_take_40 : decode cX3_take 40 = .ok (.getfield 75, 3) := by decide +kernel
theorem dX3_take_43 : decode cX3_take 43 = .ok (.if_icmp .ge 13, 3) := by decide +kernel
theorem dX3_take_46 : decode cX3_take 46 = .ok (.aload_n 0, 1) := by decide +kernel
theorem dX3_take_47 : decode cX3_take 47 = .ok (.dup, 1) := by decide +kernel
theorem dX3_take_48 : decode cX3_take 48 = .ok (.getfield 52, 3) := by decide +kernel
theorem dX3_take_51 : decode cX3_take 51 = .ok (.iconst 1, 1) := by decide +kernel
theorem dX3_take_52 : decode cX3_take 52 = .ok (.iadd, 1) := by decide +kernel
theorem dX3_take_53 : decode cX3_take 53 = .ok (.putfield 52, 3) := by decide +kernel
theorem dX3_take_56 : decode cX3_take 56 = .ok (.iconst 1, 1) := by decide +kernel
theorem dX3_take_57 : decode cX3_take 57 = .ok (.ireturn, 1) := by decide +kernel
theorem dX3_emit_0 : decode cX3_emit 0 = .ok (.aload_n 0, 1) := by decide +kernel
theorem dX3_emit_1 : decode cX3_emit 1 = .ok (.getfield 58, 3) := by decide +kernel
theorem dX3_emit_4 : decode cX3_emit 4 = .ok (.aload_n 0, 1) := by decide +kernel
theorem dX3_emit_5 : decode cX3_emit 5 = .ok (.getfield 34, 3) := by decide +kernel
theorem dX3_emit_8 : decode cX3_emit 8 = .ok (.arraylength, 1) := by decide +kernel
theorem dX3_emit_9 : decode cX3_emit 9 = .ok (.if_icmp .ge 23, 3) := by decide +kernel
theorem dX3_emit_12 : decode cX3_emit 12 = .ok (.aload_n 0, 1) := by decide +kernel
theorem dX3_emit_13 : decode cX3_emit 13 = .ok (.getfield 34, 3) := by decide +kernel
theorem dX3_emit_16 : decode cX3_emit 16 = .ok (.aload_n 0, 1) := by decide +kernel
theorem dX3_emit_17 : decode cX3_emit 17 = .ok (.getfield 58, 3) := by decide +kernel
theorem dX3_emit_20 : decode cX3_emit 20 = .ok (.iload_n 1, 1) := by decide +kernel
theorem dX3_emit_21 : decode cX3_emit 21 = .ok (.iastore, 1) := by decide +kernel
theorem dX3_emit_22 : decode cX3_emit 22 = .ok (.aload_n 0, 1) := by decide +kernel
theorem dX3_emit_23 : decode cX3_emit 23 = .ok (.dup, 1) := by decide +kernel
theorem dX3_emit_24 : decode cX3_emit 24 = .ok (.getfield 58, 3) := by decide +kernel
theorem dX3_emit_27 : decode cX3_emit 27 = .ok (.iconst 1, 1) := by decide +kernel
theorem dX3_emit_28 : decode cX3_emit 28 = .ok (.iadd, 1) := by decide +kernel
theorem dX3_emit_29 : decode cX3_emit 29 = .ok (.putfield 58, 3) := by decide +kernel
theorem dX3_emit_32 : decode cX3_emit 32 = .ok (.return_, 1) := by decide +kernel
theorem dX3_readClause_0 : decode cX3_readClause 0 = .ok (.aload_n 0, 1) := by decide +kernel
theorem dX3_readClause_1 : decode cX3_readClause 1 = .ok (.getfield 22, 3) := by decide +kernel
theorem dX3_readClause_4 : decode cX3_readClause 4 = .ok (.aload_n 0, 1) := by decide +kernel
theorem dX3_readClause_5 : decode cX3_readClause 5 = .ok (.getfield 52, 3) := by decide +kernel
theorem dX3_readClause_8 : decode cX3_readClause 8 = .ok (.iaload, 1) := by decide +kernel
theorem dX3_readClause_9 : decode cX3_readClause 9 = .ok (.istore_n 1, 1) := by decide +kernel
theorem dX3_readClause_10 : decode cX3_readClause 10 = .ok (.iload_n 1, 1) := by decide +kernel
theorem dX3_readClause_11 : decode cX3_readClause 11 = .ok (.bipush 16, 2) := by decide +kernel
theorem dX3_readClause_13 : decode cX3_readClause 13 = .ok (.if_icmp .lt 9, 3) := by decide +kernel
theorem dX3_readClause_16 : decode cX3_readClause 16 = .ok (.iload_n 1, 1) := by decide +kernel
theorem dX3_readClause_17 : decode cX3_readClause 17 = .ok (.bipush 24, 2) := by decide +kernel
theorem dX3_readClause_19 : decode cX3_readClause 19 = .ok (.if_icmp .le 13, 3) := by decide +kernel
theorem dX3_readClause_22 : decode cX3_readClause 22 = .ok (.aload_n 0, 1) := by decide +kernel
theorem dX3_readClause_23 : decode cX3_readClause 23 = .ok (.iconst 0, 1) := by decide +kernel
theorem dX3_readClause_24 : decode cX3_readClause 24 = .ok (.iconst 1, 1) := by decide +kernel
theorem dX3_readClause_25 : decode cX3_readClause 25 = .ok (.invokevirtual 125, 3) := by decide +kernel
theorem dX3_readClause_28 : decode cX3_readClause 28 = .ok (.pop, 1) := by decide +kernel
theorem dX3_readClause_29 : decode cX3_readClause 29 = .ok (.goto 188, 3) := by decide +kernel
theorem dX3_readClause_32 : decode cX3_readClause 32 = .ok (.iload_n 1, 1) := by decide +kernel
theorem dX3_readClause_33 : decode cX3_readClause 33 = .ok (.bipush 18, 2) := by decide +kernel
theorem dX3_readClause_35 : decode cX3_readClause 35 = .ok (.if_icmp .gt 26, 3) := by decide +kernel
theorem dX3_readClause_38 : decode cX3_readClause 38 = .ok (.aload_n 0, 1) := by decide +kernel
theorem dX3_readClause_39 : decode cX3_readClause 39 = .ok (.getfield 37, 3) := by decide +kernel
theorem dX3_readClause_42 : decode cX3_readClause 42 = .ok (.iload_n 1, 1) := by decide +kernel
theorem dX3_readClause_43 : decode cX3_readClause 43 = .ok (.bipush 16, 2) := by decide +kernel
theorem dX3_readClause_45 : decode cX3_readClause 45 = .ok (.isub, 1) := by decide +kernel
theorem dX3_readClause_46 : decode cX3_readClause 46 = .ok (.iaload, 1) := by decide +kernel
theorem dX3_readClause_47 : decode cX3_readClause 47 = .ok (.iconst (-1), 1) := by decide +kernel
theorem dX3_readClause_48 : decode cX3_readClause 48 = .ok (.if_icmp .eq 13, 3) := by decide +kernel
theorem dX3_readClause_51 : decode cX3_readClause 51 = .ok (.aload_n 0, 1) := by decide +kernel
theorem dX3_readClause_52 : decode cX3_readClause 52 = .ok (.iconst 0, 1) := by decide +kernel
theorem dX3_readClause_53 : decode cX3_readClause 53 = .ok (.iconst 4, 1) := by decide +kernel
theorem dX3_readClause_54 : decode cX3_readClause 54 = .ok (.invokevirtual 125, 3) := by decide +kernel
theorem dX3_readClause_57 : decode cX3_readClause 57 = .ok (.pop, 1) := by decide +kernel
theorem dX3_readClause_58 : decode cX3_readClause 58 = .ok (.goto 159, 3) := by decide +kernel
theorem dX3_readClause_61 : decode cX3_readClause 61 = .ok (.aload_n 0, 1) := by decide +kernel
theorem dX3_readClause_62 : decode cX3_readClause 62 = .ok (.aload_n 0, 1) := by decide +kernel
theorem dX3_readClause_63 : decode cX3_readClause 63 = .ok (.getfield 55, 3) := by decide +kernel
theorem dX3_readClause_66 : decode cX3_readClause 66 = .ok (.bipush 24, 2) := by decide +kernel
theorem dX3_readClause_68 : decode cX3_readClause 68 = .ok (.if_icmp .ge 7, 3) := by decide +kernel
theorem dX3_readClause_71 : decode cX3_readClause 71 = .ok (.iconst 1, 1) := by decide +kernel
theorem dX3_readClause_72 : decode cX3_readClause 72 = .ok (.goto 4, 3) := by decide +kernel
theorem dX3_readClause_75 : decode cX3_readClause 75 = .ok (.iconst 0, 1) := by decide +kernel
theorem dX3_readClause_76 : decode cX3_readClause 76 = .ok (.bipush 6, 2) := by decide +kernel
theorem dX3_readClause_78 : decode cX3_readClause 78 = .ok (.invokevirtual 125, 3) := by decide +kernel
theorem dX3_readClause_81 : decode cX3_readClause 81 = .ok (.ifCond .eq 136, 3) := by decide +kernel
theorem dX3_readClause_84 : decode cX3_readClause 84 = .ok (.aload_n 0, 1) := by decide +kernel
theorem dX3_readClause_85 : decode cX3_readClause 85 = .ok (.getfield 31, 3) := by decide +kernel
theorem dX3_readClause_88 : decode cX3_readClause 88 = .ok (.aload_n 0, 1) := by decide +kernel
theorem dX3_readClause_89 : decode cX3_readClause 89 = .ok (.getfield 55, 3) := by decide +kernel
theorem dX3_readClause_92 : decode cX3_readClause 92 = .ok (.iconst 4, 1) := by decide +kernel
theorem dX3_readClause_93 : decode cX3_readClause 93 = .ok (.imul, 1) := by decide +kernel
theorem dX3_readClause_94 : decode cX3_readClause 94 = .ok (.iload_n 1, 1) := by decide +kernel
theorem dX3_readClause_95 : decode cX3_readClause 95 = .ok (.iastore, 1) := by decide +kernel
theorem dX3_readClause_96 : decode cX3_readClause 96 = .ok (.aload_n 0, 1) := by decide +kernel
theorem dX3_readClause_97 : decode cX3_readClause 97 = .ok (.getfield 58, 3) := by decide +kernel
theorem dX3_readClause_100 : decode cX3_readClause 100 = .ok (.istore_n 2, 1) := by decide +kernel
theorem dX3_readClause_101 : decode cX3_readClause 101 = .ok (.aload_n 0, 1) := by decide +kernel
theorem dX3_readClause_102 : decode cX3_readClause 102 = .ok (.iload_n 1, 1) := by decide +kernel
theorem dX3_readClause_103 : decode cX3_readClause 103 = .ok (.bipush 18, 2) := by decide +kernel
theorem dX3_readClause_105 : decode cX3_readClause 105 = .ok (.if_icmp .ne 7, 3) := by decide +kernel
theorem dX3_readClause_108 : decode cX3_readClause 108 = .ok (.iconst 1, 1) := by decide +kernel
theorem dX3_readClause_109 : decode cX3_readClause 109 = .ok (.goto 4, 3) := by decide +kernel
theorem dX3_readClause_112 : decode cX3_readClause 112 = .ok (.iconst 0, 1) := by decide +kernel
theorem dX3_readClause_113 : decode cX3_readClause 113 = .ok (.putfield 129, 3) := by decide +kernel
theorem dX3_readClause_116 : decode cX3_readClause 116 = .ok (.iload_n 1, 1) := by decide +kernel
theorem dX3_readClause_117 : decode cX3_readClause 117 = .ok (.bipush 16, 2) := by decide +kernel
theorem dX3_readClause_119 : decode cX3_readClause 119 = .ok (.if_icmp .ne 11, 3) := by decide +kernel
theorem dX3_readClause_122 : decode cX3_readClause 122 = .ok (.aload_n 0, 1) := by decide +kernel
theorem dX3_readClause_123 : decode cX3_readClause 123 = .ok (.iconst 0, 1) := by decide +kernel
theorem dX3_readClause_124 : decode cX3_readClause 124 = .ok (.invokevirtual 133, 3) := by decide +kernel
theorem dX3_readClause_127 : decode cX3_readClause 127 = .ok (.goto 27, 3) := by decide +kernel
theorem dX3_readClause_130 : decode cX3_readClause 130 = .ok (.iload_n 1, 1) := by decide +kernel
theorem dX3_readClause_131 : decode cX3_readClause 131 = .ok (.bipush 18, 2) := by decide +kernel
theorem dX3_readClause_133 : decode cX3_readClause 133 = .ok (.if_icmp .gt 10, 3) := by decide +kernel
theorem dX3_readClause_136 : decode cX3_readClause 136 = .ok (.aload_n 0, 1) := by decide +kernel
theorem dX3_readClause_137 : decode cX3_readClause 137 = .ok (.invokevirtual 137, 3) := by decide +kernel
theorem dX3_readClause_140 : decode cX3_readClause 140 = .ok (.goto 14, 3) := by decide +kernel
theorem dX3_readClause_143 : decode cX3_readClause 143 = .ok (.aload_n 0, 1) := by decide +kernel
theorem dX3_readClause_144 : decode cX3_readClause 144 = .ok (.iload_n 1, 1) := by decide +kernel
theorem dX3_readClause_145 : decode cX3_readClause 145 = .ok (.aload_n 0, 1) := by decide +kernel
theorem dX3_readClause_146 : decode cX3_readClause 146 = .ok (.getfield 55, 3) := by decide +kernel
theorem dX3_readClause_149 : decode cX3_readClause 149 = .ok (.iconst 4, 1) := by decide +kernel
theorem dX3_readClause_150 : decode cX3_readClause 150 = .ok (.imul, 1) := by decide +kernel
theorem dX3_readClause_151 : decode cX3_readClause 151 = .ok (.invokevirtual 140, 3) := by decide +kernel
theorem dX3_readClause_154 : decode cX3_readClause 154 = .ok (.iload_n 1, 1) := by decide +kernel
theorem dX3_readClause_155 : decode cX3_readClause 155 = .ok (.bipush 18, 2) := by decide +kernel
theorem dX3_readClause_157 : decode cX3_readClause 157 = .ok (.if_icmp .gt 26, 3) := by decide +kernel
theorem dX3_readClause_160 : decode cX3_readClause 160 = .ok (.aload_n 0, 1) := by decide +kernel
theorem dX3_readClause_161 : decode cX3_readClause 161 = .ok (.getfield 37, 3) := by decide +kernel
theorem dX3_readClause_164 : decode cX3_readClause 164 = .ok (.iload_n 1, 1) := by decide +kernel
theorem dX3_readClause_165 : decode cX3_readClause 165 = .ok (.bipush 16, 2) := by decide +kernel
theorem dX3_readClause_167 : decode cX3_readClause 167 = .ok (.isub, 1) := by decide +kernel
theorem dX3_readClause_168 : decode cX3_readClause 168 = .ok (.iload_n 2, 1) := by decide +kernel
theorem dX3_readClause_169 : decode cX3_readClause 169 = .ok (.iastore, 1) := by decide +kernel
theorem dX3_readClause_170 : decode cX3_readClause 170 = .ok (.aload_n 0, 1) := by decide +kernel
theorem dX3_readClause_171 : decode cX3_readClause 171 = .ok (.getfield 40, 3) := by decide +kernel
theorem dX3_readClause_174 : decode cX3_readClause 174 = .ok (.iload_n 1, 1) := by decide +kernel
theorem dX3_readClause_175 : decode cX3_readClause 175 = .ok (.bipush 16, 2) := by decide +kernel
theorem dX3_readClause_177 : decode cX3_readClause 177 = .ok (.isub, 1) := by decide +kernel
theorem dX3_readClause_178 : decode cX3_readClause 178 = .ok (.aload_n 0, 1) := by decide +kernel
theorem dX3_readClause_179 : decode cX3_readClause 179 = .ok (.getfield 58, 3) := by decide +kernel
theorem dX3_readClause_182 : decode cX3_readClause 182 = .ok (.iastore, 1) := by decide +kernel
theorem dX3_readClause_183 : decode cX3_readClause 183 = .ok (.aload_n 0, 1) := by decide +kernel
theorem dX3_readClause_184 : decode cX3_readClause 184 = .ok (.dup, 1) := by decide +kernel
theorem dX3_readClause_185 : decode cX3_readClause 185 = .ok (.getfield 55, 3) := by decide +kernel
theorem dX3_readClause_188 : decode cX3_readClause 188 = .ok (.iconst 1, 1) := by decide +kernel
theorem dX3_readClause_189 : decode cX3_readClause 189 = .ok (.iadd, 1) := by decide +kernel
theorem dX3_readClause_190 : decode cX3_readClause 190 = .ok (.putfield 55, 3) := by decide +kernel
theorem dX3_readClause_193 : decode cX3_readClause 193 = .ok (.aload_n 0, 1) := by decide +kernel
theorem dX3_readClause_194 : decode cX3_readClause 194 = .ok (.aload_n 0, 1) := by decide +kernel
theorem dX3_readClause_195 : decode cX3_readClause 195 = .ok (.getfield 22, 3) := by decide +kernel
theorem dX3_readClause_198 : decode cX3_readClause 198 = .ok (.aload_n 0, 1) := by decide +kernel
theorem dX3_readClause_199 : decode cX3_readClause 199 = .ok (.getfield 52, 3) := by decide +kernel
theorem dX3_readClause_202 : decode cX3_readClause 202 = .ok (.iaload, 1) := by decide +kernel
theorem dX3_readClause_203 : decode cX3_readClause 203 = .ok (.iconst 3, 1) := by decide +kernel
theorem dX3_readClause_204 : decode cX3_readClause 204 = .ok (.if_icmp .ne 7, 3) := by decide +kernel
theorem dX3_readClause_207 : decode cX3_readClause 207 = .ok (.iconst 1, 1) := by decide +kernel
theorem dX3_readClause_208 : decode cX3_readClause 208 = .ok (.goto 4, 3) := by decide +kernel
theorem dX3_readClause_211 : decode cX3_readClause 211 = .ok (.iconst 0, 1) := by decide +kernel
theorem dX3_readClause_212 : decode cX3_readClause 212 = .ok (.iconst 1, 1) := by decide +kernel
theorem dX3_readClause_213 : decode cX3_readClause 213 = .ok (.invokevirtual 125, 3) := by decide +kernel
theorem dX3_readClause_216 : decode cX3_readClause 216 = .ok (.pop, 1) := by decide +kernel
theorem dX3_readClause_217 : decode cX3_readClause 217 = .ok (.return_, 1) := by decide +kernel
theorem dX3_readNumbers_0 : decode cX3_readNumbers 0 = .ok (.iload_n 1, 1) := by decide +kernel
theorem dX3_readNumbers_1 : decode cX3_readNumbers 1 = .ok (.tableswitch 274 19 23 #[35, 42, 140, 198, 256], 35) := by decide +kernel
theorem dX3_readNumbers_36 : decode cX3_readNumbers 36 = .ok (.aload_n 0, 1) := by decide +kernel
theorem dX3_readNumbers_37 : decode cX3_readNumbers 37 = .ok (.invokevirtual 144, 3) := by decide +kernel
theorem dX3_readNumbers_40 : decode cX3_readNumbers 40 = .ok (.goto 250, 3) := by decide +kernel
theorem dX3_readNumbers_43 : decode cX3_readNumbers 43 = .ok (.aload_n 0, 1) := by decide +kernel
theorem dX3_readNumbers_44 : decode cX3_readNumbers 44 = .ok (.getfield 31, 3) := by decide +kernel
theorem dX3_readNumbers_47 : decode cX3_readNumbers 47 = .ok (.iload_n 2, 1) := by decide +kernel
theorem dX3_readNumbers_48 : decode cX3_readNumbers 48 = .ok (.iconst 1, 1) := by decide +kernel
theorem dX3_readNumbers_49 : decode cX3_readNumbers 49 = .ok (.iadd, 1) := by decide +kernel
theorem dX3_readNumbers_50 : decode cX3_readNumbers 50 = .ok (.aload_n 0, 1) := by decide +kernel
theorem dX3_readNumbers_51 : decode cX3_readNumbers 51 = .ok (.iconst 0, 1) := by decide +kernel
theorem dX3_readNumbers_52 : decode cX3_readNumbers 52 = .ok (.bipush 15, 2) := by decide +kernel
theorem dX3_readNumbers_54 : decode cX3_readNumbers 54 = .ok (.invokevirtual 147, 3) := by decide +kernel
theorem dX3_readNumbers_57 : decode cX3_readNumbers 57 = .ok (.iastore, 1) := by decide +kernel
theorem dX3_readNumbers_58 : decode cX3_readNumbers 58 = .ok (.aload_n 0, 1) := by decide +kernel
theorem dX3_readNumbers_59 : decode cX3_readNumbers 59 = .ok (.aload_n 0, 1) := by decide +kernel
theorem dX3_readNumbers_60 : decode cX3_readNumbers 60 = .ok (.getfield 22, 3) := by decide +kernel
theorem dX3_readNumbers_63 : decode cX3_readNumbers 63 = .ok (.aload_n 0, 1) := by decide +kernel
theorem dX3_readNumbers_64 : decode cX3_readNumbers 64 = .ok (.getfield 52, 3) := by decide +kernel
theorem dX3_readNumbers_67 : decode cX3_readNumbers 67 = .ok (.iaload, 1) := by decide +kernel
theorem dX3_readNumbers_68 : decode cX3_readNumbers 68 = .ok (.bipush 26, 2) := by decide +kernel
theorem dX3_readNumbers_70 : decode cX3_readNumbers 70 = .ok (.if_icmp .ne 7, 3) := by decide +kernel
theorem dX3_readNumbers_73 : decode cX3_readNumbers 73 = .ok (.iconst 1, 1) := by decide +kernel
theorem dX3_readNumbers_74 : decode cX3_readNumbers 74 = .ok (.goto 4, 3) := by decide +kernel
theorem dX3_readNumbers_77 : decode cX3_readNumbers 77 = .ok (.iconst 0, 1) := by decide +kernel
theorem dX3_readNumbers_78 : decode cX3_readNumbers 78 = .ok (.iconst 1, 1) := by decide +kernel
theorem dX3_readNumbers_79 : decode cX3_readNumbers 79 = .ok (.invokevirtual 125, 3) := by decide +kernel
theorem dX3_readNumbers_82 : decode cX3_readNumbers 82 = .ok (.pop, 1) := by decide +kernel
theorem dX3_readNumbers_83 : decode cX3_readNumbers 83 = .ok (.aload_n 0, 1) := by decide +kernel
theorem dX3_readNumbers_84 : decode cX3_readNumbers 84 = .ok (.getfield 31, 3) := by decide +kernel
theorem dX3_readNumbers_87 : decode cX3_readNumbers 87 = .ok (.iload_n 2, 1) := by decide +kernel
theorem dX3_readNumbers_88 : decode cX3_readNumbers 88 = .ok (.iconst 2, 1) := by decide +kernel
theorem dX3_readNumbers_89 : decode cX3_readNumbers 89 = .ok (.iadd, 1) := by decide +kernel
theorem dX3_readNumbers_90 : decode cX3_readNumbers 90 = .ok (.aload_n 0, 1) := by decide +kernel
theorem dX3_readNumbers_91 : decode cX3_readNumbers 91 = .ok (.iconst 0, 1) := by decide +kernel
theorem dX3_readNumbers_92 : decode cX3_readNumbers 92 = .ok (.bipush 9, 2) := by decide +kernel
theorem dX3_readNumbers_94 : decode cX3_readNumbers 94 = .ok (.invokevirtual 147, 3) := by decide +kernel
theorem dX3_readNumbers_97 : decode cX3_readNumbers 97 = .ok (.iastore, 1) := by decide +kernel
theorem dX3_readNumbers_98 : decode cX3_readNumbers 98 = .ok (.aload_n 0, 1) := by decide +kernel
theorem dX3_readNumbers_99 : decode cX3_readNumbers 99 = .ok (.aload_n 0, 1) := by decide +kernel
theorem dX3_readNumbers_100 : decode cX3_readNumbers 100 = .ok (.getfield 22, 3) := by decide +kernel
theorem dX3_readNumbers_103 : decode cX3_readNumbers 103 = .ok (.aload_n 0, 1) := by decide +kernel
theorem dX3_readNumbers_104 : decode cX3_readNumbers 104 = .ok (.getfield 52, 3) := by decide +kernel
theorem dX3_readNumbers_107 : decode cX3_readNumbers 107 = .ok (.iaload, 1) := by decide +kernel
theorem dX3_readNumbers_108 : decode cX3_readNumbers 108 = .ok (.bipush 27, 2) := by decide +kernel
theorem dX3_readNumbers_110 : decode cX3_readNumbers 110 = .ok (.if_icmp .ne 7, 3) := by decide +kernel
theorem dX3_readNumbers_113 : decode cX3_readNumbers 113 = .ok (.iconst 1, 1) := by decide +kernel
theorem dX3_readNumbers_114 : decode cX3_readNumbers 114 = .ok (.goto 4, 3) := by decide +kernel
theorem dX3_readNumbers_117 : decode cX3_readNumbers 117 = .ok (.iconst 0, 1) := by decide +kernel
theorem dX3_readNumbers_118 : decode cX3_readNumbers 118 = .ok (.iconst 1, 1) := by decide +kernel
theorem dX3_readNumbers_119 : decode cX3_readNumbers 119 = .ok (.invokevirtual 125, 3) := by decide +kernel
theorem dX3_readNumbers_122 : decode cX3_readNumbers 122 = .ok (.pop, 1) := by decide +kernel
theorem dX3_readNumbers_123 : decode cX3_readNumbers 123 = .ok (.aload_n 0, 1) := by decide +kernel
theorem dX3_readNumbers_124 : decode cX3_readNumbers 124 = .ok (.getfield 31, 3) := by decide +kernel
theorem dX3_readNumbers_127 : decode cX3_readNumbers 127 = .ok (.iload_n 2, 1) := by decide +kernel
theorem dX3_readNumbers_128 : decode cX3_readNumbers 128 = .ok (.iconst 3, 1) := by decide +kernel
theorem dX3_readNumbers_129 : decode cX3_readNumbers 129 = .ok (.iadd, 1) := by decide +kernel
theorem dX3_readNumbers_130 : decode cX3_readNumbers 130 = .ok (.aload_n 0, 1) := by decide +kernel
theorem dX3_readNumbers_131 : decode cX3_readNumbers 131 = .ok (.iconst 1, 1) := by decide +kernel
theorem dX3_readNumbers_132 : decode cX3_readNumbers 132 = .ok (.bipush 99, 2) := by decide +kernel
theorem dX3_readNumbers_134 : decode cX3_readNumbers 134 = .ok (.invokevirtual 147, 3) := by decide +kernel
theorem dX3_readNumbers_137 : decode cX3_readNumbers 137 = .ok (.iastore, 1) := by decide +kernel
theorem dX3_readNumbers_138 : decode cX3_readNumbers 138 = .ok (.goto 152, 3) := by decide +kernel
theorem dX3_readNumbers_141 : decode cX3_readNumbers 141 = .ok (.aload_n 0, 1) := by decide +kernel
theorem dX3_readNumbers_142 : decode cX3_readNumbers 142 = .ok (.getfield 31, 3) := by decide +kernel
theorem dX3_readNumbers_145 : decode cX3_readNumbers 145 = .ok (.iload_n 2, 1) := by decide +kernel
theorem dX3_readNumbers_146 : decode cX3_readNumbers 146 = .ok (.iconst 1, 1) := by decide +kernel
theorem dX3_readNumbers_147 : decode cX3_readNumbers 147 = .ok (.iadd, 1) := by decide +kernel
theorem dX3_readNumbers_148 : decode cX3_readNumbers 148 = .ok (.aload_n 0, 1) := by decide +kernel
theorem dX3_readNumbers_149 : decode cX3_readNumbers 149 = .ok (.iconst 0, 1) := by decide +kernel
theorem dX3_readNumbers_150 : decode cX3_readNumbers 150 = .ok (.bipush 15, 2) := by decide +kernel
theorem dX3_readNumbers_152 : decode cX3_readNumbers 152 = .ok (.invokevirtual 147, 3) := by decide +kernel
theorem dX3_readNumbers_155 : decode cX3_readNumbers 155 = .ok (.iastore, 1) := by decide +kernel
theorem dX3_readNumbers_156 : decode cX3_readNumbers 156 = .ok (.aload_n 0, 1) := by decide +kernel
theorem dX3_readNumbers_157 : decode cX3_readNumbers 157 = .ok (.aload_n 0, 1) := by decide +kernel
theorem dX3_readNumbers_158 : decode cX3_readNumbers 158 = .ok (.getfield 22, 3) := by decide +kernel
theorem dX3_readNumbers_161 : decode cX3_readNumbers 161 = .ok (.aload_n 0, 1) := by decide +kernel
theorem dX3_readNumbers_162 : decode cX3_readNumbers 162 = .ok (.getfield 52, 3) := by decide +kernel
theorem dX3_readNumbers_165 : decode cX3_readNumbers 165 = .ok (.iaload, 1) := by decide +kernel
theorem dX3_readNumbers_166 : decode cX3_readNumbers 166 = .ok (.bipush 28, 2) := by decide +kernel
theorem dX3_readNumbers_168 : decode cX3_readNumbers 168 = .ok (.if_icmp .ne 7, 3) := by decide +kernel
theorem dX3_readNumbers_171 : decode cX3_readNumbers 171 = .ok (.iconst 1, 1) := by decide +kernel
theorem dX3_readNumbers_172 : decode cX3_readNumbers 172 = .ok (.goto 4, 3) := by decide +kernel
theorem dX3_readNumbers_175 : decode cX3_readNumbers 175 = .ok (.iconst 0, 1) := by decide +kernel
theorem dX3_readNumbers_176 : decode cX3_readNumbers 176 = .ok (.iconst 1, 1) := by decide +kernel
theorem dX3_readNumbers_177 : decode cX3_readNumbers 177 = .ok (.invokevirtual 125, 3) := by decide +kernel
theorem dX3_readNumbers_180 : decode cX3_readNumbers 180 = .ok (.pop, 1) := by decide +kernel
theorem dX3_readNumbers_181 : decode cX3_readNumbers 181 = .ok (.aload_n 0, 1) := by decide +kernel
theorem dX3_readNumbers_182 : decode cX3_readNumbers 182 = .ok (.getfield 31, 3) := by decide +kernel
theorem dX3_readNumbers_185 : decode cX3_readNumbers 185 = .ok (.iload_n 2, 1) := by decide +kernel
theorem dX3_readNumbers_186 : decode cX3_readNumbers 186 = .ok (.iconst 2, 1) := by decide +kernel
theorem dX3_readNumbers_187 : decode cX3_readNumbers 187 = .ok (.iadd, 1) := by decide +kernel
theorem dX3_readNumbers_188 : decode cX3_readNumbers 188 = .ok (.aload_n 0, 1) := by decide +kernel
theorem dX3_readNumbers_189 : decode cX3_readNumbers 189 = .ok (.iconst 0, 1) := by decide +kernel
theorem dX3_readNumbers_190 : decode cX3_readNumbers 190 = .ok (.bipush 15, 2) := by decide +kernel
theorem dX3_readNumbers_192 : decode cX3_readNumbers 192 = .ok (.invokevirtual 147, 3) := by decide +kernel
theorem dX3_readNumbers_195 : decode cX3_readNumbers 195 = .ok (.iastore, 1) := by decide +kernel
theorem dX3_readNumbers_196 : decode cX3_readNumbers 196 = .ok (.goto 94, 3) := by decide +kernel
theorem dX3_readNumbers_199 : decode cX3_readNumbers 199 = .ok (.aload_n 0, 1) := by decide +kernel
theorem dX3_readNumbers_200 : decode cX3_readNumbers 200 = .ok (.getfield 31, 3) := by decide +kernel
theorem dX3_readNumbers_203 : decode cX3_readNumbers 203 = .ok (.iload_n 2, 1) := by decide +kernel
theorem dX3_readNumbers_204 : decode cX3_readNumbers 204 = .ok (.iconst 1, 1) := by decide +kernel
theorem dX3_readNumbers_205 : decode cX3_readNumbers 205 = .ok (.iadd, 1) := by decide +kernel
theorem dX3_readNumbers_206 : decode cX3_readNumbers 206 = .ok (.aload_n 0, 1) := by decide +kernel
theorem dX3_readNumbers_207 : decode cX3_readNumbers 207 = .ok (.iconst 0, 1) := by decide +kernel
theorem dX3_readNumbers_208 : decode cX3_readNumbers 208 = .ok (.bipush 15, 2) := by decide +kernel
theorem dX3_readNumbers_210 : decode cX3_readNumbers 210 = .ok (.invokevirtual 147, 3) := by decide +kernel
theorem dX3_readNumbers_213 : decode cX3_readNumbers 213 = .ok (.iastore, 1) := by decide +kernel
theorem dX3_readNumbers_214 : decode cX3_readNumbers 214 = .ok (.aload_n 0, 1) := by decide +kernel
theorem dX3_readNumbers_215 : decode cX3_readNumbers 215 = .ok (.aload_n 0, 1) := by decide +kernel
theorem dX3_readNumbers_216 : decode cX3_readNumbers 216 = .ok (.getfield 22, 3) := by decide +kernel
theorem dX3_readNumbers_219 : decode cX3_readNumbers 219 = .ok (.aload_n 0, 1) := by decide +kernel
theorem dX3_readNumbers_220 : decode cX3_readNumbers 220 = .ok (.getfield 52, 3) := by decide +kernel
theorem dX3_readNumbers_223 : decode cX3_readNumbers 223 = .ok (.iaload, 1) := by decide +kernel
theorem dX3_readNumbers_224 : decode cX3_readNumbers 224 = .ok (.bipush 26, 2) := by decide +kernel
theorem dX3_readNumbers_226 : decode cX3_readNumbers 226 = .ok (.if_icmp .ne 7, 3) := by decide +kernel
theorem dX3_readNumbers_229 : decode cX3_readNumbers 229 = .ok (.iconst 1, 1) := by decide +kernel
theorem dX3_readNumbers_230 : decode cX3_readNumbers 230 = .ok (.goto 4, 3) := by decide +kernel
theorem dX3_readNumbers_233 : decode cX3_readNumbers 233 = .ok (.iconst 0, 1) := by decide +kernel
theorem dX3_readNumbers_234 : decode cX3_readNumbers 234 = .ok (.iconst 1, 1) := by decide +kernel
theorem dX3_readNumbers_235 : decode cX3_readNumbers 235 = .ok (.invokevirtual 125, 3) := by decide +kernel
theorem dX3_readNumbers_238 : decode cX3_readNumbers 238 = .ok (.pop, 1) := by decide +kernel
theorem dX3_readNumbers_239 : decode cX3_readNumbers 239 = .ok (.aload_n 0, 1) := by decide +kernel
theorem dX3_readNumbers_240 : decode cX3_readNumbers 240 = .ok (.getfield 31, 3) := by decide +kernel
theorem dX3_readNumbers_243 : decode cX3_readNumbers 243 = .ok (.iload_n 2, 1) := by decide +kernel
theorem dX3_readNumbers_244 : decode cX3_readNumbers 244 = .ok (.iconst 2, 1) := by decide +kernel
theorem dX3_readNumbers_245 : decode cX3_readNumbers 245 = .ok (.iadd, 1) := by decide +kernel
theorem dX3_readNumbers_246 : decode cX3_readNumbers 246 = .ok (.aload_n 0, 1) := by decide +kernel
theorem dX3_readNumbers_247 : decode cX3_readNumbers 247 = .ok (.iconst 0, 1) := by decide +kernel
theorem dX3_readNumbers_248 : decode cX3_readNumbers 248 = .ok (.bipush 9, 2) := by decide +kernel
theorem dX3_readNumbers_250 : decode cX3_readNumbers 250 = .ok (.invokevirtual 147, 3) := by decide +kernel
theorem dX3_readNumbers_253 : decode cX3_readNumbers 253 = .ok (.iastore, 1) := by decide +kernel
theorem dX3_readNumbers_254 : decode cX3_readNumbers 254 = .ok (.goto 36, 3) := by decide +kernel
theorem dX3_readNumbers_257 : decode cX3_readNumbers 257 = .ok (.aload_n 0, 1) := by decide +kernel
theorem dX3_readNumbers_258 : decode cX3_readNumbers 258 = .ok (.getfield 31, 3) := by decide +kernel
theorem dX3_readNumbers_261 : decode cX3_readNumbers 261 = .ok (.iload_n 2, 1) := by decide +kernel
theorem dX3_readNumbers_262 : decode cX3_readNumbers 262 = .ok (.iconst 1, 1) := by decide +kernel
theorem dX3_readNumbers_263 : decode cX3_readNumbers 263 = .ok (.iadd, 1) := by decide +kernel
theorem dX3_readNumbers_264 : decode cX3_readNumbers 264 = .ok (.aload_n 0, 1) := by decide +kernel
theorem dX3_readNumbers_265 : decode cX3_readNumbers 265 = .ok (.iconst 0, 1) := by decide +kernel
theorem dX3_readNumbers_266 : decode cX3_readNumbers 266 = .ok (.bipush 9, 2) := by decide +kernel
theorem dX3_readNumbers_268 : decode cX3_readNumbers 268 = .ok (.invokevirtual 147, 3) := by decide +kernel
theorem dX3_readNumbers_271 : decode cX3_readNumbers 271 = .ok (.iastore, 1) := by decide +kernel
theorem dX3_readNumbers_272 : decode cX3_readNumbers 272 = .ok (.goto 18, 3) := by decide +kernel
theorem dX3_readNumbers_275 : decode cX3_readNumbers 275 = .ok (.aload_n 0, 1) := by decide +kernel
theorem dX3_readNumbers_276 : decode cX3_readNumbers 276 = .ok (.getfield 31, 3) := by decide +kernel
theorem dX3_readNumbers_279 : decode cX3_readNumbers 279 = .ok (.iload_n 2, 1) := by decide +kernel
theorem dX3_readNumbers_280 : decode cX3_readNumbers 280 = .ok (.iconst 1, 1) := by decide +kernel
theorem dX3_readNumbers_281 : decode cX3_readNumbers 281 = .ok (.iadd, 1) := by decide +kernel
theorem dX3_readNumbers_282 : decode cX3_readNumbers 282 = .ok (.aload_n 0, 1) := by decide +kernel
theorem dX3_readNumbers_283 : decode cX3_readNumbers 283 = .ok (.iconst 0, 1) := by decide +kernel
theorem dX3_readNumbers_284 : decode cX3_readNumbers 284 = .ok (.bipush 99, 2) := by decide +kernel
theorem dX3_readNumbers_286 : decode cX3_readNumbers 286 = .ok (.invokevirtual 147, 3) := by decide +kernel
theorem dX3_readNumbers_289 : decode cX3_readNumbers 289 = .ok (.iastore, 1) := by decide +kernel
theorem dX3_readNumbers_290 : decode cX3_readNumbers 290 = .ok (.return_, 1) := by decide +kernel
theorem dX3_readMany_0 : decode cX3_readMany 0 = .ok (.aload_n 0, 1) := by decide +kernel
theorem dX3_readMany_1 : decode cX3_readMany 1 = .ok (.getfield 22, 3) := by decide +kernel
theorem dX3_readMany_4 : decode cX3_readMany 4 = .ok (.aload_n 0, 1) := by decide +kernel
theorem dX3_readMany_5 : decode cX3_readMany 5 = .ok (.getfield 52, 3) := by decide +kernel
theorem dX3_readMany_8 : decode cX3_readMany 8 = .ok (.iaload, 1) := by decide +kernel
theorem dX3_readMany_9 : decode cX3_readMany 9 = .ok (.iconst 2, 1) := by decide +kernel
theorem dX3_readMany_10 : decode cX3_readMany 10 = .ok (.if_icmp .ne 21, 3) := by decide +kernel
theorem dX3_readMany_13 : decode cX3_readMany 13 = .ok (.aload_n 0, 1) := by decide +kernel
theorem dX3_readMany_14 : decode cX3_readMany 14 = .ok (.getfield 28, 3) := by decide +kernel
theorem dX3_readMany_17 : decode cX3_readMany 17 = .ok (.aload_n 0, 1) := by decide +kernel
theorem dX3_readMany_18 : decode cX3_readMany 18 = .ok (.getfield 52, 3) := by decide +kernel
theorem dX3_readMany_21 : decode cX3_readMany 21 = .ok (.iaload, 1) := by decide +kernel
theorem dX3_readMany_22 : decode cX3_readMany 22 = .ok (.bipush 20, 2) := by decide +kernel
theorem dX3_readMany_24 : decode cX3_readMany 24 = .ok (.if_icmp .ge 7, 3) := by decide +kernel
theorem dX3_readMany_27 : decode cX3_readMany 27 = .ok (.iconst 1, 1) := by decide +kernel
theorem dX3_readMany_28 : decode cX3_readMany 28 = .ok (.goto 4, 3) := by decide +kernel
theorem dX3_readMany_31 : decode cX3_readMany 31 = .ok (.iconst 0, 1) := by decide +kernel
theorem dX3_readMany_32 : decode cX3_readMany 32 = .ok (.istore_n 1, 1) := by decide +kernel
theorem dX3_readMany_33 : decode cX3_readMany 33 = .ok (.iload_n 1, 1) := by decide +kernel
theorem dX3_readMany_34 : decode cX3_readMany 34 = .ok (.ifCond .eq 27, 3) := by decide +kernel
theorem dX3_readMany_37 : decode cX3_readMany 37 = .ok (.aload_n 0, 1) := by decide +kernel
theorem dX3_readMany_38 : decode cX3_readMany 38 = .ok (.getfield 43, 3) := by decide +kernel
theorem dX3_readMany_41 : decode cX3_readMany 41 = .ok (.aload_n 0, 1) := by decide +kernel
theorem dX3_readMany_42 : decode cX3_readMany 42 = .ok (.getfield 28, 3) := by decide +kernel
theorem dX3_readMany_45 : decode cX3_readMany 45 = .ok (.aload_n 0, 1) := by decide +kernel
theorem dX3_readMany_46 : decode cX3_readMany 46 = .ok (.getfield 52, 3) := by decide +kernel
theorem dX3_readMany_49 : decode cX3_readMany 49 = .ok (.iaload, 1) := by decide +kernel
theorem dX3_readMany_50 : decode cX3_readMany 50 = .ok (.iaload, 1) := by decide +kernel
theorem dX3_readMany_51 : decode cX3_readMany 51 = .ok (.ifCond .eq 10, 3) := by decide +kernel
theorem dX3_readMany_54 : decode cX3_readMany 54 = .ok (.aload_n 0, 1) := by decide +kernel
theorem dX3_readMany_55 : decode cX3_readMany 55 = .ok (.iconst 0, 1) := by decide +kernel
theorem dX3_readMany_56 : decode cX3_readMany 56 = .ok (.iconst 4, 1) := by decide +kernel
theorem dX3_readMany_57 : decode cX3_readMany 57 = .ok (.invokevirtual 125, 3) := by decide +kernel
theorem dX3_readMany_60 : decode cX3_readMany 60 = .ok (.pop, 1) := by decide +kernel
theorem dX3_readMany_61 : decode cX3_readMany 61 = .ok (.aload_n 0, 1) := by decide +kernel
theorem dX3_readMany_62 : decode cX3_readMany 62 = .ok (.iconst 0, 1) := by decide +kernel
theorem dX3_readMany_63 : decode cX3_readMany 63 = .ok (.bipush 19, 2) := by decide +kernel
theorem dX3_readMany_65 : decode cX3_readMany 65 = .ok (.invokevirtual 147, 3) := by decide +kernel
theorem dX3_readMany_68 : decode cX3_readMany 68 = .ok (.istore_n 2, 1) := by decide +kernel
theorem dX3_readMany_69 : decode cX3_readMany 69 = .ok (.aload_n 0, 1) := by decide +kernel
theorem dX3_readMany_70 : decode cX3_readMany 70 = .ok (.aload_n 0, 1) := by decide +kernel
theorem dX3_readMany_71 : decode cX3_readMany 71 = .ok (.getfield 22, 3) := by decide +kernel
theorem dX3_readMany_74 : decode cX3_readMany 74 = .ok (.aload_n 0, 1) := by decide +kernel
theorem dX3_readMany_75 : decode cX3_readMany 75 = .ok (.getfield 52, 3) := by decide +kernel
theorem dX3_readMany_78 : decode cX3_readMany 78 = .ok (.iaload, 1) := by decide +kernel
theorem dX3_readMany_79 : decode cX3_readMany 79 = .ok (.bipush 25, 2) := by decide +kernel
theorem dX3_readMany_81 : decode cX3_readMany 81 = .ok (.if_icmp .ne 7, 3) := by decide +kernel
theorem dX3_readMany_84 : decode cX3_readMany 84 = .ok (.iconst 1, 1) := by decide +kernel
theorem dX3_readMany_85 : decode cX3_readMany 85 = .ok (.goto 4, 3) := by decide +kernel
theorem dX3_readMany_88 : decode cX3_readMany 88 = .ok (.iconst 0, 1) := by decide +kernel
theorem dX3_readMany_89 : decode cX3_readMany 89 = .ok (.iconst 1, 1) := by decide +kernel
theorem dX3_readMany_90 : decode cX3_readMany 90 = .ok (.invokevirtual 125, 3) := by decide +kernel
theorem dX3_readMany_93 : decode cX3_readMany 93 = .ok (.pop, 1) := by decide +kernel
theorem dX3_readMany_94 : decode cX3_readMany 94 = .ok (.aload_n 0, 1) := by decide +kernel
theorem dX3_readMany_95 : decode cX3_readMany 95 = .ok (.getfield 43, 3) := by decide +kernel
theorem dX3_readMany_98 : decode cX3_readMany 98 = .ok (.iload_n 2, 1) := by decide +kernel
theorem dX3_readMany_99 : decode cX3_readMany 99 = .ok (.aload_n 0, 1) := by decide +kernel
theorem dX3_readMany_100 : decode cX3_readMany 100 = .ok (.iconst 1, 1) := by decide +kernel
theorem dX3_readMany_101 : decode cX3_readMany 101 = .ok (.bipush 9, 2) := by decide +kernel
theorem dX3_readMany_103 : decode cX3_readMany 103 = .ok (.invokevirtual 147, 3) := by decide +kernel
theorem dX3_readMany_106 : decode cX3_readMany 106 = .ok (.iastore, 1) := by decide +kernel
theorem dX3_readMany_107 : decode cX3_readMany 107 = .ok (.return_, 1) := by decide +kernel
theorem dX3_readNumber_0 : decode cX3_readNumber 0 = .ok (.aload_n 0, 1) := by decide +kernel
theorem dX3_readNumber_1 : decode cX3_readNumber 1 = .ok (.getfield 28, 3) := by decide +kernel
theorem dX3_readNumber_4 : decode cX3_readNumber 4 = .ok (.aload_n 0, 1) := by decide +kernel
theorem dX3_readNumber_5 : decode cX3_readNumber 5 = .ok (.getfield 52, 3) := by decide +kernel
theorem dX3_readNumber_8 : decode cX3_readNumber 8 = .ok (.iaload, 1) := by decide +kernel
theorem dX3_readNumber_9 : decode cX3_readNumber 9 = .ok (.istore_n 3, 1) := by decide +kernel
theorem dX3_readNumber_10 : decode cX3_readNumber 10 = .ok (.aload_n 0, 1) := by decide +kernel
theorem dX3_readNumber_11 : decode cX3_readNumber 11 = .ok (.getfield 22, 3) := by decide +kernel
theorem dX3_readNumber_14 : decode cX3_readNumber 14 = .ok (.aload_n 0, 1) := by decide +kernel
theorem dX3_readNumber_15 : decode cX3_readNumber 15 = .ok (.getfield 52, 3) := by decide +kernel
theorem dX3_readNumber_18 : decode cX3_readNumber 18 = .ok (.iaload, 1) := by decide +kernel
theorem dX3_readNumber_19 : decode cX3_readNumber 19 = .ok (.iconst 2, 1) := by decide +kernel
theorem dX3_readNumber_20 : decode cX3_readNumber 20 = .ok (.if_icmp .eq 12, 3) := by decide +kernel
theorem dX3_readNumber_23 : decode cX3_readNumber 23 = .ok (.aload_n 0, 1) := by decide +kernel
theorem dX3_readNumber_24 : decode cX3_readNumber 24 = .ok (.iconst 0, 1) := by decide +kernel
theorem dX3_readNumber_25 : decode cX3_readNumber 25 = .ok (.iconst 1, 1) := by decide +kernel
theorem dX3_readNumber_26 : decode cX3_readNumber 26 = .ok (.invokevirtual 125, 3) := by decide +kernel
theorem dX3_readNumber_29 : decode cX3_readNumber 29 = .ok (.pop, 1) := by decide +kernel
theorem dX3_readNumber_30 : decode cX3_readNumber 30 = .ok (.iload_n 1, 1) := by decide +kernel
theorem dX3_readNumber_31 : decode cX3_readNumber 31 = .ok (.ireturn, 1) := by decide +kernel
theorem dX3_readNumber_32 : decode cX3_readNumber 32 = .ok (.aload_n 0, 1) := by decide +kernel
theorem dX3_readNumber_33 : decode cX3_readNumber 33 = .ok (.iload_n 3, 1) := by decide +kernel
theorem dX3_readNumber_34 : decode cX3_readNumber 34 = .ok (.iload_n 1, 1) := by decide +kernel
theorem dX3_readNumber_35 : decode cX3_readNumber 35 = .ok (.iload_n 2, 1) := by decide +kernel
theorem dX3_readNumber_36 : decode cX3_readNumber 36 = .ok (.invokestatic 150, 3) := by decide +kernel
theorem dX3_readNumber_39 : decode cX3_readNumber 39 = .ok (.iconst 2, 1) := by decide +kernel
theorem dX3_readNumber_40 : decode cX3_readNumber 40 = .ok (.invokevirtual 125, 3) := by decide +kernel
theorem dX3_readNumber_43 : decode cX3_readNumber 43 = .ok (.ifCond .eq 7, 3) := by decide +kernel
theorem dX3_readNumber_46 : decode cX3_readNumber 46 = .ok (.iload_n 3, 1) := by decide +kernel
theorem dX3_readNumber_47 : decode cX3_readNumber 47 = .ok (.goto 4, 3) := by decide +kernel
theorem dX3_readNumber_50 : decode cX3_readNumber 50 = .ok (.iload_n 1, 1) := by decide +kernel
theorem dX3_readNumber_51 : decode cX3_readNumber 51 = .ok (.ireturn, 1) := by decide +kernel
theorem dX3_readEither_0 : decode cX3_readEither 0 = .ok (.iconst 0, 1) := by decide +kernel
theorem dX3_readEither_1 : decode cX3_readEither 1 = .ok (.istore_n 1, 1) := by decide +kernel
theorem dX3_readEither_2 : decode cX3_readEither 2 = .ok (.aload_n 0, 1) := by decide +kernel
theorem dX3_readEither_3 : decode cX3_readEither 3 = .ok (.iconst 0, 1) := by decide +kernel
theorem dX3_readEither_4 : decode cX3_readEither 4 = .ok (.invokevirtual 154, 3) := by decide +kernel
theorem dX3_readEither_7 : decode cX3_readEither 7 = .ok (.iconst 0, 1) := by decide +kernel
theorem dX3_readEither_8 : decode cX3_readEither 8 = .ok (.istore_n 2, 1) := by decide +kernel
theorem dX3_readEither_9 : decode cX3_readEither 9 = .ok (.iload_n 2, 1) := by decide +kernel
theorem dX3_readEither_10 : decode cX3_readEither 10 = .ok (.sipush 300, 3) := by decide +kernel
theorem dX3_readEither_13 : decode cX3_readEither 13 = .ok (.if_icmp .ge 114, 3) := by decide +kernel
theorem dX3_readEither_16 : decode cX3_readEither 16 = .ok (.aload_n 0, 1) := by decide +kernel
theorem dX3_readEither_17 : decode cX3_readEither 17 = .ok (.getfield 15, 3) := by decide +kernel
theorem dX3_readEither_20 : decode cX3_readEither 20 = .ok (.ifCond .ne 107, 3) := by decide +kernel
theorem dX3_readEither_23 : decode cX3_readEither 23 = .ok (.aload_n 0, 1) := by decide +kernel
theorem dX3_readEither_24 : decode cX3_readEither 24 = .ok (.getfield 22, 3) := by decide +kernel
theorem dX3_readEither_27 : decode cX3_readEither 27 = .ok (.aload_n 0, 1) := by decide +kernel
theorem dX3_readEither_28 : decode cX3_readEither 28 = .ok (.getfield 52, 3) := by decide +kernel
theorem dX3_readEither_31 : decode cX3_readEither 31 = .ok (.iaload, 1) := by decide +kernel
theorem dX3_readEither_32 : decode cX3_readEither 32 = .ok (.bipush 30, 2) := by decide +kernel
theorem dX3_readEither_34 : decode cX3_readEither 34 = .ok (.if_icmp .eq 17, 3) := by decide +kernel
theorem dX3_readEither_37 : decode cX3_readEither 37 = .ok (.aload_n 0, 1) := by decide +kernel
theorem dX3_readEither_38 : decode cX3_readEither 38 = .ok (.getfield 22, 3) := by decide +kernel
theorem dX3_readEither_41 : decode cX3_readEither 41 = .ok (.aload_n 0, 1) := by decide +kernel
theorem dX3_readEither_42 : decode cX3_readEither 42 = .ok (.getfield 52, 3) := by decide +kernel
theorem dX3_readEither_45 : decode cX3_readEither 45 = .ok (.iaload, 1) := by decide +kernel
theorem dX3_readEither_46 : decode cX3_readEither 46 = .ok (.bipush 31, 2) := by decide +kernel
theorem dX3_readEither_48 : decode cX3_readEither 48 = .ok (.if_icmp .ne 79, 3) := by decide +kernel
theorem dX3_readEither_51 : decode cX3_readEither 51 = .ok (.aload_n 0, 1) := by decide +kernel
theorem dX3_readEither_52 : decode cX3_readEither 52 = .ok (.getfield 22, 3) := by decide +kernel
theorem dX3_readEither_55 : decode cX3_readEither 55 = .ok (.aload_n 0, 1) := by decide +kernel
theorem dX3_readEither_56 : decode cX3_readEither 56 = .ok (.getfield 52, 3) := by decide +kernel
theorem dX3_readEither_59 : decode cX3_readEither 59 = .ok (.iaload, 1) := by decide +kernel
theorem dX3_readEither_60 : decode cX3_readEither 60 = .ok (.bipush 31, 2) := by decide +kernel
theorem dX3_readEither_62 : decode cX3_readEither 62 = .ok (.if_icmp .ne 7, 3) := by decide +kernel
theorem dX3_readEither_65 : decode cX3_readEither 65 = .ok (.iconst 1, 1) := by decide +kernel
theorem dX3_readEither_66 : decode cX3_readEither 66 = .ok (.goto 4, 3) := by decide +kernel
theorem dX3_readEither_69 : decode cX3_readEither 69 = .ok (.iconst 0, 1) := by decide +kernel
theorem dX3_readEither_70 : decode cX3_readEither 70 = .ok (.istore_n 3, 1) := by decide +kernel
theorem dX3_readEither_71 : decode cX3_readEither 71 = .ok (.aload_n 0, 1) := by decide +kernel
theorem dX3_readEither_72 : decode cX3_readEither 72 = .ok (.iconst 1, 1) := by decide +kernel
theorem dX3_readEither_73 : decode cX3_readEither 73 = .ok (.iconst 1, 1) := by decide +kernel
theorem dX3_readEither_74 : decode cX3_readEither 74 = .ok (.invokevirtual 125, 3) := by decide +kernel
theorem dX3_readEither_77 : decode cX3_readEither 77 = .ok (.pop, 1) := by decide +kernel
theorem dX3_readEither_78 : decode cX3_readEither 78 = .ok (.iload_n 3, 1) := by decide +kernel
theorem dX3_readEither_79 : decode cX3_readEither 79 = .ok (.ifCond .eq 13, 3) := by decide +kernel
theorem dX3_readEither_82 : decode cX3_readEither 82 = .ok (.iload_n 1, 1) := by decide +kernel
theorem dX3_readEither_83 : decode cX3_readEither 83 = .ok (.ifCond .eq 9, 3) := by decide +kernel
theorem dX3_readEither_86 : decode cX3_readEither 86 = .ok (.aload_n 0, 1) := by decide +kernel
theorem dX3_readEither_87 : decode cX3_readEither 87 = .ok (.bipush (-31), 2) := by decide +kernel
theorem dX3_readEither_89 : decode cX3_readEither 89 = .ok (.invokevirtual 157, 3) := by decide +kernel
theorem dX3_readEither_92 : decode cX3_readEither 92 = .ok (.iload_n 1, 1) := by decide +kernel
theorem dX3_readEither_93 : decode cX3_readEither 93 = .ok (.ifCond .ne 7, 3) := by decide +kernel
theorem dX3_readEither_96 : decode cX3_readEither 96 = .ok (.iload_n 3, 1) := by decide +kernel
theorem dX3_readEither_97 : decode cX3_readEither 97 = .ok (.ifCond .eq 7, 3) := by decide +kernel
theorem dX3_readEither_100 : decode cX3_readEither 100 = .ok (.iconst 1, 1) := by decide +kernel
theorem dX3_readEither_101 : decode cX3_readEither 101 = .ok (.goto 4, 3) := by decide +kernel
theorem dX3_readEither_104 : decode cX3_readEither 104 = .ok (.iconst 0, 1) := by decide +kernel
theorem dX3_readEither_105 : decode cX3_readEither 105 = .ok (.istore_n 1, 1) := by decide +kernel
theorem dX3_readEither_106 : decode cX3_readEither 106 = .ok (.aload_n 0, 1) := by decide +kernel
theorem dX3_readEither_107 : decode cX3_readEither 107 = .ok (.iconst 0, 1) := by decide +kernel
theorem dX3_readEither_108 : decode cX3_readEither 108 = .ok (.invokevirtual 154, 3) := by decide +kernel
theorem dX3_readEither_111 : decode cX3_readEither 111 = .ok (.iload_n 3, 1) := by decide +kernel
theorem dX3_readEither_112 : decode cX3_readEither 112 = .ok (.ifCond .ne 9, 3) := by decide +kernel
theorem dX3_readEither_115 : decode cX3_readEither 115 = .ok (.aload_n 0, 1) := by decide +kernel
theorem dX3_readEither_116 : decode cX3_readEither 116 = .ok (.bipush (-30), 2) := by decide +kernel
theorem dX3_readEither_118 : decode cX3_readEither 118 = .ok (.invokevirtual 157, 3) := by decide +kernel
theorem dX3_readEither_121 : decode cX3_readEither 121 = .ok (.iinc 2 1, 3) := by decide +kernel
theorem dX3_readEither_124 : decode cX3_readEither 124 = .ok (.goto (-115), 3) := by decide +kernel
theorem dX3_readEither_127 : decode cX3_readEither 127 = .ok (.iload_n 1, 1) := by decide +kernel
theorem dX3_readEither_128 : decode cX3_readEither 128 = .ok (.ifCond .eq 9, 3) := by decide +kernel
theorem dX3_readEither_131 : decode cX3_readEither 131 = .ok (.aload_n 0, 1) := by decide +kernel
theorem dX3_readEither_132 : decode cX3_readEither 132 = .ok (.bipush (-31), 2) := by decide +kernel
theorem dX3_readEither_134 : decode cX3_readEither 134 = .ok (.invokevirtual 157, 3) := by decide +kernel
theorem dX3_readEither_137 : decode cX3_readEither 137 = .ok (.return_, 1) := by decide +kernel
theorem dX3_readAsk_0 : decode cX3_readAsk 0 = .ok (.aload_n 0, 1) := by decide +kernel
theorem dX3_readAsk_1 : decode cX3_readAsk 1 = .ok (.getfield 22, 3) := by decide +kernel
theorem dX3_readAsk_4 : decode cX3_readAsk 4 = .ok (.aload_n 0, 1) := by decide +kernel
theorem dX3_readAsk_5 : decode cX3_readAsk 5 = .ok (.getfield 52, 3) := by decide +kernel
theorem dX3_readAsk_8 : decode cX3_readAsk 8 = .ok (.iaload, 1) := by decide +kernel
theorem dX3_readAsk_9 : decode cX3_readAsk 9 = .ok (.bipush 29, 2) := by decide +kernel
theorem dX3_readAsk_11 : decode cX3_readAsk 11 = .ok (.if_icmp .ne 36, 3) := by decide +kernel
theorem dX3_readAsk_14 : decode cX3_readAsk 14 = .ok (.aload_n 0, 1) := by decide +kernel
theorem dX3_readAsk_15 : decode cX3_readAsk 15 = .ok (.iload_n 1, 1) := by decide +kernel
theorem dX3_readAsk_16 : decode cX3_readAsk 16 = .ok (.bipush 8, 2) := by decide +kernel
theorem dX3_readAsk_18 : decode cX3_readAsk 18 = .ok (.if_icmp .ge 7, 3) := by decide +kernel
theorem dX3_readAsk_21 : decode cX3_readAsk 21 = .ok (.iconst 1, 1) := by decide +kernel
theorem dX3_readAsk_22 : decode cX3_readAsk 22 = .ok (.goto 4, 3) := by decide +kernel
theorem dX3_readAsk_25 : decode cX3_readAsk 25 = .ok (.iconst 0, 1) := by decide +kernel
theorem dX3_readAsk_26 : decode cX3_readAsk 26 = .ok (.iconst 3, 1) := by decide +kernel
theorem dX3_readAsk_27 : decode cX3_readAsk 27 = .ok (.invokevirtual 125, 3) := by decide +kernel
theorem dX3_readAsk_30 : decode cX3_readAsk 30 = .ok (.ifCond .eq 16, 3) := by decide +kernel
theorem dX3_readAsk_33 : decode cX3_readAsk 33 = .ok (.aload_n 0, 1) := by decide +kernel
theorem dX3_readAsk_34 : decode cX3_readAsk 34 = .ok (.iload_n 1, 1) := by decide +kernel
theorem dX3_readAsk_35 : decode cX3_readAsk 35 = .ok (.iconst 1, 1) := by decide +kernel
theorem dX3_readAsk_36 : decode cX3_readAsk 36 = .ok (.iadd, 1) := by decide +kernel
theorem dX3_readAsk_37 : decode cX3_readAsk 37 = .ok (.invokevirtual 154, 3) := by decide +kernel
theorem dX3_readAsk_40 : decode cX3_readAsk 40 = .ok (.aload_n 0, 1) := by decide +kernel
theorem dX3_readAsk_41 : decode cX3_readAsk 41 = .ok (.bipush (-29), 2) := by decide +kernel
theorem dX3_readAsk_43 : decode cX3_readAsk 43 = .ok (.invokevirtual 157, 3) := by decide +kernel
theorem dX3_readAsk_46 : decode cX3_readAsk 46 = .ok (.return_, 1) := by decide +kernel
theorem dX3_readAsk_47 : decode cX3_readAsk 47 = .ok (.aload_n 0, 1) := by decide +kernel
theorem dX3_readAsk_48 : decode cX3_readAsk 48 = .ok (.iload_n 1, 1) := by decide +kernel
theorem dX3_readAsk_49 : decode cX3_readAsk 49 = .ok (.invokevirtual 133, 3) := by decide +kernel
theorem dX3_readAsk_52 : decode cX3_readAsk 52 = .ok (.aload_n 0, 1) := by decide +kernel
theorem dX3_readAsk_53 : decode cX3_readAsk 53 = .ok (.getfield 22, 3) := by decide +kernel
theorem dX3_readAsk_56 : decode cX3_readAsk 56 = .ok (.aload_n 0, 1) := by decide +kernel
theorem dX3_readAsk_57 : decode cX3_readAsk 57 = .ok (.getfield 52, 3) := by decide +kernel
theorem dX3_readAsk_60 : decode cX3_readAsk 60 = .ok (.iaload, 1) := by decide +kernel
theorem dX3_readAsk_61 : decode cX3_readAsk 61 = .ok (.istore_n 2, 1) := by decide +kernel
theorem dX3_readAsk_62 : decode cX3_readAsk 62 = .ok (.aload_n 0, 1) := by decide +kernel
theorem dX3_readAsk_63 : decode cX3_readAsk 63 = .ok (.iload_n 2, 1) := by decide +kernel
theorem dX3_readAsk_64 : decode cX3_readAsk 64 = .ok (.bipush 10, 2) := by decide +kernel
theorem dX3_readAsk_66 : decode cX3_readAsk 66 = .ok (.if_icmp .lt 13, 3) := by decide +kernel
theorem dX3_readAsk_69 : decode cX3_readAsk 69 = .ok (.iload_n 2, 1) := by decide +kernel
theorem dX3_readAsk_70 : decode cX3_readAsk 70 = .ok (.bipush 15, 2) := by decide +kernel
theorem dX3_readAsk_72 : decode cX3_readAsk 72 = .ok (.if_icmp .gt 7, 3) := by decide +kernel
theorem dX3_readAsk_75 : decode cX3_readAsk 75 = .ok (.iconst 1, 1) := by decide +kernel
theorem dX3_readAsk_76 : decode cX3_readAsk 76 = .ok (.goto 4, 3) := by decide +kernel
theorem dX3_readAsk_79 : decode cX3_readAsk 79 = .ok (.iconst 0, 1) := by decide +kernel
theorem dX3_readAsk_80 : decode cX3_readAsk 80 = .ok (.iconst 1, 1) := by decide +kernel
theorem dX3_readAsk_81 : decode cX3_readAsk 81 = .ok (.invokevirtual 125, 3) := by decide +kernel
theorem dX3_readAsk_84 : decode cX3_readAsk 84 = .ok (.ifCond .eq 14, 3) := by decide +kernel
theorem dX3_readAsk_87 : decode cX3_readAsk 87 = .ok (.aload_n 0, 1) := by decide +kernel
theorem dX3_readAsk_88 : decode cX3_readAsk 88 = .ok (.iload_n 1, 1) := by decide +kernel
theorem dX3_readAsk_89 : decode cX3_readAsk 89 = .ok (.invokevirtual 133, 3) := by decide +kernel
theorem dX3_readAsk_92 : decode cX3_readAsk 92 = .ok (.aload_n 0, 1) := by decide +kernel
theorem dX3_readAsk_93 : decode cX3_readAsk 93 = .ok (.iload_n 2, 1) := by decide +kernel
theorem dX3_readAsk_94 : decode cX3_readAsk 94 = .ok (.ineg, 1) := by decide +kernel
theorem dX3_readAsk_95 : decode cX3_readAsk 95 = .ok (.invokevirtual 157, 3) := by decide +kernel
theorem dX3_readAsk_98 : decode cX3_readAsk 98 = .ok (.return_, 1) := by decide +kernel
theorem dX3_readSum_0 : decode cX3_readSum 0 = .ok (.iconst 0, 1) := by decide +kernel
theorem dX3_readSum_1 : decode cX3_readSum 1 = .ok (.istore_n 2, 1) := by decide +kernel
theorem dX3_readSum_2 : decode cX3_readSum 2 = .ok (.aload_n 0, 1) := by decide +kernel
theorem dX3_readSum_3 : decode cX3_readSum 3 = .ok (.iload_n 1, 1) := by decide +kernel
theorem dX3_readSum_4 : decode cX3_readSum 4 = .ok (.invokevirtual 160, 3) := by decide +kernel
theorem dX3_readSum_7 : decode cX3_readSum 7 = .ok (.iconst 0, 1) := by decide +kernel
theorem dX3_readSum_8 : decode cX3_readSum 8 = .ok (.istore_n 3, 1) := by decide +kernel
theorem dX3_readSum_9 : decode cX3_readSum 9 = .ok (.iload_n 3, 1) := by decide +kernel
theorem dX3_readSum_10 : decode cX3_readSum 10 = .ok (.sipush 300, 3) := by decide +kernel
theorem dX3_readSum_13 : decode cX3_readSum 13 = .ok (.if_icmp .ge 118, 3) := by decide +kernel
theorem dX3_readSum_16 : decode cX3_readSum 16 = .ok (.aload_n 0, 1) := by decide +kernel
theorem dX3_readSum_17 : decode cX3_readSum 17 = .ok (.getfield 15, 3) := by decide +kernel
theorem dX3_readSum_20 : decode cX3_readSum 20 = .ok (.ifCond .ne 111, 3) := by decide +kernel
theorem dX3_readSum_23 : decode cX3_readSum 23 = .ok (.aload_n 0, 1) := by decide +kernel
theorem dX3_readSum_24 : decode cX3_readSum 24 = .ok (.getfield 22, 3) := by decide +kernel
theorem dX3_readSum_27 : decode cX3_readSum 27 = .ok (.aload_n 0, 1) := by decide +kernel
theorem dX3_readSum_28 : decode cX3_readSum 28 = .ok (.getfield 52, 3) := by decide +kernel
theorem dX3_readSum_31 : decode cX3_readSum 31 = .ok (.iaload, 1) := by decide +kernel
theorem dX3_readSum_32 : decode cX3_readSum 32 = .ok (.bipush 6, 2) := by decide +kernel
theorem dX3_readSum_34 : decode cX3_readSum 34 = .ok (.if_icmp .lt 97, 3) := by decide +kernel
theorem dX3_readSum_37 : decode cX3_readSum 37 = .ok (.aload_n 0, 1) := by decide +kernel
theorem dX3_readSum_38 : decode cX3_readSum 38 = .ok (.getfield 22, 3) := by decide +kernel
theorem dX3_readSum_41 : decode cX3_readSum 41 = .ok (.aload_n 0, 1) := by decide +kernel
theorem dX3_readSum_42 : decode cX3_readSum 42 = .ok (.getfield 52, 3) := by decide +kernel
theorem dX3_readSum_45 : decode cX3_readSum 45 = .ok (.iaload, 1) := by decide +kernel
theorem dX3_readSum_46 : decode cX3_readSum 46 = .ok (.bipush 9, 2) := by decide +kernel
theorem dX3_readSum_48 : decode cX3_readSum 48 = .ok (.if_icmp .gt 83, 3) := by decide +kernel
theorem dX3_readSum_51 : decode cX3_readSum 51 = .ok (.aload_n 0, 1) := by decide +kernel
theorem dX3_readSum_52 : decode cX3_readSum 52 = .ok (.getfield 22, 3) := by decide +kernel
theorem dX3_readSum_55 : decode cX3_readSum 55 = .ok (.aload_n 0, 1) := by decide +kernel
theorem dX3_readSum_56 : decode cX3_readSum 56 = .ok (.getfield 52, 3) := by decide +kernel
theorem dX3_readSum_59 : decode cX3_readSum 59 = .ok (.iaload, 1) := by decide +kernel
theorem dX3_readSum_60 : decode cX3_readSum 60 = .ok (.istore 4, 2) := by decide +kernel
theorem dX3_readSum_62 : decode cX3_readSum 62 = .ok (.aload_n 0, 1) := by decide +kernel
theorem dX3_readSum_63 : decode cX3_readSum 63 = .ok (.iconst 1, 1) := by decide +kernel
theorem dX3_readSum_64 : decode cX3_readSum 64 = .ok (.iconst 1, 1) := by decide +kernel
theorem dX3_readSum_65 : decode cX3_readSum 65 = .ok (.invokevirtual 125, 3) := by decide +kernel
theorem dX3_readSum_68 : decode cX3_readSum 68 = .ok (.pop, 1) := by decide +kernel
theorem dX3_readSum_69 : decode cX3_readSum 69 = .ok (.iload 4, 2) := by decide +kernel
theorem dX3_readSum_71 : decode cX3_readSum 71 = .ok (.bipush 8, 2) := by decide +kernel
theorem dX3_readSum_73 : decode cX3_readSum 73 = .ok (.if_icmp .eq 10, 3) := by decide +kernel
theorem dX3_readSum_76 : decode cX3_readSum 76 = .ok (.iload 4, 2) := by decide +kernel
theorem dX3_readSum_78 : decode cX3_readSum 78 = .ok (.bipush 9, 2) := by decide +kernel
theorem dX3_readSum_80 : decode cX3_readSum 80 = .ok (.if_icmp .ne 7, 3) := by decide +kernel
theorem dX3_readSum_83 : decode cX3_readSum 83 = .ok (.iconst 1, 1) := by decide +kernel
theorem dX3_readSum_84 : decode cX3_readSum 84 = .ok (.goto 4, 3) := by decide +kernel
theorem dX3_readSum_87 : decode cX3_readSum 87 = .ok (.iconst 0, 1) := by decide +kernel
theorem dX3_readSum_88 : decode cX3_readSum 88 = .ok (.istore 5, 2) := by decide +kernel
theorem dX3_readSum_90 : decode cX3_readSum 90 = .ok (.iload 5, 2) := by decide +kernel
theorem dX3_readSum_92 : decode cX3_readSum 92 = .ok (.ifCond .ne 16, 3) := by decide +kernel
theorem dX3_readSum_95 : decode cX3_readSum 95 = .ok (.iload_n 2, 1) := by decide +kernel
theorem dX3_readSum_96 : decode cX3_readSum 96 = .ok (.ifCond .eq 9, 3) := by decide +kernel
theorem dX3_readSum_99 : decode cX3_readSum 99 = .ok (.aload_n 0, 1) := by decide +kernel
theorem dX3_readSum_100 : decode cX3_readSum 100 = .ok (.iload_n 2, 1) := by decide +kernel
theorem dX3_readSum_101 : decode cX3_readSum 101 = .ok (.ineg, 1) := by decide +kernel
theorem dX3_readSum_102 : decode cX3_readSum 102 = .ok (.invokevirtual 157, 3) := by decide +kernel
theorem dX3_readSum_105 : decode cX3_readSum 105 = .ok (.iload 4, 2) := by decide +kernel
theorem dX3_readSum_107 : decode cX3_readSum 107 = .ok (.istore_n 2, 1) := by decide +kernel
theorem dX3_readSum_108 : decode cX3_readSum 108 = .ok (.aload_n 0, 1) := by decide +kernel
theorem dX3_readSum_109 : decode cX3_readSum 109 = .ok (.iload_n 1, 1) := by decide +kernel
theorem dX3_readSum_110 : decode cX3_readSum 110 = .ok (.invokevirtual 160, 3) := by decide +kernel
theorem dX3_readSum_113 : decode cX3_readSum 113 = .ok (.iload 5, 2) := by decide +kernel
theorem dX3_readSum_115 : decode cX3_readSum 115 = .ok (.ifCond .eq 10, 3) := by decide +kernel
theorem dX3_readSum_118 : decode cX3_readSum 118 = .ok (.aload_n 0, 1) := by decide +kernel
theorem dX3_readSum_119 : decode cX3_readSum 119 = .ok (.iload 4, 2) := by decide +kernel
theorem dX3_readSum_121 : decode cX3_readSum 121 = .ok (.ineg, 1) := by decide +kernel
theorem dX3_readSum_122 : decode cX3_readSum 122 = .ok (.invokevirtual 157, 3) := by decide +kernel
theorem dX3_readSum_125 : decode cX3_readSum 125 = .ok (.iinc 3 1, 3) := by decide +kernel
theorem dX3_readSum_128 : decode cX3_readSum 128 = .ok (.goto (-119), 3) := by decide +kernel
theorem dX3_readSum_131 : decode cX3_readSum 131 = .ok (.iload_n 2, 1) := by decide +kernel
theorem dX3_readSum_132 : decode cX3_readSum 132 = .ok (.ifCond .eq 9, 3) := by decide +kernel
theorem dX3_readSum_135 : decode cX3_readSum 135 = .ok (.aload_n 0, 1) := by decide +kernel
theorem dX3_readSum_136 : decode cX3_readSum 136 = .ok (.iload_n 2, 1) := by decide +kernel
theorem dX3_readSum_137 : decode cX3_readSum 137 = .ok (.ineg, 1) := by decide +kernel
theorem dX3_readSum_138 : decode cX3_readSum 138 = .ok (.invokevirtual 157, 3) := by decide +kernel
theorem dX3_readSum_141 : decode cX3_readSum 141 = .ok (.return_, 1) := by decide +kernel
theorem dX3_readOne_0 : decode cX3_readOne 0 = .ok (.aload_n 0, 1) := by decide +kernel
theorem dX3_readOne_1 : decode cX3_readOne 1 = .ok (.getfield 22, 3) := by decide +kernel
theorem dX3_readOne_4 : decode cX3_readOne 4 = .ok (.aload_n 0, 1) := by decide +kernel
theorem dX3_readOne_5 : decode cX3_readOne 5 = .ok (.getfield 52, 3) := by decide +kernel
theorem dX3_readOne_8 : decode cX3_readOne 8 = .ok (.iaload, 1) := by decide +kernel
theorem dX3_readOne_9 : decode cX3_readOne 9 = .ok (.istore_n 2, 1) := by decide +kernel
theorem dX3_readOne_10 : decode cX3_readOne 10 = .ok (.aload_n 0, 1) := by decide +kernel
theorem dX3_readOne_11 : decode cX3_readOne 11 = .ok (.getfield 28, 3) := by decide +kernel
theorem dX3_readOne_14 : decode cX3_readOne 14 = .ok (.aload_n 0, 1) := by decide +kernel
theorem dX3_readOne_15 : decode cX3_readOne 15 = .ok (.getfield 52, 3) := by decide +kernel
theorem dX3_readOne_18 : decode cX3_readOne 18 = .ok (.iaload, 1) := by decide +kernel
theorem dX3_readOne_19 : decode cX3_readOne 19 = .ok (.istore_n 3, 1) := by decide +kernel
theorem dX3_readOne_20 : decode cX3_readOne 20 = .ok (.iload_n 2, 1) := by decide +kernel
theorem dX3_readOne_21 : decode cX3_readOne 21 = .ok (.iconst 2, 1) := by decide +kernel
theorem dX3_readOne_22 : decode cX3_readOne 22 = .ok (.if_icmp .ne 29, 3) := by decide +kernel
theorem dX3_readOne_25 : decode cX3_readOne 25 = .ok (.aload_n 0, 1) := by decide +kernel
theorem dX3_readOne_26 : decode cX3_readOne 26 = .ok (.iload_n 3, 1) := by decide +kernel
theorem dX3_readOne_27 : decode cX3_readOne 27 = .ok (.sipush 9999, 3) := by decide +kernel
theorem dX3_readOne_30 : decode cX3_readOne 30 = .ok (.if_icmp .gt 7, 3) := by decide +kernel
theorem dX3_readOne_33 : decode cX3_readOne 33 = .ok (.iconst 1, 1) := by decide +kernel
theorem dX3_readOne_34 : decode cX3_readOne 34 = .ok (.goto 4, 3) := by decide +kernel
theorem dX3_readOne_37 : decode cX3_readOne 37 = .ok (.iconst 0, 1) := by decide +kernel
theorem dX3_readOne_38 : decode cX3_readOne 38 = .ok (.iconst 2, 1) := by decide +kernel
theorem dX3_readOne_39 : decode cX3_readOne 39 = .ok (.invokevirtual 125, 3) := by decide +kernel
theorem dX3_readOne_42 : decode cX3_readOne 42 = .ok (.pop, 1) := by decide +kernel
theorem dX3_readOne_43 : decode cX3_readOne 43 = .ok (.aload_n 0, 1) := by decide +kernel
theorem dX3_readOne_44 : decode cX3_readOne 44 = .ok (.iload_n 3, 1) := by decide +kernel
theorem dX3_readOne_45 : decode cX3_readOne 45 = .ok (.invokevirtual 157, 3) := by decide +kernel
theorem dX3_readOne_48 : decode cX3_readOne 48 = .ok (.goto 148, 3) := by decide +kernel
theorem dX3_readOne_51 : decode cX3_readOne 51 = .ok (.iload_n 2, 1) := by decide +kernel
theorem dX3_readOne_52 : decode cX3_readOne 52 = .ok (.bipush 32, 2) := by decide +kernel
theorem dX3_readOne_54 : decode cX3_readOne 54 = .ok (.if_icmp .lt 36, 3) := by decide +kernel
theorem dX3_readOne_57 : decode cX3_readOne 57 = .ok (.aload_n 0, 1) := by decide +kernel
theorem dX3_readOne_58 : decode cX3_readOne 58 = .ok (.iload_n 2, 1) := by decide +kernel
theorem dX3_readOne_59 : decode cX3_readOne 59 = .ok (.bipush 37, 2) := by decide +kernel
theorem dX3_readOne_61 : decode cX3_readOne 61 = .ok (.if_icmp .lt 10, 3) := by decide +kernel
theorem dX3_readOne_64 : decode cX3_readOne 64 = .ok (.aload_n 0, 1) := by decide +kernel
theorem dX3_readOne_65 : decode cX3_readOne 65 = .ok (.getfield 129, 3) := by decide +kernel
theorem dX3_readOne_68 : decode cX3_readOne 68 = .ok (.ifCond .eq 7, 3) := by decide +kernel
theorem dX3_readOne_71 : decode cX3_readOne 71 = .ok (.iconst 1, 1) := by decide +kernel
theorem dX3_readOne_72 : decode cX3_readOne 72 = .ok (.goto 4, 3) := by decide +kernel
theorem dX3_readOne_75 : decode cX3_readOne 75 = .ok (.iconst 0, 1) := by decide +kernel
theorem dX3_readOne_76 : decode cX3_readOne 76 = .ok (.iconst 5, 1) := by decide +kernel
theorem dX3_readOne_77 : decode cX3_readOne 77 = .ok (.invokevirtual 125, 3) := by decide +kernel
theorem dX3_readOne_80 : decode cX3_readOne 80 = .ok (.pop, 1) := by decide +kernel
theorem dX3_readOne_81 : decode cX3_readOne 81 = .ok (.aload_n 0, 1) := by decide +kernel
theorem dX3_readOne_82 : decode cX3_readOne 82 = .ok (.iload_n 2, 1) := by decide +kernel
theorem dX3_readOne_83 : decode cX3_readOne 83 = .ok (.ineg, 1) := by decide +kernel
theorem dX3_readOne_84 : decode cX3_readOne 84 = .ok (.invokevirtual 157, 3) := by decide +kernel
theorem dX3_readOne_87 : decode cX3_readOne 87 = .ok (.goto 109, 3) := by decide +kernel
theorem dX3_readOne_90 : decode cX3_readOne 90 = .ok (.iload_n 2, 1) := by decide +kernel
theorem dX3_readOne_91 : decode cX3_readOne 91 = .ok (.iconst 4, 1) := by decide +kernel
theorem dX3_readOne_92 : decode cX3_readOne 92 = .ok (.if_icmp .ne 56, 3) := by decide +kernel
theorem dX3_readOne_95 : decode cX3_readOne 95 = .ok (.aload_n 0, 1) := by decide +kernel
theorem dX3_readOne_96 : decode cX3_readOne 96 = .ok (.iload_n 1, 1) := by decide +kernel
theorem dX3_readOne_97 : decode cX3_readOne 97 = .ok (.bipush 8, 2) := by decide +kernel
theorem dX3_readOne_99 : decode cX3_readOne 99 = .ok (.if_icmp .ge 7, 3) := by decide +kernel
theorem dX3_readOne_102 : decode cX3_readOne 102 = .ok (.iconst 1, 1) := by decide +kernel
theorem dX3_readOne_103 : decode cX3_readOne 103 = .ok (.goto 4, 3) := by decide +kernel
theorem dX3_readOne_106 : decode cX3_readOne 106 = .ok (.iconst 0, 1) := by decide +kernel
theorem dX3_readOne_107 : decode cX3_readOne 107 = .ok (.iconst 3, 1) := by decide +kernel
theorem dX3_readOne_108 : decode cX3_readOne 108 = .ok (.invokevirtual 125, 3) := by decide +kernel
theorem dX3_readOne_111 : decode cX3_readOne 111 = .ok (.ifCond .eq 85, 3) := by decide +kernel
theorem dX3_readOne_114 : decode cX3_readOne 114 = .ok (.aload_n 0, 1) := by decide +kernel
theorem dX3_readOne_115 : decode cX3_readOne 115 = .ok (.iload_n 1, 1) := by decide +kernel
theorem dX3_readOne_116 : decode cX3_readOne 116 = .ok (.iconst 1, 1) := by decide +kernel
theorem dX3_readOne_117 : decode cX3_readOne 117 = .ok (.iadd, 1) := by decide +kernel
theorem dX3_readOne_118 : decode cX3_readOne 118 = .ok (.invokevirtual 133, 3) := by decide +kernel
theorem dX3_readOne_121 : decode cX3_readOne 121 = .ok (.aload_n 0, 1) := by decide +kernel
theorem dX3_readOne_122 : decode cX3_readOne 122 = .ok (.aload_n 0, 1) := by decide +kernel
theorem dX3_readOne_123 : decode cX3_readOne 123 = .ok (.getfield 22, 3) := by decide +kernel
theorem dX3_readOne_126 : decode cX3_readOne 126 = .ok (.aload_n 0, 1) := by decide +kernel
theorem dX3_readOne_127 : decode cX3_readOne 127 = .ok (.getfield 52, 3) := by decide +kernel
theorem dX3_readOne_130 : decode cX3_readOne 130 = .ok (.iaload, 1) := by decide +kernel
theorem dX3_readOne_131 : decode cX3_readOne 131 = .ok (.iconst 5, 1) := by decide +kernel
theorem dX3_readOne_132 : decode cX3_readOne 132 = .ok (.if_icmp .ne 7, 3) := by decide +kernel
theorem dX3_readOne_135 : decode cX3_readOne 135 = .ok (.iconst 1, 1) := by decide +kernel
theorem dX3_readOne_136 : decode cX3_readOne 136 = .ok (.goto 4, 3) := by decide +kernel
theorem dX3_readOne_139 : decode cX3_readOne 139 = .ok (.iconst 0, 1) := by decide +kernel
theorem dX3_readOne_140 : decode cX3_readOne 140 = .ok (.iconst 1, 1) := by decide +kernel
theorem dX3_readOne_141 : decode cX3_readOne 141 = .ok (.invokevirtual 125, 3) := by decide +kernel
theorem dX3_readOne_144 : decode cX3_readOne 144 = .ok (.pop, 1) := by decide +kernel
theorem dX3_readOne_145 : decode cX3_readOne 145 = .ok (.goto 51, 3) := by decide +kernel
theorem dX3_readOne_148 : decode cX3_readOne 148 = .ok (.iload_n 2, 1) := by decide +kernel
theorem dX3_readOne_149 : decode cX3_readOne 149 = .ok (.bipush 7, 2) := by decide +kernel
theorem dX3_readOne_151 : decode cX3_readOne 151 = .ok (.if_icmp .ne 38, 3) := by decide +kernel
theorem dX3_readOne_154 : decode cX3_readOne 154 = .ok (.aload_n 0, 1) := by decide +kernel
theorem dX3_readOne_155 : decode cX3_readOne 155 = .ok (.iload_n 1, 1) := by decide +kernel
theorem dX3_readOne_156 : decode cX3_readOne 156 = .ok (.bipush 8, 2) := by decide +kernel
theorem dX3_readOne_158 : decode cX3_readOne 158 = .ok (.if_icmp .ge 7, 3) := by decide +kernel
theorem dX3_readOne_161 : decode cX3_readOne 161 = .ok (.iconst 1, 1) := by decide +kernel
theorem dX3_readOne_162 : decode cX3_readOne 162 = .ok (.goto 4, 3) := by decide +kernel
theorem dX3_readOne_165 : decode cX3_readOne 165 = .ok (.iconst 0, 1) := by decide +kernel
theorem dX3_readOne_166 : decode cX3_readOne 166 = .ok (.iconst 3, 1) := by decide +kernel
theorem dX3_readOne_167 : decode cX3_readOne 167 = .ok (.invokevirtual 125, 3) := by decide +kernel
theorem dX3_readOne_170 : decode cX3_readOne 170 = .ok (.ifCond .eq 26, 3) := by decide +kernel
theorem dX3_readOne_173 : decode cX3_readOne 173 = .ok (.aload_n 0, 1) := by decide +kernel
theorem dX3_readOne_174 : decode cX3_readOne 174 = .ok (.iload_n 1, 1) := by decide +kernel
theorem dX3_readOne_175 : decode cX3_readOne 175 = .ok (.iconst 1, 1) := by decide +kernel
theorem dX3_readOne_176 : decode cX3_readOne 176 = .ok (.iadd, 1) := by decide +kernel
theorem dX3_readOne_177 : decode cX3_readOne 177 = .ok (.invokevirtual 160, 3) := by decide +kernel
theorem dX3_readOne_180 : decode cX3_readOne 180 = .ok (.aload_n 0, 1) := by decide +kernel
theorem dX3_readOne_181 : decode cX3_readOne 181 = .ok (.bipush (-40), 2) := by decide +kernel
theorem dX3_readOne_183 : decode cX3_readOne 183 = .ok (.invokevirtual 157, 3) := by decide +kernel
theorem dX3_readOne_186 : decode cX3_readOne 186 = .ok (.goto 10, 3) := by decide +kernel
theorem dX3_readOne_189 : decode cX3_readOne 189 = .ok (.aload_n 0, 1) := by decide +kernel
theorem dX3_readOne_190 : decode cX3_readOne 190 = .ok (.iconst 0, 1) := by decide +kernel
theorem dX3_readOne_191 : decode cX3_readOne 191 = .ok (.iconst 1, 1) := by decide +kernel
theorem dX3_readOne_192 : decode cX3_readOne 192 = .ok (.invokevirtual 125, 3) := by decide +kernel
theorem dX3_readOne_195 : decode cX3_readOne 195 = .ok (.pop, 1) := by decide +kernel
theorem dX3_readOne_196 : decode cX3_readOne 196 = .ok (.return_, 1) := by decide +kernel
theorem dX4_init_0 : decode cX4_init 0 = .ok (.aload_n 0, 1) := by decide +kernel
theorem dX4_init_1 : decode cX4_init 1 = .ok (.invokespecial 3, 3) := by decide +kernel
theorem dX4_init_4 : decode cX4_init 4 = .ok (.aload_n 0, 1) := by decide +kernel
theorem dX4_init_5 : decode cX4_init 5 = .ok (.bipush 8, 2) := by decide +kernel
theorem dX4_init_7 : decode cX4_init 7 = .ok (.newarray .int, 2) := by decide +kernel
theorem dX4_init_9 : decode cX4_init 9 = .ok (.putfield 9, 3) := by decide +kernel
theorem dX4_init_12 : decode cX4_init 12 = .ok (.aload_n 0, 1) := by decide +kernel
theorem dX4_init_13 : decode cX4_init 13 = .ok (.bipush 8, 2) := by decide +kernel
theorem dX4_init_15 : decode cX4_init 15 = .ok (.newarray .int, 2) := by decide +kernel
theorem dX4_init_17 : decode cX4_init 17 = .ok (.putfield 15, 3) := by decide +kernel
theorem dX4_init_20 : decode cX4_init 20 = .ok (.aload_n 0, 1) := by decide +kernel
theorem dX4_init_21 : decode cX4_init 21 = .ok (.bipush 64, 2) := by decide +kernel
theorem dX4_init_23 : decode cX4_init 23 = .ok (.newarray .int, 2) := by decide +kernel
theorem dX4_init_25 : decode cX4_init 25 = .ok (.putfield 18, 3) := by decide +kernel
theorem dX4_init_28 : decode cX4_init 28 = .ok (.aload_n 0, 1) := by decide +kernel
theorem dX4_init_29 : decode cX4_init 29 = .ok (.sipush 1024, 3) := by decide +kernel
theorem dX4_init_32 : decode cX4_init 32 = .ok (.newarray .int, 2) := by decide +kernel
theorem dX4_init_34 : decode cX4_init 34 = .ok (.putfield 21, 3) := by decide +kernel
theorem dX4_init_37 : decode cX4_init 37 = .ok (.aload_n 0, 1) := by decide +kernel
theorem dX4_init_38 : decode cX4_init 38 = .ok (.iconst (-1), 1) := by decide +kernel
theorem dX4_init_39 : decode cX4_init 39 = .ok (.putfield 24, 3) := by decide +kernel
theorem dX4_init_42 : decode cX4_init 42 = .ok (.aload_n 0, 1) := by decide +kernel
theorem dX4_init_43 : decode cX4_init 43 = .ok (.aload_n 1, 1) := by decide +kernel
theorem dX4_init_44 : decode cX4_init 44 = .ok (.putfield 28, 3) := by decide +kernel
theorem dX4_init_47 : decode cX4_init 47 = .ok (.return_, 1) := by decide +kernel
theorem dX4_plan_0 : decode cX4_plan 0 = .ok (.iload_n 1, 1) := by decide +kernel
theorem dX4_plan_1 : decode cX4_plan 1 = .ok (.ifCond .eq 12, 3) := by decide +kernel
theorem dX4_plan_4 : decode cX4_plan 4 = .ok (.iload_n 1, 1) := by decide +kernel
theorem dX4_plan_5 : decode cX4_plan 5 = .ok (.invokestatic 32, 3) := by decide +kernel
theorem dX4_plan_8 : decode cX4_plan 8 = .ok (.bipush 8, 2) := by decide +kernel
theorem dX4_plan_10 : decode cX4_plan 10 = .ok (.if_icmp .le 5, 3) := by decide +kernel
theorem dX4_plan_13 : decode cX4_plan 13 = .ok (.iconst 0, 1) := by decide +kernel
theorem dX4_plan_14 : decode cX4_plan 14 = .ok (.ireturn, 1) := by decide +kernel
theorem dX4_plan_15 : decode cX4_plan 15 = .ok (.iload_n 1, 1) := by decide +kernel
theorem dX4_plan_16 : decode cX4_plan 16 = .ok (.aload_n 0, 1) := by decide +kernel
theorem dX4_plan_17 : decode cX4_plan 17 = .ok (.getfield 24, 3) := by decide +kernel
theorem dX4_plan_20 : decode cX4_plan 20 = .ok (.if_icmp .ne 17, 3) := by decide +kernel
theorem dX4_plan_23 : decode cX4_plan 23 = .ok (.aload_n 0, 1) := by decide +kernel
theorem dX4_plan_24 : decode cX4_plan 24 = .ok (.getfield 38, 3) := by decide +kernel
theorem dX4_plan_27 : decode cX4_plan 27 = .ok (.aload_n 0, 1) := by decide +kernel
theorem dX4_plan_28 : decode cX4_plan 28 = .ok (.getfield 28, 3) := by decide +kernel
theorem dX4_plan_31 : decode cX4_plan 31 = .ok (.getfield 41, 3) := by decide +kernel
theorem dX4_plan_34 : decode cX4_plan 34 = .ok (.if_icmp .eq 31, 3) := by decide +kernel
theorem dX4_plan_37 : decode cX4_plan 37 = .ok (.aload_n 0, 1) := by decide +kernel
theorem dX4_plan_38 : decode cX4_plan 38 = .ok (.iload_n 1, 1) := by decide +kernel
theorem dX4_plan_39 : decode cX4_plan 39 = .ok (.putfield 24, 3) := by decide +kernel
theorem dX4_plan_42 : decode cX4_plan 42 = .ok (.aload_n 0, 1) := by decide +kernel
theorem dX4_plan_43 : decode cX4_plan 43 = .ok (.aload_n 0, 1) := by decide +kernel
theorem dX4_plan_44 : decode cX4_plan 44 = .ok (.getfield 28, 3) := by decide +kernel
theorem dX4_plan_47 : decode cX4_plan 47 = .ok (.getfield 41, 3) := by decide +kernel
theorem dX4_plan_50 : decode cX4_plan 50 = .ok (.putfield 38, 3) := by decide +kernel
theorem dX4_plan_53 : decode cX4_plan 53 = .ok (.aload_n 0, 1) := by decide +kernel
theorem dX4_plan_54 : decode cX4_plan 54 = .ok (.invokevirtual 44, 3) := by decide +kernel
theorem dX4_plan_57 : decode cX4_plan 57 = .ok (.aload_n 0, 1) := by decide +kernel
theorem dX4_plan_58 : decode cX4_plan 58 = .ok (.invokevirtual 47, 3) := by decide +kernel
theorem dX4_plan_61 : decode cX4_plan 61 = .ok (.aload_n 0, 1) := by decide +kernel
theorem dX4_plan_62 : decode cX4_plan 62 = .ok (.invokevirtual 50, 3) := by decide +kernel
theorem dX4_plan_65 : decode cX4_plan 65 = .ok (.iconst 1, 1) := by decide +kernel
theorem dX4_plan_66 : decode cX4_plan 66 = .ok (.ireturn, 1) := by decide +kernel
theorem dX4_townAt_0 : decode cX4_townAt 0 = .ok (.iload_n 1, 1) := by decide +kernel
theorem dX4_townAt_1 : decode cX4_townAt 1 = .ok (.ifCond .lt 20, 3) := by decide +kernel
theorem dX4_townAt_4 : decode cX4_townAt 4 = .ok (.iload_n 1, 1) := by decide +kernel
theorem dX4_townAt_5 : decode cX4_townAt 5 = .ok (.aload_n 0, 1) := by decide +kernel
theorem dX4_townAt_6 : decode cX4_townAt 6 = .ok (.getfield 53, 3) := by decide +kernel
theorem dX4_townAt_9 : decode cX4_townAt 9 = .ok (.if_icmp .ge 12, 3) := by decide +kernel
theorem dX4_townAt_12 : decode cX4_townAt 12 = .ok (.aload_n 0, 1) := by decide +kernel
theorem dX4_townAt_13 : decode cX4_townAt 13 = .ok (.getfield 15, 3) := by decide +kernel
theorem dX4_townAt_16 : decode cX4_townAt 16 = .ok (.iload_n 1, 1) := by decide +kernel
theorem dX4_townAt_17 : decode cX4_townAt 17 = .ok (.iaload, 1) := by decide +kernel
theorem dX4_townAt_18 : decode cX4_townAt 18 = .ok (.goto 4, 3) := by decide +kernel
theorem dX4_townAt_21 : decode cX4_townAt 21 = .ok (.iconst (-1), 1) := by decide +kernel
theorem dX4_townAt_22 : decode cX4_townAt 22 = .ok (.ireturn, 1) := by decide +kernel
theorem dX4_gather_0 : decode cX4_gather 0 = .ok (.aload_n 0, 1) := by decide +kernel
theorem dX4_gather_1 : decode cX4_gather 1 = .ok (.iconst 0, 1) := by decide +kernel
theorem dX4_gather_2 : decode cX4_gather 2 = .ok (.putfield 53, 3) := by decide +kernel
theorem dX4_gather_5 : decode cX4_gather 5 = .ok (.iconst 0, 1) := by decide +kernel
theorem dX4_gather_6 : decode cX4_gather 6 = .ok (.istore_n 1, 1) := by decide +kernel
theorem dX4_gather_7 : decode cX4_gather 7 = .ok (.iload_n 1, 1) := by decide +kernel
theorem dX4_gather_8 : decode cX4_gather 8 = .ok (.aload_n 0, 1) := by decide +kernel
theorem dX4_gather_9 : decode cX4_gather 9 = .ok (.getfield 28, 3) := by decide +kernel
theorem dX4_gather_12 : decode cX4_gather 12 = .ok (.getfield 56, 3) := by decide +kernel
theorem dX4_gather_15 : decode cX4_gather 15 = .ok (.if_icmp .ge 49, 3) := by decide +kernel
theorem dX4_gather_18 : decode cX4_gather 18 = .ok (.aload_n 0, 1) := by decide +kernel
theorem dX4_gather_19 : decode cX4_gather 19 = .ok (.getfield 53, 3) := by decide +kernel
theorem dX4_gather_22 : decode cX4_gather 22 = .ok (.bipush 8, 2) := by decide +kernel
theorem dX4_gather_24 : decode cX4_gather 24 = .ok (.if_icmp .ge 40, 3) := by decide +kernel
theorem dX4_gather_27 : decode cX4_gather 27 = .ok (.aload_n 0, 1) := by decide +kernel
theorem dX4_gather_28 : decode cX4_gather 28 = .ok (.getfield 24, 3) := by decide +kernel
theorem dX4_gather_31 : decode cX4_gather 31 = .ok (.iload_n 1, 1) := by decide +kernel
theorem dX4_gather_32 : decode cX4_gather 32 = .ok (.ishr, 1) := by decide +kernel
theorem dX4_gather_33 : decode cX4_gather 33 = .ok (.iconst 1, 1) := by decide +kernel
theorem dX4_gather_34 : decode cX4_gather 34 = .ok (.iand, 1) := by decide +kernel
theorem dX4_gather_35 : decode cX4_gather 35 = .ok (.ifCond .eq 23, 3) := by decide +kernel
theorem dX4_gather_38 : decode cX4_gather 38 = .ok (.aload_n 0, 1) := by decide +kernel
theorem dX4_gather_39 : decode cX4_gather 39 = .ok (.getfield 9, 3) := by decide +kernel
theorem dX4_gather_42 : decode cX4_gather 42 = .ok (.aload_n 0, 1) := by decide +kernel
theorem dX4_gather_43 : decode cX4_gather 43 = .ok (.getfield 53, 3) := by decide +kernel
theorem dX4_gather_46 : decode cX4_gather 46 = .ok (.iload_n 1, 1) := by decide +kernel
theorem dX4_gather_47 : decode cX4_gather 47 = .ok (.iastore, 1) := by decide +kernel
theorem dX4_gather_48 : decode cX4_gather 48 = .ok (.aload_n 0, 1) := by decide +kernel
theorem dX4_gather_49 : decode cX4_gather 49 = .ok (.dup, 1) := by decide +kernel
theorem dX4_gather_50 : decode cX4_gather 50 = .ok (.getfield 53, 3) := by decide +kernel
theorem dX4_gather_53 : decode cX4_gather 53 = .ok (.iconst 1, 1) := by decide +kernel
theorem dX4_gather_54 : decode cX4_gather 54 = .ok (.iadd, 1) := by decide +kernel
theorem dX4_gather_55 : decode cX4_gather 55 = .ok (.putfield 53, 3) := by decide +kernel
theorem dX4_gather_58 : decode cX4_gather 58 = .ok (.iinc 1 1, 3) := by decide +kernel
theorem dX4_gather_61 : decode cX4_gather 61 = .ok (.goto (-54), 3) := by decide +kernel
theorem dX4_gather_64 : decode cX4_gather 64 = .ok (.iconst 0, 1) := by decide +kernel
theorem dX4_gather_65 : decode cX4_gather 65 = .ok (.istore_n 1, 1) := by decide +kernel
theorem dX4_gather_66 : decode cX4_gather 66 = .ok (.iload_n 1, 1) := by decide +kernel
theorem dX4_gather_67 : decode cX4_gather 67 = .ok (.aload_n 0, 1) := by decide +kernel
theorem dX4_gather_68 : decode cX4_gather 68 = .ok (.getfield 53, 3) := by decide +kernel
theorem dX4_gather_71 : decode cX4_gather 71 = .ok (.if_icmp .ge 55, 3) := by decide +kernel
theorem dX4_gather_74 : decode cX4_gather 74 = .ok (.iconst 0, 1) := by decide +kernel
theorem dX4_gather_75 : decode cX4_gather 75 = .ok (.istore_n 2, 1) := by decide +kernel
theorem dX4_gather_76 : decode cX4_gather 76 = .ok (.iload_n 2, 1) := by decide +kernel
theorem dX4_gather_77 : decode cX4_gather 77 = .ok (.aload_n 0, 1) := by decide +kernel
theorem dX4_gather_78 : decode cX4_gather 78 = .ok (.getfield 53, 3) := by decide +kernel
theorem dX4_gather_81 : decode cX4_gather 81 = .ok (.if_icmp .ge 39, 3) := by decide +kernel
theorem dX4_gather_84 : decode cX4_gather 84 = .ok (.aload_n 0, 1) := by decide +kernel
theorem dX4_gather_85 : decode cX4_gather 85 = .ok (.getfield 18, 3) := by decide +kernel
theorem dX4_gather_88 : decode cX4_gather 88 = .ok (.iload_n 1, 1) := by decide +kernel
theorem dX4_gather_89 : decode cX4_gather 89 = .ok (.bipush 8, 2) := by decide +kernel
theorem dX4_gather_91 : decode cX4_gather 91 = .ok (.imul, 1) := by decide +kernel
theorem dX4_gather_92 : decode cX4_gather 92 = .ok (.iload_n 2, 1) := by decide +kernel
theorem dX4_gather_93 : decode cX4_gather 93 = .ok (.iadd, 1) := by decide +kernel
theorem dX4_gather_94 : decode cX4_gather 94 = .ok (.aload_n 0, 1) := by decide +kernel
theorem dX4_gather_95 : decode cX4_gather 95 = .ok (.getfield 28, 3) := by decide +kernel
theorem dX4_gather_98 : decode cX4_gather 98 = .ok (.aload_n 0, 1) := by decide +kernel
theorem dX4_gather_99 : decode cX4_gather 99 = .ok (.getfield 9, 3) := by decide +kernel
theorem dX4_gather_102 : decode cX4_gather 102 = .ok (.iload_n 1, 1) := by decide +kernel
theorem dX4_gather_103 : decode cX4_gather 103 = .ok (.iaload, 1) := by decide +kernel
theorem dX4_gather_104 : decode cX4_gather 104 = .ok (.aload_n 0, 1) := by decide +kernel
theorem dX4_gather_105 : decode cX4_gather 105 = .ok (.getfield 9, 3) := by decide +kernel
theorem dX4_gather_108 : decode cX4_gather 108 = .ok (.iload_n 2, 1) := by decide +kernel
theorem dX4_gather_109 : decode cX4_gather 109 = .ok (.iaload, 1) := by decide +kernel
theorem dX4_gather_110 : decode cX4_gather 110 = .ok (.invokevirtual 58, 3) := by decide +kernel
theorem dX4_gather_113 : decode cX4_gather 113 = .ok (.iastore, 1) := by decide +kernel
theorem dX4_gather_114 : decode cX4_gather 114 = .ok (.iinc 2 1, 3) := by decide +kernel
theorem dX4_gather_117 : decode cX4_gather 117 = .ok (.goto (-41), 3) := by decide +kernel
theorem dX4_gather_120 : decode cX4_gather 120 = .ok (.iinc 1 1, 3) := by decide +kernel
theorem dX4_gather_123 : decode cX4_gather 123 = .ok (.goto (-57), 3) := by decide +kernel
theorem dX4_gather_126 : decode cX4_gather 126 = .ok (.return_, 1) := by decide +kernel
theorem dX4_bitOf_0 : decode cX4_bitOf 0 = .ok (.iconst 1, 1) := by decide +kernel
theorem dX4_bitOf_1 : decode cX4_bitOf 1 = .ok (.iload_n 0, 1) := by decide +kernel
theorem dX4_bitOf_2 : decode cX4_bitOf 2 = .ok (.ishl, 1) := by decide +kernel
theorem dX4_bitOf_3 : decode cX4_bitOf 3 = .ok (.iconst 1, 1) := by decide +kernel
theorem dX4_bitOf_4 : decode cX4_bitOf 4 = .ok (.ishr, 1) := by decide +kernel
theorem dX4_bitOf_5 : decode cX4_bitOf 5 = .ok (.ireturn, 1) := by decide +kernel
theorem dX4_measure_0 : decode cX4_measure 0 = .ok (.iconst 1, 1) := by decide +kernel
theorem dX4_measure_1 : decode cX4_measure 1 = .ok (.aload_n 0, 1) := by decide +kernel
theorem dX4_measure_2 : decode cX4_measure 2 = .ok (.getfield 53, 3) := by decide +kernel
theorem dX4_measure_5 : decode cX4_measure 5 = .ok (.iconst 1, 1) := by decide +kernel
theorem dX4_measure_6 : decode cX4_measure 6 = .ok (.isub, 1) := by decide +kernel
theorem dX4_measure_7 : decode cX4_measure 7 = .ok (.ishl, 1) := by decide +kernel
theorem dX4_measure_8 : decode cX4_measure 8 = .ok (.iconst 1, 1) := by decide +kernel
theorem dX4_measure_9 : decode cX4_measure 9 = .ok (.isub, 1) := by decide +kernel
theorem dX4_measure_10 : decode cX4_measure 10 = .ok (.istore_n 1, 1) := by decide +kernel
theorem dX4_measure_11 : decode cX4_measure 11 = .ok (.iconst 0, 1) := by decide +kernel
theorem dX4_measure_12 : decode cX4_measure 12 = .ok (.istore_n 2, 1) := by decide +kernel
theorem dX4_measure_13 : decode cX4_measure 13 = .ok (.iload_n 2, 1) := by decide +kernel
theorem dX4_measure_14 : decode cX4_measure 14 = .ok (.iload_n 1, 1) := by decide +kernel
theorem dX4_measure_15 : decode cX4_measure 15 = .ok (.if_icmp .gt 51, 3) := by decide +kernel
theorem dX4_measure_18 : decode cX4_measure 18 = .ok (.iconst 0, 1) := by decide +kernel
theorem dX4_measure_19 : decode cX4_measure 19 = .ok (.istore_n 3, 1) := by decide +kernel
theorem dX4_measure_20 : decode cX4_measure 20 = .ok (.iload_n 3, 1) := by decide +kernel
theorem dX4_measure_21 : decode cX4_measure 21 = .ok (.aload_n 0, 1) := by decide +kernel
theorem dX4_measure_22 : decode cX4_measure 22 = .ok (.getfield 53, 3) := by decide +kernel
theorem dX4_measure_25 : decode cX4_measure 25 = .ok (.if_icmp .ge 35, 3) := by decide +kernel
theorem dX4_measure_28 : decode cX4_measure 28 = .ok (.iload_n 2, 1) := by decide +kernel
theorem dX4_measure_29 : decode cX4_measure 29 = .ok (.iload_n 3, 1) := by decide +kernel
theorem dX4_measure_30 : decode cX4_measure 30 = .ok (.invokestatic 62, 3) := by decide +kernel
theorem dX4_measure_33 : decode cX4_measure 33 = .ok (.iand, 1) := by decide +kernel
theorem dX4_measure_34 : decode cX4_measure 34 = .ok (.ifCond .ne 20, 3) := by decide +kernel
theorem dX4_measure_37 : decode cX4_measure 37 = .ok (.aload_n 0, 1) := by decide +kernel
theorem dX4_measure_38 : decode cX4_measure 38 = .ok (.getfield 21, 3) := by decide +kernel
theorem dX4_measure_41 : decode cX4_measure 41 = .ok (.iload_n 2, 1) := by decide +kernel
theorem dX4_measure_42 : decode cX4_measure 42 = .ok (.bipush 8, 2) := by decide +kernel
theorem dX4_measure_44 : decode cX4_measure 44 = .ok (.imul, 1) := by decide +kernel
theorem dX4_measure_45 : decode cX4_measure 45 = .ok (.iload_n 3, 1) := by decide +kernel
theorem dX4_measure_46 : decode cX4_measure 46 = .ok (.iadd, 1) := by decide +kernel
theorem dX4_measure_47 : decode cX4_measure 47 = .ok (.aload_n 0, 1) := by decide +kernel
theorem dX4_measure_48 : decode cX4_measure 48 = .ok (.iload_n 2, 1) := by decide +kernel
theorem dX4_measure_49 : decode cX4_measure 49 = .ok (.iload_n 3, 1) := by decide +kernel
theorem dX4_measure_50 : decode cX4_measure 50 = .ok (.invokevirtual 65, 3) := by decide +kernel
theorem dX4_measure_53 : decode cX4_measure 53 = .ok (.iastore, 1) := by decide +kernel
theorem dX4_measure_54 : decode cX4_measure 54 = .ok (.iinc 3 1, 3) := by decide +kernel
theorem dX4_measure_57 : decode cX4_measure 57 = .ok (.goto (-37), 3) := by decide +kernel
theorem dX4_measure_60 : decode cX4_measure 60 = .ok (.iinc 2 1, 3) := by decide +kernel
theorem dX4_measure_63 : decode cX4_measure 63 = .ok (.goto (-50), 3) := by decide +kernel
theorem dX4_measure_66 : decode cX4_measure 66 = .ok (.aload_n 0, 1) := by decide +kernel
theorem dX4_measure_67 : decode cX4_measure 67 = .ok (.aload_n 0, 1) := by decide +kernel
theorem dX4_measure_68 : decode cX4_measure 68 = .ok (.getfield 21, 3) := by decide +kernel
theorem dX4_measure_71 : decode cX4_measure 71 = .ok (.iload_n 1, 1) := by decide +kernel
theorem dX4_measure_72 : decode cX4_measure 72 = .ok (.bipush 8, 2) := by decide +kernel
theorem dX4_measure_74 : decode cX4_measure 74 = .ok (.imul, 1) := by decide +kernel
theorem dX4_measure_75 : decode cX4_measure 75 = .ok (.iaload, 1) := by decide +kernel
theorem dX4_measure_76 : decode cX4_measure 76 = .ok (.putfield 68, 3) := by decide +kernel
theorem dX4_measure_79 : decode cX4_measure 79 = .ok (.return_, 1) := by decide +kernel
theorem dX4_fewestMiles_0 : decode cX4_fewestMiles 0 = .ok (.iload_n 1, 1) := by decide +kernel
theorem dX4_fewestMiles_1 : decode cX4_fewestMiles 1 = .ok (.ifCond .ne 13, 3) := by decide +kernel
theorem dX4_fewestMiles_4 : decode cX4_fewestMiles 4 = .ok (.aload_n 0, 1) := by decide +kernel
theorem dX4_fewestMiles_5 : decode cX4_fewestMiles 5 = .ok (.getfield 18, 3) := by decide +kernel
theorem dX4_fewestMiles_8 : decode cX4_fewestMiles 8 = .ok (.iload_n 2, 1) := by decide +kernel
theorem dX4_fewestMiles_9 : decode cX4_fewestMiles 9 = .ok (.bipush 8, 2) := by decide +kernel
theorem dX4_fewestMiles_11 : decode cX4_fewestMiles 11 = .ok (.imul, 1) := by decide +kernel
theorem dX4_fewestMiles_12 : decode cX4_fewestMiles 12 = .ok (.iaload, 1) := by decide +kernel
theorem dX4_fewestMiles_13 : decode cX4_fewestMiles 13 = .ok (.ireturn, 1) := by decide +kernel
theorem dX4_fewestMiles_14 : decode cX4_fewestMiles 14 = .ok (.sipush 1584, 3) := by decide +kernel
theorem dX4_fewestMiles_17 : decode cX4_fewestMiles 17 = .ok (.istore_n 3, 1) := by decide +kernel
theorem dX4_fewestMiles_18 : decode cX4_fewestMiles 18 = .ok (.iconst 1, 1) := by decide +kernel
theorem dX4_fewestMiles_19 : decode cX4_fewestMiles 19 = .ok (.istore 4, 2) := by decide +kernel
theorem dX4_fewestMiles_21 : decode cX4_fewestMiles 21 = .ok (.iload 4, 2) := by decide +kernel
theorem dX4_fewestMiles_23 : decode cX4_fewestMiles 23 = .ok (.aload_n 0, 1) := by decide +kernel
theorem dX4_fewestMiles_24 : decode cX4_fewestMiles 24 = .ok (.getfield 53, 3) := by decide +kernel
theorem dX4_fewestMiles_27 : decode cX4_fewestMiles 27 = .ok (.if_icmp .ge 32, 3) := by decide +kernel
theorem dX4_fewestMiles_30 : decode cX4_fewestMiles 30 = .ok (.iload_n 1, 1) := by decide +kernel
theorem dX4_fewestMiles_31 : decode cX4_fewestMiles 31 = .ok (.iload 4, 2) := by decide +kernel
theorem dX4_fewestMiles_33 : decode cX4_fewestMiles 33 = .ok (.invokestatic 62, 3) := by decide +kernel
theorem dX4_fewestMiles_36 : decode cX4_fewestMiles 36 = .ok (.iand, 1) := by decide +kernel
theorem dX4_fewestMiles_37 : decode cX4_fewestMiles 37 = .ok (.ifCond .eq 16, 3) := by decide +kernel
theorem dX4_fewestMiles_40 : decode cX4_fewestMiles 40 = .ok (.iload_n 3, 1) := by decide +kernel
theorem dX4_fewestMiles_41 : decode cX4_fewestMiles 41 = .ok (.aload_n 0, 1) := by decide +kernel
theorem dX4_fewestMiles_42 : decode cX4_fewestMiles 42 = .ok (.iload_n 1, 1) := by decide +kernel
theorem dX4_fewestMiles_43 : decode cX4_fewestMiles 43 = .ok (.iload_n 2, 1) := by decide +kernel
theorem dX4_fewestMiles_44 : decode cX4_fewestMiles 44 = .ok (.iload 4, 2) := by decide +kernel
theorem dX4_fewestMiles_46 : decode cX4_fewestMiles 46 = .ok (.invokevirtual 71, 3) := by decide +kernel
theorem dX4_fewestMiles_49 : decode cX4_fewestMiles 49 = .ok (.invokestatic 75, 3) := by decide +kernel
theorem dX4_fewestMiles_52 : decode cX4_fewestMiles 52 = .ok (.istore_n 3, 1) := by decide +kernel
theorem dX4_fewestMiles_53 : decode cX4_fewestMiles 53 = .ok (.iinc 4 1, 3) := by decide +kernel
theorem dX4_fewestMiles_56 : decode cX4_fewestMiles 56 = .ok (.goto (-35), 3) := by decide +kernel
theorem dX4_fewestMiles_59 : decode cX4_fewestMiles 59 = .ok (.iload_n 3, 1) := by decide +kernel
theorem dX4_fewestMiles_60 : decode cX4_fewestMiles 60 = .ok (.ireturn, 1) := by decide +kernel
theorem dX4_milesBy_0 : decode cX4_milesBy 0 = .ok (.aload_n 0, 1) := by decide +kernel
theorem dX4_milesBy_1 : decode cX4_milesBy 1 = .ok (.getfield 18, 3) := by decide +kernel
theorem dX4_milesBy_4 : decode cX4_milesBy 4 = .ok (.iload_n 2, 1) := by decide +kernel
theorem dX4_milesBy_5 : decode cX4_milesBy 5 = .ok (.bipush 8, 2) := by decide +kernel
theorem dX4_milesBy_7 : decode cX4_milesBy 7 = .ok (.imul, 1) := by decide +kernel
theorem dX4_milesBy_8 : decode cX4_milesBy 8 = .ok (.iload_n 3, 1) := by decide +kernel
theorem dX4_milesBy_9 : decode cX4_milesBy 9 = .ok (.iadd, 1) := by decide +kernel
theorem dX4_milesBy_10 : decode cX4_milesBy 10 = .ok (.iaload, 1) := by decide +kernel
theorem dX4_milesBy_11 : decode cX4_milesBy 11 = .ok (.aload_n 0, 1) := by decide +kernel
theorem dX4_milesBy_12 : decode cX4_milesBy 12 = .ok (.getfield 21, 3) := by decide +kernel
theorem dX4_milesBy_15 : decode cX4_milesBy 15 = .ok (.iload_n 1, 1) := by decide +kernel
theorem dX4_milesBy_16 : decode cX4_milesBy 16 = .ok (.iload_n 3, 1) := by decide +kernel
theorem dX4_milesBy_17 : decode cX4_milesBy 17 = .ok (.invokestatic 62, 3) := by decide +kernel
theorem dX4_milesBy_20 : decode cX4_milesBy 20 = .ok (.ixor, 1) := by decide +kernel
theorem dX4_milesBy_21 : decode cX4_milesBy 21 = .ok (.bipush 8, 2) := by decide +kernel
theorem dX4_milesBy_23 : decode cX4_milesBy 23 = .ok (.imul, 1) := by decide +kernel
theorem dX4_milesBy_24 : decode cX4_milesBy 24 = .ok (.iload_n 3, 1) := by decide +kernel
theorem dX4_milesBy_25 : decode cX4_milesBy 25 = .ok (.iadd, 1) := by decide +kernel
theorem dX4_milesBy_26 : decode cX4_milesBy 26 = .ok (.iaload, 1) := by decide +kernel
theorem dX4_milesBy_27 : decode cX4_milesBy 27 = .ok (.iadd, 1) := by decide +kernel
theorem dX4_milesBy_28 : decode cX4_milesBy 28 = .ok (.ireturn, 1) := by decide +kernel
theorem dX4_walk_0 : decode cX4_walk 0 = .ok (.iconst 1, 1) := by decide +kernel
theorem dX4_walk_1 : decode cX4_walk 1 = .ok (.aload_n 0, 1) := by decide +kernel
theorem dX4_walk_2 : decode cX4_walk 2 = .ok (.getfield 53, 3) := by decide +kernel
theorem dX4_walk_5 : decode cX4_walk 5 = .ok (.iconst 1, 1) := by decide +kernel
theorem dX4_walk_6 : decode cX4_walk 6 = .ok (.isub, 1) := by decide +kernel
theorem dX4_walk_7 : decode cX4_walk 7 = .ok (.ishl, 1) := by decide +kernel
theorem dX4_walk_8 : decode cX4_walk 8 = .ok (.iconst 1, 1) := by decide +kernel
theorem dX4_walk_9 : decode cX4_walk 9 = .ok (.isub, 1) := by decide +kernel
theorem dX4_walk_10 : decode cX4_walk 10 = .ok (.istore_n 1, 1) := by decide +kernel
theorem dX4_walk_11 : decode cX4_walk 11 = .ok (.iconst 0, 1) := by decide +kernel
theorem dX4_walk_12 : decode cX4_walk 12 = .ok (.istore_n 2, 1) := by decide +kernel
theorem dX4_walk_13 : decode cX4_walk 13 = .ok (.aload_n 0, 1) := by decide +kernel
theorem dX4_walk_14 : decode cX4_walk 14 = .ok (.getfield 15, 3) := by decide +kernel
theorem dX4_walk_17 : decode cX4_walk 17 = .ok (.iconst 0, 1) := by decide +kernel
theorem dX4_walk_18 : decode cX4_walk 18 = .ok (.aload_n 0, 1) := by decide +kernel
theorem dX4_walk_19 : decode cX4_walk 19 = .ok (.getfield 9, 3) := by decide +kernel
theorem dX4_walk_22 : decode cX4_walk 22 = .ok (.iconst 0, 1) := by decide +kernel
theorem dX4_walk_23 : decode cX4_walk 23 = .ok (.iaload, 1) := by decide +kernel
theorem dX4_walk_24 : decode cX4_walk 24 = .ok (.iastore, 1) := by decide +kernel
theorem dX4_walk_25 : decode cX4_walk 25 = .ok (.iconst 1, 1) := by decide +kernel
theorem dX4_walk_26 : decode cX4_walk 26 = .ok (.istore_n 3, 1) := by decide +kernel
theorem dX4_walk_27 : decode cX4_walk 27 = .ok (.iload_n 3, 1) := by decide +kernel
theorem dX4_walk_28 : decode cX4_walk 28 = .ok (.aload_n 0, 1) := by decide +kernel
theorem dX4_walk_29 : decode cX4_walk 29 = .ok (.getfield 53, 3) := by decide +kernel
theorem dX4_walk_32 : decode cX4_walk 32 = .ok (.if_icmp .ge 98, 3) := by decide +kernel
theorem dX4_walk_35 : decode cX4_walk 35 = .ok (.iconst 1, 1) := by decide +kernel
theorem dX4_walk_36 : decode cX4_walk 36 = .ok (.istore 4, 2) := by decide +kernel
theorem dX4_walk_38 : decode cX4_walk 38 = .ok (.iload 4, 2) := by decide +kernel
theorem dX4_walk_40 : decode cX4_walk 40 = .ok (.aload_n 0, 1) := by decide +kernel
theorem dX4_walk_41 : decode cX4_walk 41 = .ok (.getfield 53, 3) := by decide +kernel
theorem dX4_walk_44 : decode cX4_walk 44 = .ok (.if_icmp .ge 80, 3) := by decide +kernel
theorem dX4_walk_47 : decode cX4_walk 47 = .ok (.iload_n 1, 1) := by decide +kernel
theorem dX4_walk_48 : decode cX4_walk 48 = .ok (.iload 4, 2) := by decide +kernel
theorem dX4_walk_50 : decode cX4_walk 50 = .ok (.invokestatic 62, 3) := by decide +kernel
theorem dX4_walk_53 : decode cX4_walk 53 = .ok (.iand, 1) := by decide +kernel
theorem dX4_walk_54 : decode cX4_walk 54 = .ok (.ifCond .eq 7, 3) := by decide +kernel
theorem dX4_walk_57 : decode cX4_walk 57 = .ok (.iconst 1, 1) := by decide +kernel
theorem dX4_walk_58 : decode cX4_walk 58 = .ok (.goto 4, 3) := by decide +kernel
theorem dX4_walk_61 : decode cX4_walk 61 = .ok (.iconst 0, 1) := by decide +kernel
theorem dX4_walk_62 : decode cX4_walk 62 = .ok (.istore 5, 2) := by decide +kernel
theorem dX4_walk_64 : decode cX4_walk 64 = .ok (.iload 5, 2) := by decide +kernel
theorem dX4_walk_66 : decode cX4_walk 66 = .ok (.ifCond .eq 52, 3) := by decide +kernel
theorem dX4_walk_69 : decode cX4_walk 69 = .ok (.aload_n 0, 1) := by decide +kernel
theorem dX4_walk_70 : decode cX4_walk 70 = .ok (.iload_n 1, 1) := by decide +kernel
theorem dX4_walk_71 : decode cX4_walk 71 = .ok (.iload_n 2, 1) := by decide +kernel
theorem dX4_walk_72 : decode cX4_walk 72 = .ok (.iload 4, 2) := by decide +kernel
theorem dX4_walk_74 : decode cX4_walk 74 = .ok (.invokevirtual 71, 3) := by decide +kernel
theorem dX4_walk_77 : decode cX4_walk 77 = .ok (.aload_n 0, 1) := by decide +kernel
theorem dX4_walk_78 : decode cX4_walk 78 = .ok (.getfield 21, 3) := by decide +kernel
theorem dX4_walk_81 : decode cX4_walk 81 = .ok (.iload_n 1, 1) := by decide +kernel
theorem dX4_walk_82 : decode cX4_walk 82 = .ok (.bipush 8, 2) := by decide +kernel
theorem dX4_walk_84 : decode cX4_walk 84 = .ok (.imul, 1) := by decide +kernel
theorem dX4_walk_85 : decode cX4_walk 85 = .ok (.iload_n 2, 1) := by decide +kernel
theorem dX4_walk_86 : decode cX4_walk 86 = .ok (.iadd, 1) := by decide +kernel
theorem dX4_walk_87 : decode cX4_walk 87 = .ok (.iaload, 1) := by decide +kernel
theorem dX4_walk_88 : decode cX4_walk 88 = .ok (.if_icmp .ne 30, 3) := by decide +kernel
theorem dX4_walk_91 : decode cX4_walk 91 = .ok (.aload_n 0, 1) := by decide +kernel
theorem dX4_walk_92 : decode cX4_walk 92 = .ok (.getfield 15, 3) := by decide +kernel
theorem dX4_walk_95 : decode cX4_walk 95 = .ok (.iload_n 3, 1) := by decide +kernel
theorem dX4_walk_96 : decode cX4_walk 96 = .ok (.aload_n 0, 1) := by decide +kernel
theorem dX4_walk_97 : decode cX4_walk 97 = .ok (.getfield 9, 3) := by decide +kernel
theorem dX4_walk_100 : decode cX4_walk 100 = .ok (.iload 4, 2) := by decide +kernel
theorem dX4_walk_102 : decode cX4_walk 102 = .ok (.iaload, 1) := by decide +kernel
theorem dX4_walk_103 : decode cX4_walk 103 = .ok (.iastore, 1) := by decide +kernel
theorem dX4_walk_104 : decode cX4_walk 104 = .ok (.iload_n 1, 1) := by decide +kernel
theorem dX4_walk_105 : decode cX4_walk 105 = .ok (.iload 4, 2) := by decide +kernel
theorem dX4_walk_107 : decode cX4_walk 107 = .ok (.invokestatic 62, 3) := by decide +kernel
theorem dX4_walk_110 : decode cX4_walk 110 = .ok (.ixor, 1) := by decide +kernel
theorem dX4_walk_111 : decode cX4_walk 111 = .ok (.istore_n 1, 1) := by decide +kernel
theorem dX4_walk_112 : decode cX4_walk 112 = .ok (.iload 4, 2) := by decide +kernel
theorem dX4_walk_114 : decode cX4_walk 114 = .ok (.istore_n 2, 1) := by decide +kernel
theorem dX4_walk_115 : decode cX4_walk 115 = .ok (.goto 9, 3) := by decide +kernel
theorem dX4_walk_118 : decode cX4_walk 118 = .ok (.iinc 4 1, 3) := by decide +kernel
theorem dX4_walk_121 : decode cX4_walk 121 = .ok (.goto (-83), 3) := by decide +kernel
theorem dX4_walk_124 : decode cX4_walk 124 = .ok (.iinc 3 1, 3) := by decide +kernel
theorem dX4_walk_127 : decode cX4_walk 127 = .ok (.goto (-100), 3) := by decide +kernel
theorem dX4_walk_130 : decode cX4_walk 130 = .ok (.return_, 1) := by decide +kernel
theorem dX5_init_0 : decode cX5_init 0 = .ok (.aload_n 0, 1) := by decide +kernel
theorem dX5_init_1 : decode cX5_init 1 = .ok (.invokespecial 3, 3) := by decide +kernel
theorem dX5_init_4 : decode cX5_init 4 = .ok (.aload_n 0, 1) := by decide +kernel
theorem dX5_init_5 : decode cX5_init 5 = .ok (.bipush 12, 2) := by decide +kernel
theorem dX5_init_7 : decode cX5_init 7 = .ok (.newarray .int, 2) := by decide +kernel
theorem dX5_init_9 : decode cX5_init 9 = .ok (.putfield 9, 3) := by decide +kernel
theorem dX5_init_12 : decode cX5_init 12 = .ok (.aload_n 0, 1) := by decide +kernel
theorem dX5_init_13 : decode cX5_init 13 = .ok (.bipush 12, 2) := by decide +kernel
theorem dX5_init_15 : decode cX5_init 15 = .ok (.newarray .int, 2) := by decide +kernel
theorem dX5_init_17 : decode cX5_init 17 = .ok (.putfield 15, 3) := by decide +kernel
theorem dX5_init_20 : decode cX5_init 20 = .ok (.aload_n 0, 1) := by decide +kernel
theorem dX5_init_21 : decode cX5_init 21 = .ok (.bipush 12, 2) := by decide +kernel
theorem dX5_init_23 : decode cX5_init 23 = .ok (.newarray .int, 2) := by decide +kernel
theorem dX5_init_25 : decode cX5_init 25 = .ok (.putfield 18, 3) := by decide +kernel
theorem dX5_init_28 : decode cX5_init 28 = .ok (.aload_n 0, 1) := by decide +kernel
theorem dX5_init_29 : decode cX5_init 29 = .ok (.bipush 12, 2) := by decide +kernel
theorem dX5_init_31 : decode cX5_init 31 = .ok (.newarray .int, 2) := by decide +kernel
theorem dX5_init_33 : decode cX5_init 33 = .ok (.putfield 21, 3) := by decide +kernel
theorem dX5_init_36 : decode cX5_init 36 = .ok (.aload_n 0, 1) := by decide +kernel
theorem dX5_init_37 : decode cX5_init 37 = .ok (.iconst 1, 1) := by decide +kernel
theorem dX5_init_38 : decode cX5_init 38 = .ok (.putfield 24, 3) := by decide +kernel
theorem dX5_init_41 : decode cX5_init 41 = .ok (.aload_n 0, 1) := by decide +kernel
theorem dX5_init_42 : decode cX5_init 42 = .ok (.bipush 10, 2) := by decide +kernel
theorem dX5_init_44 : decode cX5_init 44 = .ok (.putfield 28, 3) := by decide +kernel
theorem dX5_init_47 : decode cX5_init 47 = .ok (.return_, 1) := by decide +kernel
theorem dX5_become_0 : decode cX5_become 0 = .ok (.aload_n 1, 1) := by decide +kernel
theorem dX5_become_1 : decode cX5_become 1 = .ok (.getfield 9, 3) := by decide +kernel
theorem dX5_become_4 : decode cX5_become 4 = .ok (.iconst 0, 1) := by decide +kernel
theorem dX5_become_5 : decode cX5_become 5 = .ok (.aload_n 0, 1) := by decide +kernel
theorem dX5_become_6 : decode cX5_become 6 = .ok (.getfield 9, 3) := by decide +kernel
theorem dX5_become_9 : decode cX5_become 9 = .ok (.iconst 0, 1) := by decide +kernel
theorem dX5_become_10 : decode cX5_become 10 = .ok (.bipush 12, 2) := by decide +kernel
theorem dX5_become_12 : decode cX5_become 12 = .ok (.invokestatic 31, 3) := by decide +kernel
theorem dX5_become_15 : decode cX5_become 15 = .ok (.aload_n 1, 1) := by decide +kernel
theorem dX5_become_16 : decode cX5_become 16 = .ok (.getfield 15, 3) := by decide +kernel
theorem dX5_become_19 : decode cX5_become 19 = .ok (.iconst 0, 1) := by decide +kernel
theorem dX5_become_20 : decode cX5_become 20 = .ok (.aload_n 0, 1) := by decide +kernel
theorem dX5_become_21 : decode cX5_become 21 = .ok (.getfield 15, 3) := by decide +kernel
theorem dX5_become_24 : decode cX5_become 24 = .ok (.iconst 0, 1) := by decide +kernel
theorem dX5_become_25 : decode cX5_become 25 = .ok (.bipush 12, 2) := by decide +kernel
theorem dX5_become_27 : decode cX5_become 27 = .ok (.invokestatic 31, 3) := by decide +kernel
theorem dX5_become_30 : decode cX5_become 30 = .ok (.aload_n 1, 1) := by decide +kernel
theorem dX5_become_31 : decode cX5_become 31 = .ok (.getfield 18, 3) := by decide +kernel
theorem dX5_become_34 : decode cX5_become 34 = .ok (.iconst 0, 1) := by decide +kernel
theorem dX5_become_35 : decode cX5_become 35 = .ok (.aload_n 0, 1) := by decide +kernel
theorem dX5_become_36 : decode cX5_become 36 = .ok (.getfield 18, 3) := by decide +kernel
theorem dX5_become_39 : decode cX5_become 39 = .ok (.iconst 0, 1) := by decide +kernel
theorem dX5_become_40 : decode cX5_become 40 = .ok (.bipush 12, 2) := by decide +kernel
theorem dX5_become_42 : decode cX5_become 42 = .ok (.invokestatic 31, 3) := by decide +kernel
theorem dX5_become_45 : decode cX5_become 45 = .ok (.aload_n 1, 1) := by decide +kernel
theorem dX5_become_46 : decode cX5_become 46 = .ok (.getfield 21, 3) := by decide +kernel
theorem dX5_become_49 : decode cX5_become 49 = .ok (.iconst 0, 1) := by decide +kernel
theorem dX5_become_50 : decode cX5_become 50 = .ok (.aload_n 0, 1) := by decide +kernel
theorem dX5_become_51 : decode cX5_become 51 = .ok (.getfield 21, 3) := by decide +kernel
theorem dX5_become_54 : decode cX5_become 54 = .ok (.iconst 0, 1) := by decide +kernel
theorem dX5_become_55 : decode cX5_become 55 = .ok (.bipush 12, 2) := by decide +kernel
theorem dX5_become_57 : decode cX5_become 57 = .ok (.invokestatic 31, 3) := by decide +kernel
theorem dX5_become_60 : decode cX5_become 60 = .ok (.aload_n 0, 1) := by decide +kernel
theorem dX5_become_61 : decode cX5_become 61 = .ok (.aload_n 1, 1) := by decide +kernel
theorem dX5_become_62 : decode cX5_become 62 = .ok (.getfield 37, 3) := by decide +kernel
theorem dX5_become_65 : decode cX5_become 65 = .ok (.putfield 37, 3) := by decide +kernel
theorem dX5_become_68 : decode cX5_become 68 = .ok (.aload_n 0, 1) := by decide +kernel
theorem dX5_become_69 : decode cX5_become 69 = .ok (.aload_n 1, 1) := by decide +kernel
theorem dX5_become_70 : decode cX5_become 70 = .ok (.getfield 24, 3) := by decide +kernel
theorem dX5_become_73 : decode cX5_become 73 = .ok (.putfield 24, 3) := by decide +kernel
theorem dX5_become_76 : decode cX5_become 76 = .ok (.aload_n 0, 1) := by decide +kernel
theorem dX5_become_77 : decode cX5_become 77 = .ok (.aload_n 1, 1) := by decide +kernel
theorem dX5_become_78 : decode cX5_become 78 = .ok (.getfield 28, 3) := by decide +kernel
theorem dX5_become_81 : decode cX5_become 81 = .ok (.putfield 28, 3) := by decide +kernel
theorem dX5_become_84 : decode cX5_become 84 = .ok (.return_, 1) := by decide +kernel
theorem dX6_init_0 : decode cX6_init 0 = .ok (.aload_n 0, 1) := by decide +kernel
theorem dX6_init_1 : decode cX6_init 1 = .ok (.invokespecial 3, 3) := by decide +kernel
theorem dX6_init_4 : decode cX6_init 4 = .ok (.aload_n 0, 1) := by decide +kernel
theorem dX6_init_5 : decode cX6_init 5 = .ok (.bipush 12, 2) := by decide +kernel
theorem dX6_init_7 : decode cX6_init 7 = .ok (.newarray .int, 2) := by decide +kernel
theorem dX6_init_9 : decode cX6_init 9 = .ok (.putfield 9, 3) := by decide +kernel
theorem dX6_init_12 : decode cX6_init 12 = .ok (.aload_n 0, 1) := by decide +kernel
theorem dX6_init_13 : decode cX6_init 13 = .ok (.bipush 12, 2) := by decide +kernel
theorem dX6_init_15 : decode cX6_init 15 = .ok (.newarray .int, 2) := by decide +kernel
theorem dX6_init_17 : decode cX6_init 17 = .ok (.putfield 15, 3) := by decide +kernel
theorem dX6_init_20 : decode cX6_init 20 = .ok (.aload_n 0, 1) := by decide +kernel
theorem dX6_init_21 : decode cX6_init 21 = .ok (.bipush 12, 2) := by decide +kernel
theorem dX6_init_23 : decode cX6_init 23 = .ok (.newarray .int, 2) := by decide +kernel
theorem dX6_init_25 : decode cX6_init 25 = .ok (.putfield 18, 3) := by decide +kernel
theorem dX6_init_28 : decode cX6_init 28 = .ok (.aload_n 0, 1) := by decide +kernel
theorem dX6_init_29 : decode cX6_init 29 = .ok (.bipush 12, 2) := by decide +kernel
theorem dX6_init_31 : decode cX6_init 31 = .ok (.newarray .int, 2) := by decide +kernel
theorem dX6_init_33 : decode cX6_init 33 = .ok (.putfield 21, 3) := by decide +kernel
theorem dX6_init_36 : decode cX6_init 36 = .ok (.aload_n 0, 1) := by decide +kernel
theorem dX6_init_37 : decode cX6_init 37 = .ok (.bipush 12, 2) := by decide +kernel
theorem dX6_init_39 : decode cX6_init 39 = .ok (.newarray .int, 2) := by decide +kernel
theorem dX6_init_41 : decode cX6_init 41 = .ok (.putfield 24, 3) := by decide +kernel
theorem dX6_init_44 : decode cX6_init 44 = .ok (.aload_n 0, 1) := by decide +kernel
theorem dX6_init_45 : decode cX6_init 45 = .ok (.bipush 12, 2) := by decide +kernel
theorem dX6_init_47 : decode cX6_init 47 = .ok (.newarray .int, 2) := by decide +kernel
theorem dX6_init_49 : decode cX6_init 49 = .ok (.putfield 27, 3) := by decide +kernel
theorem dX6_init_52 : decode cX6_init 52 = .ok (.aload_n 0, 1) := by decide +kernel
theorem dX6_init_53 : decode cX6_init 53 = .ok (.bipush 12, 2) := by decide +kernel
theorem dX6_init_55 : decode cX6_init 55 = .ok (.newarray .int, 2) := by decide +kernel
theorem dX6_init_57 : decode cX6_init 57 = .ok (.putfield 30, 3) := by decide +kernel
theorem dX6_init_60 : decode cX6_init 60 = .ok (.aload_n 0, 1) := by decide +kernel
theorem dX6_init_61 : decode cX6_init 61 = .ok (.iconst (-1), 1) := by decide +kernel
theorem dX6_init_62 : decode cX6_init 62 = .ok (.putfield 33, 3) := by decide +kernel
theorem dX6_init_65 : decode cX6_init 65 = .ok (.aload_n 0, 1) := by decide +kernel
theorem dX6_init_66 : decode cX6_init 66 = .ok (.aload_n 1, 1) := by decide +kernel
theorem dX6_init_67 : decode cX6_init 67 = .ok (.putfield 37, 3) := by decide +kernel
theorem dX6_init_70 : decode cX6_init 70 = .ok (.aload_n 0, 1) := by decide +kernel
theorem dX6_init_71 : decode cX6_init 71 = .ok (.aload_n 2, 1) := by decide +kernel
theorem dX6_init_72 : decode cX6_init 72 = .ok (.putfield 41, 3) := by decide +kernel
theorem dX6_init_75 : decode cX6_init 75 = .ok (.return_, 1) := by decide +kernel
theorem dX6_share_0 : decode cX6_share 0 = .ok (.iload_n 1, 1) := by decide +kernel
theorem dX6_share_1 : decode cX6_share 1 = .ok (.aload_n 0, 1) := by decide +kernel
theorem dX6_share_2 : decode cX6_share 2 = .ok (.getfield 33, 3) := by decide +kernel
theorem dX6_share_5 : decode cX6_share 5 = .ok (.if_icmp .ne 17, 3) := by decide +kernel
theorem dX6_share_8 : decode cX6_share 8 = .ok (.aload_n 0, 1) := by decide +kernel
theorem dX6_share_9 : decode cX6_share 9 = .ok (.getfield 45, 3) := by decide +kernel
theorem dX6_share_12 : decode cX6_share 12 = .ok (.aload_n 0, 1) := by decide +kernel
theorem dX6_share_13 : decode cX6_share 13 = .ok (.getfield 37, 3) := by decide +kernel
theorem dX6_share_16 : decode cX6_share 16 = .ok (.getfield 48, 3) := by decide +kernel
theorem dX6_share_19 : decode cX6_share 19 = .ok (.if_icmp .eq 46, 3) := by decide +kernel
theorem dX6_share_22 : decode cX6_share 22 = .ok (.aload_n 0, 1) := by decide +kernel
theorem dX6_share_23 : decode cX6_share 23 = .ok (.iload_n 1, 1) := by decide +kernel
theorem dX6_share_24 : decode cX6_share 24 = .ok (.putfield 33, 3) := by decide +kernel
theorem dX6_share_27 : decode cX6_share 27 = .ok (.aload_n 0, 1) := by decide +kernel
theorem dX6_share_28 : decode cX6_share 28 = .ok (.aload_n 0, 1) := by decide +kernel
theorem dX6_share_29 : decode cX6_share 29 = .ok (.getfield 37, 3) := by decide +kernel
theorem dX6_share_32 : decode cX6_share 32 = .ok (.getfield 48, 3) := by decide +kernel
theorem dX6_share_35 : decode cX6_share 35 = .ok (.putfield 45, 3) := by decide +kernel
theorem dX6_share_38 : decode cX6_share 38 = .ok (.aload_n 0, 1) := by decide +kernel
theorem dX6_share_39 : decode cX6_share 39 = .ok (.aload_n 0, 1) := by decide +kernel
theorem dX6_share_40 : decode cX6_share 40 = .ok (.invokevirtual 51, 3) := by decide +kernel
theorem dX6_share_43 : decode cX6_share 43 = .ok (.putfield 55, 3) := by decide +kernel
theorem dX6_share_46 : decode cX6_share 46 = .ok (.aload_n 0, 1) := by decide +kernel
theorem dX6_share_47 : decode cX6_share 47 = .ok (.getfield 55, 3) := by decide +kernel
theorem dX6_share_50 : decode cX6_share 50 = .ok (.ifCond .eq 15, 3) := by decide +kernel
theorem dX6_share_53 : decode cX6_share 53 = .ok (.aload_n 0, 1) := by decide +kernel
theorem dX6_share_54 : decode cX6_share 54 = .ok (.invokevirtual 59, 3) := by decide +kernel
theorem dX6_share_57 : decode cX6_share 57 = .ok (.aload_n 0, 1) := by decide +kernel
theorem dX6_share_58 : decode cX6_share 58 = .ok (.invokevirtual 62, 3) := by decide +kernel
theorem dX6_share_61 : decode cX6_share 61 = .ok (.aload_n 0, 1) := by decide +kernel
theorem dX6_share_62 : decode cX6_share 62 = .ok (.invokevirtual 65, 3) := by decide +kernel
theorem dX6_share_65 : decode cX6_share 65 = .ok (.aload_n 0, 1) := by decide +kernel
theorem dX6_share_66 : decode cX6_share 66 = .ok (.getfield 55, 3) := by decide +kernel
theorem dX6_share_69 : decode cX6_share 69 = .ok (.ireturn, 1) := by decide +kernel
theorem dX6_saintOf_0 : decode cX6_saintOf 0 = .ok (.iconst 0, 1) := by decide +kernel
theorem dX6_saintOf_1 : decode cX6_saintOf 1 = .ok (.istore_n 2, 1) := by decide +kernel
theorem dX6_saintOf_2 : decode cX6_saintOf 2 = .ok (.iload_n 2, 1) := by decide +kernel
theorem dX6_saintOf_3 : decode cX6_saintOf 3 = .ok (.aload_n 0, 1) := by decide +kernel
theorem dX6_saintOf_4 : decode cX6_saintOf 4 = .ok (.getfield 68, 3) := by decide +kernel
theorem dX6_saintOf_7 : decode cX6_saintOf 7 = .ok (.if_icmp .ge 26, 3) := by decide +kernel
theorem dX6_saintOf_10 : decode cX6_saintOf 10 = .ok (.aload_n 0, 1) := by decide +kernel
theorem dX6_saintOf_11 : decode cX6_saintOf 11 = .ok (.getfield 9, 3) := by decide +kernel
theorem dX6_saintOf_14 : decode cX6_saintOf 14 = .ok (.iload_n 2, 1) := by decide +kernel
theorem dX6_saintOf_15 : decode cX6_saintOf 15 = .ok (.iaload, 1) := by decide +kernel
theorem dX6_saintOf_16 : decode cX6_saintOf 16 = .ok (.iload_n 1, 1) := by decide +kernel
theorem dX6_saintOf_17 : decode cX6_saintOf 17 = .ok (.if_icmp .ne 10, 3) := by decide +kernel
theorem dX6_saintOf_20 : decode cX6_saintOf 20 = .ok (.aload_n 0, 1) := by decide +kernel
theorem dX6_saintOf_21 : decode cX6_saintOf 21 = .ok (.getfield 30, 3) := by decide +kernel
theorem dX6_saintOf_24 : decode cX6_saintOf 24 = .ok (.iload_n 2, 1) := by decide +kernel
theorem dX6_saintOf_25 : decode cX6_saintOf 25 = .ok (.iaload, 1) := by decide +kernel
theorem dX6_saintOf_26 : decode cX6_saintOf 26 = .ok (.ireturn, 1) := by decide +kernel
theorem dX6_saintOf_27 : decode cX6_saintOf 27 = .ok (.iinc 2 1, 3) := by decide +kernel
theorem dX6_saintOf_30 : decode cX6_saintOf 30 = .ok (.goto (-28), 3) := by decide +kernel
theorem dX6_saintOf_33 : decode cX6_saintOf 33 = .ok (.iconst (-1), 1) := by decide +kernel
theorem dX6_saintOf_34 : decode cX6_saintOf 34 = .ok (.ireturn, 1) := by decide +kernel
theorem dX6_gather_0 : decode cX6_gather 0 = .ok (.aload_n 0, 1) := by decide +kernel
theorem dX6_gather_1 : decode cX6_gather 1 = .ok (.iconst 0, 1) := by decide +kernel
theorem dX6_gather_2 : decode cX6_gather 2 = .ok (.putfield 68, 3) := by decide +kernel
theorem dX6_gather_5 : decode cX6_gather 5 = .ok (.iconst 0, 1) := by decide +kernel
theorem dX6_gather_6 : decode cX6_gather 6 = .ok (.istore_n 1, 1) := by decide +kernel
theorem dX6_gather_7 : decode cX6_gather 7 = .ok (.iload_n 1, 1) := by decide +kernel
theorem dX6_gather_8 : decode cX6_gather 8 = .ok (.aload_n 0, 1) := by decide +kernel
theorem dX6_gather_9 : decode cX6_gather 9 = .ok (.getfield 37, 3) := by decide +kernel
theorem dX6_gather_12 : decode cX6_gather 12 = .ok (.getfield 71, 3) := by decide +kernel
theorem dX6_gather_15 : decode cX6_gather 15 = .ok (.getfield 74, 3) := by decide +kernel
theorem dX6_gather_18 : decode cX6_gather 18 = .ok (.if_icmp .ge 73, 3) := by decide +kernel
theorem dX6_gather_21 : decode cX6_gather 21 = .ok (.aload_n 0, 1) := by decide +kernel
theorem dX6_gather_22 : decode cX6_gather 22 = .ok (.getfield 33, 3) := by decide +kernel
theorem dX6_gather_25 : decode cX6_gather 25 = .ok (.aload_n 0, 1) := by decide +kernel
theorem dX6_gather_26 : decode cX6_gather 26 = .ok (.getfield 37, 3) := by decide +kernel
theorem dX6_gather_29 : decode cX6_gather 29 = .ok (.getfield 71, 3) := by decide +kernel
theorem dX6_gather_32 : decode cX6_gather 32 = .ok (.getfield 79, 3) := by decide +kernel
theorem dX6_gather_35 : decode cX6_gather 35 = .ok (.iload_n 1, 1) := by decide +kernel
theorem dX6_gather_36 : decode cX6_gather 36 = .ok (.iaload, 1) := by decide +kernel
theorem dX6_gather_37 : decode cX6_gather 37 = .ok (.ishr, 1) := by decide +kernel
theorem dX6_gather_38 : decode cX6_gather 38 = .ok (.iconst 1, 1) := by decide +kernel
theorem dX6_gather_39 : decode cX6_gather 39 = .ok (.iand, 1) := by decide +kernel
theorem dX6_gather_40 : decode cX6_gather 40 = .ok (.ifCond .eq 45, 3) := by decide +kernel
theorem dX6_gather_43 : decode cX6_gather 43 = .ok (.aload_n 0, 1) := by decide +kernel
theorem dX6_gather_44 : decode cX6_gather 44 = .ok (.getfield 41, 3) := by decide +kernel
theorem dX6_gather_47 : decode cX6_gather 47 = .ok (.iload_n 1, 1) := by decide +kernel
theorem dX6_gather_48 : decode cX6_gather 48 = .ok (.invokevirtual 82, 3) := by decide +kernel
theorem dX6_gather_51 : decode cX6_gather 51 = .ok (.ifCond .eq 34, 3) := by decide +kernel
theorem dX6_gather_54 : decode cX6_gather 54 = .ok (.aload_n 0, 1) := by decide +kernel
theorem dX6_gather_55 : decode cX6_gather 55 = .ok (.getfield 68, 3) := by decide +kernel
theorem dX6_gather_58 : decode cX6_gather 58 = .ok (.bipush 12, 2) := by decide +kernel
theorem dX6_gather_60 : decode cX6_gather 60 = .ok (.if_icmp .lt 5, 3) := by decide +kernel
theorem dX6_gather_63 : decode cX6_gather 63 = .ok (.iconst 0, 1) := by decide +kernel
theorem dX6_gather_64 : decode cX6_gather 64 = .ok (.ireturn, 1) := by decide +kernel
theorem dX6_gather_65 : decode cX6_gather 65 = .ok (.aload_n 0, 1) := by decide +kernel
theorem dX6_gather_66 : decode cX6_gather 66 = .ok (.getfield 9, 3) := by decide +kernel
theorem dX6_gather_69 : decode cX6_gather 69 = .ok (.aload_n 0, 1) := by decide +kernel
theorem dX6_gather_70 : decode cX6_gather 70 = .ok (.getfield 68, 3) := by decide +kernel
theorem dX6_gather_73 : decode cX6_gather 73 = .ok (.iload_n 1, 1) := by decide +kernel
theorem dX6_gather_74 : decode cX6_gather 74 = .ok (.iastore, 1) := by decide +kernel
theorem dX6_gather_75 : decode cX6_gather 75 = .ok (.aload_n 0, 1) := by decide +kernel
theorem dX6_gather_76 : decode cX6_gather 76 = .ok (.dup, 1) := by decide +kernel
theorem dX6_gather_77 : decode cX6_gather 77 = .ok (.getfield 68, 3) := by decide +kernel
theorem dX6_gather_80 : decode cX6_gather 80 = .ok (.iconst 1, 1) := by decide +kernel
theorem dX6_gather_81 : decode cX6_gather 81 = .ok (.iadd, 1) := by decide +kernel
theorem dX6_gather_82 : decode cX6_gather 82 = .ok (.putfield 68, 3) := by decide +kernel
theorem dX6_gather_85 : decode cX6_gather 85 = .ok (.iinc 1 1, 3) := by decide +kernel
theorem dX6_gather_88 : decode cX6_gather 88 = .ok (.goto (-81), 3) := by decide +kernel
theorem dX6_gather_91 : decode cX6_gather 91 = .ok (.iconst 1, 1) := by decide +kernel
theorem dX6_gather_92 : decode cX6_gather 92 = .ok (.ireturn, 1) := by decide +kernel
theorem dX6_compare_0 : decode cX6_compare 0 = .ok (.aload_n 0, 1) := by decide +kernel
theorem dX6_compare_1 : decode cX6_compare 1 = .ok (.getfield 15, 3) := by decide +kernel
theorem dX6_compare_4 : decode cX6_compare 4 = .ok (.iconst 0, 1) := by decide +kernel
theorem dX6_compare_5 : decode cX6_compare 5 = .ok (.invokestatic 88, 3) := by decide +kernel
theorem dX6_compare_8 : decode cX6_compare 8 = .ok (.aload_n 0, 1) := by decide +kernel
theorem dX6_compare_9 : decode cX6_compare 9 = .ok (.getfield 18, 3) := by decide +kernel
theorem dX6_compare_12 : decode cX6_compare 12 = .ok (.iconst 0, 1) := by decide +kernel
theorem dX6_compare_13 : decode cX6_compare 13 = .ok (.invokestatic 88, 3) := by decide +kernel
theorem dX6_compare_16 : decode cX6_compare 16 = .ok (.aload_n 0, 1) := by decide +kernel
theorem dX6_compare_17 : decode cX6_compare 17 = .ok (.getfield 21, 3) := by decide +kernel
theorem dX6_compare_20 : decode cX6_compare 20 = .ok (.iconst 0, 1) := by decide +kernel
theorem dX6_compare_21 : decode cX6_compare 21 = .ok (.invokestatic 88, 3) := by decide +kernel
theorem dX6_compare_24 : decode cX6_compare 24 = .ok (.iconst 0, 1) := by decide +kernel
theorem dX6_compare_25 : decode cX6_compare 25 = .ok (.istore_n 1, 1) := by decide +kernel
theorem dX6_compare_26 : decode cX6_compare 26 = .ok (.iload_n 1, 1) := by decide +kernel
theorem dX6_compare_27 : decode cX6_compare 27 = .ok (.aload_n 0, 1) := by decide +kernel
theorem dX6_compare_28 : decode cX6_compare 28 = .ok (.getfield 68, 3) := by decide +kernel
theorem dX6_compare_31 : decode cX6_compare 31 = .ok (.if_icmp .ge 183, 3) := by decide +kernel
theorem dX6_compare_34 : decode cX6_compare 34 = .ok (.aload_n 0, 1) := by decide +kernel
theorem dX6_compare_35 : decode cX6_compare 35 = .ok (.getfield 24, 3) := by decide +kernel
theorem dX6_compare_38 : decode cX6_compare 38 = .ok (.iload_n 1, 1) := by decide +kernel
theorem dX6_compare_39 : decode cX6_compare 39 = .ok (.aload_n 0, 1) := by decide +kernel
theorem dX6_compare_40 : decode cX6_compare 40 = .ok (.getfield 41, 3) := by decide +kernel
theorem dX6_compare_43 : decode cX6_compare 43 = .ok (.aload_n 0, 1) := by decide +kernel
theorem dX6_compare_44 : decode cX6_compare 44 = .ok (.getfield 37, 3) := by decide +kernel
theorem dX6_compare_47 : decode cX6_compare 47 = .ok (.getfield 94, 3) := by decide +kernel
theorem dX6_compare_50 : decode cX6_compare 50 = .ok (.aload_n 0, 1) := by decide +kernel
theorem dX6_compare_51 : decode cX6_compare 51 = .ok (.getfield 9, 3) := by decide +kernel
theorem dX6_compare_54 : decode cX6_compare 54 = .ok (.iload_n 1, 1) := by decide +kernel
theorem dX6_compare_55 : decode cX6_compare 55 = .ok (.iaload, 1) := by decide +kernel
theorem dX6_compare_56 : decode cX6_compare 56 = .ok (.iaload, 1) := by decide +kernel
theorem dX6_compare_57 : decode cX6_compare 57 = .ok (.invokevirtual 97, 3) := by decide +kernel
theorem dX6_compare_60 : decode cX6_compare 60 = .ok (.iastore, 1) := by decide +kernel
theorem dX6_compare_61 : decode cX6_compare 61 = .ok (.aload_n 0, 1) := by decide +kernel
theorem dX6_compare_62 : decode cX6_compare 62 = .ok (.getfield 18, 3) := by decide +kernel
theorem dX6_compare_65 : decode cX6_compare 65 = .ok (.iload_n 1, 1) := by decide +kernel
theorem dX6_compare_66 : decode cX6_compare 66 = .ok (.dup2, 1) := by decide +kernel
theorem dX6_compare_67 : decode cX6_compare 67 = .ok (.iaload, 1) := by decide +kernel
theorem dX6_compare_68 : decode cX6_compare 68 = .ok (.iconst 1, 1) := by decide +kernel
theorem dX6_compare_69 : decode cX6_compare 69 = .ok (.iload_n 1, 1) := by decide +kernel
theorem dX6_compare_70 : decode cX6_compare 70 = .ok (.ishl, 1) := by decide +kernel
theorem dX6_compare_71 : decode cX6_compare 71 = .ok (.ior, 1) := by decide +kernel
theorem dX6_compare_72 : decode cX6_compare 72 = .ok (.iastore, 1) := by decide +kernel
theorem dX6_compare_73 : decode cX6_compare 73 = .ok (.iconst 0, 1) := by decide +kernel
theorem dX6_compare_74 : decode cX6_compare 74 = .ok (.istore_n 2, 1) := by decide +kernel
theorem dX6_compare_75 : decode cX6_compare 75 = .ok (.iload_n 2, 1) := by decide +kernel
theorem dX6_compare_76 : decode cX6_compare 76 = .ok (.iload_n 1, 1) := by decide +kernel
theorem dX6_compare_77 : decode cX6_compare 77 = .ok (.if_icmp .ge 131, 3) := by decide +kernel
theorem dX6_compare_80 : decode cX6_compare 80 = .ok (.aload_n 0, 1) := by decide +kernel
theorem dX6_compare_81 : decode cX6_compare 81 = .ok (.getfield 37, 3) := by decide +kernel
theorem dX6_compare_84 : decode cX6_compare 84 = .ok (.getfield 94, 3) := by decide +kernel
theorem dX6_compare_87 : decode cX6_compare 87 = .ok (.aload_n 0, 1) := by decide +kernel
theorem dX6_compare_88 : decode cX6_compare 88 = .ok (.getfield 9, 3) := by decide +kernel
theorem dX6_compare_91 : decode cX6_compare 91 = .ok (.iload_n 1, 1) := by decide +kernel
theorem dX6_compare_92 : decode cX6_compare 92 = .ok (.iaload, 1) := by decide +kernel
theorem dX6_compare_93 : decode cX6_compare 93 = .ok (.iaload, 1) := by decide +kernel
theorem dX6_compare_94 : decode cX6_compare 94 = .ok (.aload_n 0, 1) := by decide +kernel
theorem dX6_compare_95 : decode cX6_compare 95 = .ok (.getfield 37, 3) := by decide +kernel
theorem dX6_compare_98 : decode cX6_compare 98 = .ok (.getfield 94, 3) := by decide +kernel
theorem dX6_compare_101 : decode cX6_compare 101 = .ok (.aload_n 0, 1) := by decide +kernel
theorem dX6_compare_102 : decode cX6_compare 102 = .ok (.getfield 9, 3) := by decide +kernel
theorem dX6_compare_105 : decode cX6_compare 105 = .ok (.iload_n 2, 1) := by decide +kernel
theorem dX6_compare_106 : decode cX6_compare 106 = .ok (.iaload, 1) := by decide +kernel
theorem dX6_compare_107 : decode cX6_compare 107 = .ok (.iaload, 1) := by decide +kernel
theorem dX6_compare_108 : decode cX6_compare 108 = .ok (.if_icmp .ne 7, 3) := by decide +kernel
theorem dX6_compare_111 : decode cX6_compare 111 = .ok (.iconst 1, 1) := by decide +kernel
theorem dX6_compare_112 : decode cX6_compare 112 = .ok (.goto 4, 3) := by decide +kernel
theorem dX6_compare_115 : decode cX6_compare 115 = .ok (.iconst 0, 1) := by decide +kernel
theorem dX6_compare_116 : decode cX6_compare 116 = .ok (.istore_n 3, 1) := by decide +kernel
theorem dX6_compare_117 : decode cX6_compare 117 = .ok (.iload_n 3, 1) := by decide +kernel
theorem dX6_compare_118 : decode cX6_compare 118 = .ok (.ifCond .eq 27, 3) := by decide +kernel
theorem dX6_compare_121 : decode cX6_compare 121 = .ok (.aload_n 0, 1) := by decide +kernel
theorem dX6_compare_122 : decode cX6_compare 122 = .ok (.getfield 18, 3) := by decide +kernel
theorem dX6_compare_125 : decode cX6_compare 125 = .ok (.iload_n 1, 1) := by decide +kernel
theorem dX6_compare_126 : decode cX6_compare 126 = .ok (.dup2, 1) := by decide +kernel
theorem dX6_compare_127 : decode cX6_compare 127 = .ok (.iaload, 1) := by decide +kernel
theorem dX6_compare_128 : decode cX6_compare 128 = .ok (.iconst 1, 1) := by decide +kernel
theorem dX6_compare_129 : decode cX6_compare 129 = .ok (.iload_n 2, 1) := by decide +kernel
theorem dX6_compare_130 : decode cX6_compare 130 = .ok (.ishl, 1) := by decide +kernel
theorem dX6_compare_131 : decode cX6_compare 131 = .ok (.ior, 1) := by decide +kernel
theorem dX6_compare_132 : decode cX6_compare 132 = .ok (.iastore, 1) := by decide +kernel
theorem dX6_compare_133 : decode cX6_compare 133 = .ok (.aload_n 0, 1) := by decide +kernel
theorem dX6_compare_134 : decode cX6_compare 134 = .ok (.getfield 18, 3) := by decide +kernel
theorem dX6_compare_137 : decode cX6_compare 137 = .ok (.iload_n 2, 1) := by decide +kernel
theorem dX6_compare_138 : decode cX6_compare 138 = .ok (.dup2, 1) := by decide +kernel
theorem dX6_compare_139 : decode cX6_compare 139 = .ok (.iaload, 1) := by decide +kernel
theorem dX6_compare_140 : decode cX6_compare 140 = .ok (.iconst 1, 1) := by decide +kernel
theorem dX6_compare_141 : decode cX6_compare 141 = .ok (.iload_n 1, 1) := by decide +kernel
theorem dX6_compare_142 : decode cX6_compare 142 = .ok (.ishl, 1) := by decide +kernel
theorem dX6_compare_143 : decode cX6_compare 143 = .ok (.ior, 1) := by decide +kernel
theorem dX6_compare_144 : decode cX6_compare 144 = .ok (.iastore, 1) := by decide +kernel
theorem dX6_compare_145 : decode cX6_compare 145 = .ok (.iload_n 3, 1) := by decide +kernel
theorem dX6_compare_146 : decode cX6_compare 146 = .ok (.ifCond .eq 13, 3) := by decide +kernel
theorem dX6_compare_149 : decode cX6_compare 149 = .ok (.aload_n 0, 1) := by decide +kernel
theorem dX6_compare_150 : decode cX6_compare 150 = .ok (.getfield 24, 3) := by decide +kernel
theorem dX6_compare_153 : decode cX6_compare 153 = .ok (.iload_n 1, 1) := by decide +kernel
theorem dX6_compare_154 : decode cX6_compare 154 = .ok (.iaload, 1) := by decide +kernel
theorem dX6_compare_155 : decode cX6_compare 155 = .ok (.iconst 1, 1) := by decide +kernel
theorem dX6_compare_156 : decode cX6_compare 156 = .ok (.if_icmp .eq 22, 3) := by decide +kernel
theorem dX6_compare_159 : decode cX6_compare 159 = .ok (.aload_n 0, 1) := by decide +kernel
theorem dX6_compare_160 : decode cX6_compare 160 = .ok (.aload_n 0, 1) := by decide +kernel
theorem dX6_compare_161 : decode cX6_compare 161 = .ok (.getfield 9, 3) := by decide +kernel
theorem dX6_compare_164 : decode cX6_compare 164 = .ok (.iload_n 1, 1) := by decide +kernel
theorem dX6_compare_165 : decode cX6_compare 165 = .ok (.iaload, 1) := by decide +kernel
theorem dX6_compare_166 : decode cX6_compare 166 = .ok (.aload_n 0, 1) := by decide +kernel
theorem dX6_compare_167 : decode cX6_compare 167 = .ok (.getfield 9, 3) := by decide +kernel
theorem dX6_compare_170 : decode cX6_compare 170 = .ok (.iload_n 2, 1) := by decide +kernel
theorem dX6_compare_171 : decode cX6_compare 171 = .ok (.iaload, 1) := by decide +kernel
theorem dX6_compare_172 : decode cX6_compare 172 = .ok (.invokevirtual 101, 3) := by decide +kernel
theorem dX6_compare_175 : decode cX6_compare 175 = .ok (.ifCond .eq 27, 3) := by decide +kernel
theorem dX6_compare_178 : decode cX6_compare 178 = .ok (.aload_n 0, 1) := by decide +kernel
theorem dX6_compare_179 : decode cX6_compare 179 = .ok (.getfield 15, 3) := by decide +kernel
theorem dX6_compare_182 : decode cX6_compare 182 = .ok (.iload_n 1, 1) := by decide +kernel
theorem dX6_compare_183 : decode cX6_compare 183 = .ok (.dup2, 1) := by decide +kernel
theorem dX6_compare_184 : decode cX6_compare 184 = .ok (.iaload, 1) := by decide +kernel
theorem dX6_compare_185 : decode cX6_compare 185 = .ok (.iconst 1, 1) := by decide +kernel
theorem dX6_compare_186 : decode cX6_compare 186 = .ok (.iload_n 2, 1) := by decide +kernel
theorem dX6_compare_187 : decode cX6_compare 187 = .ok (.ishl, 1) := by decide +kernel
theorem dX6_compare_188 : decode cX6_compare 188 = .ok (.ior, 1) := by decide +kernel
theorem dX6_compare_189 : decode cX6_compare 189 = .ok (.iastore, 1) := by decide +kernel
theorem dX6_compare_190 : decode cX6_compare 190 = .ok (.aload_n 0, 1) := by decide +kernel
theorem dX6_compare_191 : decode cX6_compare 191 = .ok (.getfield 15, 3) := by decide +kernel
theorem dX6_compare_194 : decode cX6_compare 194 = .ok (.iload_n 2, 1) := by decide +kernel
theorem dX6_compare_195 : decode cX6_compare 195 = .ok (.dup2, 1) := by decide +kernel
theorem dX6_compare_196 : decode cX6_compare 196 = .ok (.iaload, 1) := by decide +kernel
theorem dX6_compare_197 : decode cX6_compare 197 = .ok (.iconst 1, 1) := by decide +kernel
theorem dX6_compare_198 : decode cX6_compare 198 = .ok (.iload_n 1, 1) := by decide +kernel
theorem dX6_compare_199 : decode cX6_compare 199 = .ok (.ishl, 1) := by decide +kernel
theorem dX6_compare_200 : decode cX6_compare 200 = .ok (.ior, 1) := by decide +kernel
theorem dX6_compare_201 : decode cX6_compare 201 = .ok (.iastore, 1) := by decide +kernel
theorem dX6_compare_202 : decode cX6_compare 202 = .ok (.iinc 2 1, 3) := by decide +kernel
theorem dX6_compare_205 : decode cX6_compare 205 = .ok (.goto (-130), 3) := by decide +kernel
theorem dX6_compare_208 : decode cX6_compare 208 = .ok (.iinc 1 1, 3) := by decide +kernel
theorem dX6_compare_211 : decode cX6_compare 211 = .ok (.goto (-185), 3) := by decide +kernel
theorem dX6_compare_214 : decode cX6_compare 214 = .ok (.return_, 1) := by decide +kernel
theorem dX6_findTwins_0 : decode cX6_findTwins 0 = .ok (.iconst 0, 1) := by decide +kernel
theorem dX6_findTwins_1 : decode cX6_findTwins 1 = .ok (.istore_n 1, 1) := by decide +kernel
theorem dX6_findTwins_2 : decode cX6_findTwins 2 = .ok (.iload_n 1, 1) := by decide +kernel
theorem dX6_findTwins_3 : decode cX6_findTwins 3 = .ok (.aload_n 0, 1) := by decide +kernel
theorem dX6_findTwins_4 : decode cX6_findTwins 4 = .ok (.getfield 68, 3) := by decide +kernel
theorem dX6_findTwins_7 : decode cX6_findTwins 7 = .ok (.if_icmp .ge 78, 3) := by decide +kernel
theorem dX6_findTwins_10 : decode cX6_findTwins 10 = .ok (.aload_n 0, 1) := by decide +kernel
theorem dX6_findTwins_11 : decode cX6_findTwins 11 = .ok (.getfield 27, 3) := by decide +kernel
theorem dX6_findTwins_14 : decode cX6_findTwins 14 = .ok (.iload_n 1, 1) := by decide +kernel
theorem dX6_findTwins_15 : decode cX6_findTwins 15 = .ok (.iconst (-1), 1) := by decide +kernel
theorem dX6_findTwins_16 : decode cX6_findTwins 16 = .ok (.iastore, 1) := by decide +kernel
theorem dX6_findTwins_17 : decode cX6_findTwins 17 = .ok (.iconst 0, 1) := by decide +kernel
theorem dX6_findTwins_18 : decode cX6_findTwins 18 = .ok (.istore_n 2, 1) := by decide +kernel
theorem dX6_findTwins_19 : decode cX6_findTwins 19 = .ok (.iload_n 2, 1) := by decide +kernel
theorem dX6_findTwins_20 : decode cX6_findTwins 20 = .ok (.iload_n 1, 1) := by decide +kernel
theorem dX6_findTwins_21 : decode cX6_findTwins 21 = .ok (.if_icmp .ge 58, 3) := by decide +kernel
theorem dX6_findTwins_24 : decode cX6_findTwins 24 = .ok (.iconst 1, 1) := by decide +kernel
theorem dX6_findTwins_25 : decode cX6_findTwins 25 = .ok (.iload_n 1, 1) := by decide +kernel
theorem dX6_findTwins_26 : decode cX6_findTwins 26 = .ok (.ishl, 1) := by decide +kernel
theorem dX6_findTwins_27 : decode cX6_findTwins 27 = .ok (.iconst 1, 1) := by decide +kernel
theorem dX6_findTwins_28 : decode cX6_findTwins 28 = .ok (.iload_n 2, 1) := by decide +kernel
theorem dX6_findTwins_29 : decode cX6_findTwins 29 = .ok (.ishl, 1) := by decide +kernel
theorem dX6_findTwins_30 : decode cX6_findTwins 30 = .ok (.ior, 1) := by decide +kernel
theorem dX6_findTwins_31 : decode cX6_findTwins 31 = .ok (.istore_n 3, 1) := by decide +kernel
theorem dX6_findTwins_32 : decode cX6_findTwins 32 = .ok (.aload_n 0, 1) := by decide +kernel
theorem dX6_findTwins_33 : decode cX6_findTwins 33 = .ok (.getfield 18, 3) := by decide +kernel
theorem dX6_findTwins_36 : decode cX6_findTwins 36 = .ok (.iload_n 1, 1) := by decide +kernel
theorem dX6_findTwins_37 : decode cX6_findTwins 37 = .ok (.iaload, 1) := by decide +kernel
theorem dX6_findTwins_38 : decode cX6_findTwins 38 = .ok (.aload_n 0, 1) := by decide +kernel
theorem dX6_findTwins_39 : decode cX6_findTwins 39 = .ok (.getfield 18, 3) := by decide +kernel
theorem dX6_findTwins_42 : decode cX6_findTwins 42 = .ok (.iload_n 2, 1) := by decide +kernel
theorem dX6_findTwins_43 : decode cX6_findTwins 43 = .ok (.iaload, 1) := by decide +kernel
theorem dX6_findTwins_44 : decode cX6_findTwins 44 = .ok (.if_icmp .ne 29, 3) := by decide +kernel
theorem dX6_findTwins_47 : decode cX6_findTwins 47 = .ok (.aload_n 0, 1) := by decide +kernel
theorem dX6_findTwins_48 : decode cX6_findTwins 48 = .ok (.getfield 15, 3) := by decide +kernel
theorem dX6_findTwins_51 : decode cX6_findTwins 51 = .ok (.iload_n 1, 1) := by decide +kernel
theorem dX6_findTwins_52 : decode cX6_findTwins 52 = .ok (.iaload, 1) := by decide +kernel
theorem dX6_findTwins_53 : decode cX6_findTwins 53 = .ok (.iload_n 3, 1) := by decide +kernel
theorem dX6_findTwins_54 : decode cX6_findTwins 54 = .ok (.ior, 1) := by decide +kernel
theorem dX6_findTwins_55 : decode cX6_findTwins 55 = .ok (.aload_n 0, 1) := by decide +kernel
theorem dX6_findTwins_56 : decode cX6_findTwins 56 = .ok (.getfield 15, 3) := by decide +kernel
theorem dX6_findTwins_59 : decode cX6_findTwins 59 = .ok (.iload_n 2, 1) := by decide +kernel
theorem dX6_findTwins_60 : decode cX6_findTwins 60 = .ok (.iaload, 1) := by decide +kernel
theorem dX6_findTwins_61 : decode cX6_findTwins 61 = .ok (.iload_n 3, 1) := by decide +kernel
theorem dX6_findTwins_62 : decode cX6_findTwins 62 = .ok (.ior, 1) := by decide +kernel
theorem dX6_findTwins_63 : decode cX6_findTwins 63 = .ok (.if_icmp .ne 10, 3) := by decide +kernel
theorem dX6_findTwins_66 : decode cX6_findTwins 66 = .ok (.aload_n 0, 1) := by decide +kernel
theorem dX6_findTwins_67 : decode cX6_findTwins 67 = .ok (.getfield 27, 3) := by decide +kernel
theorem dX6_findTwins_70 : decode cX6_findTwins 70 = .ok (.iload_n 1, 1) := by decide +kernel
theorem dX6_findTwins_71 : decode cX6_findTwins 71 = .ok (.iload_n 2, 1) := by decide +kernel
theorem dX6_findTwins_72 : decode cX6_findTwins 72 = .ok (.iastore, 1) := by decide +kernel
theorem dX6_findTwins_73 : decode cX6_findTwins 73 = .ok (.iinc 2 1, 3) := by decide +kernel
theorem dX6_findTwins_76 : decode cX6_findTwins 76 = .ok (.goto (-57), 3) := by decide +kernel
theorem dX6_findTwins_79 : decode cX6_findTwins 79 = .ok (.iinc 1 1, 3) := by decide +kernel
theorem dX6_findTwins_82 : decode cX6_findTwins 82 = .ok (.goto (-80), 3) := by decide +kernel
theorem dX6_findTwins_85 : decode cX6_findTwins 85 = .ok (.return_, 1) := by decide +kernel
theorem dX6_areUnlike_0 : decode cX6_areUnlike 0 = .ok (.aload_n 0, 1) := by decide +kernel
theorem dX6_areUnlike_1 : decode cX6_areUnlike 1 = .ok (.getfield 41, 3) := by decide +kernel
theorem dX6_areUnlike_4 : decode cX6_areUnlike 4 = .ok (.bipush 18, 2) := by decide +kernel
theorem dX6_areUnlike_6 : decode cX6_areUnlike 6 = .ok (.iload_n 1, 1) := by decide +kernel
theorem dX6_areUnlike_7 : decode cX6_areUnlike 7 = .ok (.iload_n 2, 1) := by decide +kernel
theorem dX6_areUnlike_8 : decode cX6_areUnlike 8 = .ok (.iconst 0, 1) := by decide +kernel
theorem dX6_areUnlike_9 : decode cX6_areUnlike 9 = .ok (.invokevirtual 105, 3) := by decide +kernel
theorem dX6_areUnlike_12 : decode cX6_areUnlike 12 = .ok (.ifCond .ne 18, 3) := by decide +kernel
theorem dX6_areUnlike_15 : decode cX6_areUnlike 15 = .ok (.aload_n 0, 1) := by decide +kernel
theorem dX6_areUnlike_16 : decode cX6_areUnlike 16 = .ok (.getfield 41, 3) := by decide +kernel
theorem dX6_areUnlike_19 : decode cX6_areUnlike 19 = .ok (.bipush 18, 2) := by decide +kernel
theorem dX6_areUnlike_21 : decode cX6_areUnlike 21 = .ok (.iload_n 2, 1) := by decide +kernel
theorem dX6_areUnlike_22 : decode cX6_areUnlike 22 = .ok (.iload_n 1, 1) := by decide +kernel
theorem dX6_areUnlike_23 : decode cX6_areUnlike 23 = .ok (.iconst 0, 1) := by decide +kernel
theorem dX6_areUnlike_24 : decode cX6_areUnlike 24 = .ok (.invokevirtual 105, 3) := by decide +kernel
theorem dX6_areUnlike_27 : decode cX6_areUnlike 27 = .ok (.ifCond .eq 7, 3) := by decide +kernel
theorem dX6_areUnlike_30 : decode cX6_areUnlike 30 = .ok (.iconst 1, 1) := by decide +kernel
theorem dX6_areUnlike_31 : decode cX6_areUnlike 31 = .ok (.goto 4, 3) := by decide +kernel
theorem dX6_areUnlike_34 : decode cX6_areUnlike 34 = .ok (.iconst 0, 1) := by decide +kernel
theorem dX6_areUnlike_35 : decode cX6_areUnlike 35 = .ok (.ireturn, 1) := by decide +kernel
theorem dX6_settle_0 : decode cX6_settle 0 = .ok (.aload_n 0, 1) := by decide +kernel
theorem dX6_settle_1 : decode cX6_settle 1 = .ok (.aload_n 0, 1) := by decide +kernel
theorem dX6_settle_2 : decode cX6_settle 2 = .ok (.getfield 68, 3) := by decide +kernel
theorem dX6_settle_5 : decode cX6_settle 5 = .ok (.putfield 109, 3) := by decide +kernel
theorem dX6_settle_8 : decode cX6_settle 8 = .ok (.aload_n 0, 1) := by decide +kernel
theorem dX6_settle_9 : decode cX6_settle 9 = .ok (.invokevirtual 112, 3) := by decide +kernel
theorem dX6_settle_12 : decode cX6_settle 12 = .ok (.istore_n 1, 1) := by decide +kernel
theorem dX6_settle_13 : decode cX6_settle 13 = .ok (.iload_n 1, 1) := by decide +kernel
theorem dX6_settle_14 : decode cX6_settle 14 = .ok (.aload_n 0, 1) := by decide +kernel
theorem dX6_settle_15 : decode cX6_settle 15 = .ok (.getfield 68, 3) := by decide +kernel
theorem dX6_settle_18 : decode cX6_settle 18 = .ok (.if_icmp .gt 25, 3) := by decide +kernel
theorem dX6_settle_21 : decode cX6_settle 21 = .ok (.aload_n 0, 1) := by decide +kernel
theorem dX6_settle_22 : decode cX6_settle 22 = .ok (.iconst 0, 1) := by decide +kernel
theorem dX6_settle_23 : decode cX6_settle 23 = .ok (.iconst 0, 1) := by decide +kernel
theorem dX6_settle_24 : decode cX6_settle 24 = .ok (.iload_n 1, 1) := by decide +kernel
theorem dX6_settle_25 : decode cX6_settle 25 = .ok (.invokevirtual 116, 3) := by decide +kernel
theorem dX6_settle_28 : decode cX6_settle 28 = .ok (.ifCond .eq 9, 3) := by decide +kernel
theorem dX6_settle_31 : decode cX6_settle 31 = .ok (.aload_n 0, 1) := by decide +kernel
theorem dX6_settle_32 : decode cX6_settle 32 = .ok (.iload_n 1, 1) := by decide +kernel
theorem dX6_settle_33 : decode cX6_settle 33 = .ok (.putfield 109, 3) := by decide +kernel
theorem dX6_settle_36 : decode cX6_settle 36 = .ok (.return_, 1) := by decide +kernel
theorem dX6_settle_37 : decode cX6_settle 37 = .ok (.iinc 1 1, 3) := by decide +kernel
theorem dX6_settle_40 : decode cX6_settle 40 = .ok (.goto (-27), 3) := by decide +kernel
theorem dX6_settle_43 : decode cX6_settle 43 = .ok (.return_, 1) := by decide +kernel
theorem dX6_fewest_0 : decode cX6_fewest 0 = .ok (.iconst 0, 1) := by decide +kernel
theorem dX6_fewest_1 : decode cX6_fewest 1 = .ok (.istore_n 1, 1) := by decide +kernel
theorem dX6_fewest_2 : decode cX6_fewest 2 = .ok (.iconst 0, 1) := by decide +kernel
theorem dX6_fewest_3 : decode cX6_fewest 3 = .ok (.istore_n 2, 1) := by decide +kernel
theorem dX6_fewest_4 : decode cX6_fewest 4 = .ok (.iload_n 2, 1) := by decide +kernel
theorem dX6_fewest_5 : decode cX6_fewest 5 = .ok (.aload_n 0, 1) := by decide +kernel
theorem dX6_fewest_6 : decode cX6_fewest 6 = .ok (.getfield 68, 3) := by decide +kernel
theorem dX6_fewest_9 : decode cX6_fewest 9 = .ok (.if_icmp .ge 111, 3) := by decide +kernel
theorem dX6_fewest_12 : decode cX6_fewest 12 = .ok (.aload_n 0, 1) := by decide +kernel
theorem dX6_fewest_13 : decode cX6_fewest 13 = .ok (.getfield 18, 3) := by decide +kernel
theorem dX6_fewest_16 : decode cX6_fewest 16 = .ok (.iload_n 2, 1) := by decide +kernel
theorem dX6_fewest_17 : decode cX6_fewest 17 = .ok (.iaload, 1) := by decide +kernel
theorem dX6_fewest_18 : decode cX6_fewest 18 = .ok (.invokestatic 120, 3) := by decide +kernel
theorem dX6_fewest_21 : decode cX6_fewest 21 = .ok (.istore_n 3, 1) := by decide +kernel
theorem dX6_fewest_22 : decode cX6_fewest 22 = .ok (.aload_n 0, 1) := by decide +kernel
theorem dX6_fewest_23 : decode cX6_fewest 23 = .ok (.getfield 24, 3) := by decide +kernel
theorem dX6_fewest_26 : decode cX6_fewest 26 = .ok (.iload_n 2, 1) := by decide +kernel
theorem dX6_fewest_27 : decode cX6_fewest 27 = .ok (.iaload, 1) := by decide +kernel
theorem dX6_fewest_28 : decode cX6_fewest 28 = .ok (.ifCond .le 25, 3) := by decide +kernel
theorem dX6_fewest_31 : decode cX6_fewest 31 = .ok (.iload_n 1, 1) := by decide +kernel
theorem dX6_fewest_32 : decode cX6_fewest 32 = .ok (.iload_n 3, 1) := by decide +kernel
theorem dX6_fewest_33 : decode cX6_fewest 33 = .ok (.aload_n 0, 1) := by decide +kernel
theorem dX6_fewest_34 : decode cX6_fewest 34 = .ok (.getfield 24, 3) := by decide +kernel
theorem dX6_fewest_37 : decode cX6_fewest 37 = .ok (.iload_n 2, 1) := by decide +kernel
theorem dX6_fewest_38 : decode cX6_fewest 38 = .ok (.iaload, 1) := by decide +kernel
theorem dX6_fewest_39 : decode cX6_fewest 39 = .ok (.iadd, 1) := by decide +kernel
theorem dX6_fewest_40 : decode cX6_fewest 40 = .ok (.iconst 1, 1) := by decide +kernel
theorem dX6_fewest_41 : decode cX6_fewest 41 = .ok (.isub, 1) := by decide +kernel
theorem dX6_fewest_42 : decode cX6_fewest 42 = .ok (.aload_n 0, 1) := by decide +kernel
theorem dX6_fewest_43 : decode cX6_fewest 43 = .ok (.getfield 24, 3) := by decide +kernel
theorem dX6_fewest_46 : decode cX6_fewest 46 = .ok (.iload_n 2, 1) := by decide +kernel
theorem dX6_fewest_47 : decode cX6_fewest 47 = .ok (.iaload, 1) := by decide +kernel
theorem dX6_fewest_48 : decode cX6_fewest 48 = .ok (.idiv, 1) := by decide +kernel
theorem dX6_fewest_49 : decode cX6_fewest 49 = .ok (.invokestatic 125, 3) := by decide +kernel
theorem dX6_fewest_52 : decode cX6_fewest 52 = .ok (.istore_n 1, 1) := by decide +kernel
theorem dX6_fewest_53 : decode cX6_fewest 53 = .ok (.aload_n 0, 1) := by decide +kernel
theorem dX6_fewest_54 : decode cX6_fewest 54 = .ok (.getfield 15, 3) := by decide +kernel
theorem dX6_fewest_57 : decode cX6_fewest 57 = .ok (.iload_n 2, 1) := by decide +kernel
theorem dX6_fewest_58 : decode cX6_fewest 58 = .ok (.iaload, 1) := by decide +kernel
theorem dX6_fewest_59 : decode cX6_fewest 59 = .ok (.istore 4, 2) := by decide +kernel
theorem dX6_fewest_61 : decode cX6_fewest 61 = .ok (.iconst 1, 1) := by decide +kernel
theorem dX6_fewest_62 : decode cX6_fewest 62 = .ok (.istore 5, 2) := by decide +kernel
theorem dX6_fewest_64 : decode cX6_fewest 64 = .ok (.iconst 0, 1) := by decide +kernel
theorem dX6_fewest_65 : decode cX6_fewest 65 = .ok (.istore 6, 2) := by decide +kernel
theorem dX6_fewest_67 : decode cX6_fewest 67 = .ok (.iload 6, 2) := by decide +kernel
theorem dX6_fewest_69 : decode cX6_fewest 69 = .ok (.aload_n 0, 1) := by decide +kernel
theorem dX6_fewest_70 : decode cX6_fewest 70 = .ok (.getfield 68, 3) := by decide +kernel
theorem dX6_fewest_73 : decode cX6_fewest 73 = .ok (.if_icmp .ge 34, 3) := by decide +kernel
theorem dX6_fewest_76 : decode cX6_fewest 76 = .ok (.iload 4, 2) := by decide +kernel
theorem dX6_fewest_78 : decode cX6_fewest 78 = .ok (.iload 6, 2) := by decide +kernel
theorem dX6_fewest_80 : decode cX6_fewest 80 = .ok (.ishr, 1) := by decide +kernel
theorem dX6_fewest_81 : decode cX6_fewest 81 = .ok (.iconst 1, 1) := by decide +kernel
theorem dX6_fewest_82 : decode cX6_fewest 82 = .ok (.iand, 1) := by decide +kernel
theorem dX6_fewest_83 : decode cX6_fewest 83 = .ok (.ifCond .eq 18, 3) := by decide +kernel
theorem dX6_fewest_86 : decode cX6_fewest 86 = .ok (.iload 4, 2) := by decide +kernel
theorem dX6_fewest_88 : decode cX6_fewest 88 = .ok (.aload_n 0, 1) := by decide +kernel
theorem dX6_fewest_89 : decode cX6_fewest 89 = .ok (.getfield 15, 3) := by decide +kernel
theorem dX6_fewest_92 : decode cX6_fewest 92 = .ok (.iload 6, 2) := by decide +kernel
theorem dX6_fewest_94 : decode cX6_fewest 94 = .ok (.iaload, 1) := by decide +kernel
theorem dX6_fewest_95 : decode cX6_fewest 95 = .ok (.iand, 1) := by decide +kernel
theorem dX6_fewest_96 : decode cX6_fewest 96 = .ok (.istore 4, 2) := by decide +kernel
theorem dX6_fewest_98 : decode cX6_fewest 98 = .ok (.iinc 5 1, 3) := by decide +kernel
theorem dX6_fewest_101 : decode cX6_fewest 101 = .ok (.iinc 6 1, 3) := by decide +kernel
theorem dX6_fewest_104 : decode cX6_fewest 104 = .ok (.goto (-37), 3) := by decide +kernel
theorem dX6_fewest_107 : decode cX6_fewest 107 = .ok (.iload_n 1, 1) := by decide +kernel
theorem dX6_fewest_108 : decode cX6_fewest 108 = .ok (.iload 5, 2) := by decide +kernel
theorem dX6_fewest_110 : decode cX6_fewest 110 = .ok (.invokestatic 125, 3) := by decide +kernel
theorem dX6_fewest_113 : decode cX6_fewest 113 = .ok (.istore_n 1, 1) := by decide +kernel
theorem dX6_fewest_114 : decode cX6_fewest 114 = .ok (.iinc 2 1, 3) := by decide +kernel
theorem dX6_fewest_117 : decode cX6_fewest 117 = .ok (.goto (-113), 3) := by decide +kernel
theorem dX6_fewest_120 : decode cX6_fewest 120 = .ok (.iload_n 1, 1) := by decide +kernel
theorem dX6_fewest_121 : decode cX6_fewest 121 = .ok (.ireturn, 1) := by decide +kernel
theorem dX6_place_0 : decode cX6_place 0 = .ok (.iload_n 1, 1) := by decide +kernel
theorem dX6_place_1 : decode cX6_place 1 = .ok (.aload_n 0, 1) := by decide +kernel
theorem dX6_place_2 : decode cX6_place 2 = .ok (.getfield 68, 3) := by decide +kernel
theorem dX6_place_5 : decode cX6_place 5 = .ok (.if_icmp .lt 5, 3) := by decide +kernel
theorem dX6_place_8 : decode cX6_place 8 = .ok (.iconst 1, 1) := by decide +kernel
theorem dX6_place_9 : decode cX6_place 9 = .ok (.ireturn, 1) := by decide +kernel
theorem dX6_place_10 : decode cX6_place 10 = .ok (.aload_n 0, 1) := by decide +kernel
theorem dX6_place_11 : decode cX6_place 11 = .ok (.getfield 27, 3) := by decide +kernel
theorem dX6_place_14 : decode cX6_place 14 = .ok (.iload_n 1, 1) := by decide +kernel
theorem dX6_place_15 : decode cX6_place 15 = .ok (.iaload, 1) := by decide +kernel
theorem dX6_place_16 : decode cX6_place 16 = .ok (.ifCond .ge 7, 3) := by decide +kernel
theorem dX6_place_19 : decode cX6_place 19 = .ok (.iconst 0, 1) := by decide +kernel
theorem dX6_place_20 : decode cX6_place 20 = .ok (.goto 14, 3) := by decide +kernel
theorem dX6_place_23 : decode cX6_place 23 = .ok (.aload_n 0, 1) := by decide +kernel
theorem dX6_place_24 : decode cX6_place 24 = .ok (.getfield 30, 3) := by decide +kernel
theorem dX6_place_27 : decode cX6_place 27 = .ok (.aload_n 0, 1) := by decide +kernel
theorem dX6_place_28 : decode cX6_place 28 = .ok (.getfield 27, 3) := by decide +kernel
theorem dX6_place_31 : decode cX6_place 31 = .ok (.iload_n 1, 1) := by decide +kernel
theorem dX6_place_32 : decode cX6_place 32 = .ok (.iaload, 1) := by decide +kernel
theorem dX6_place_33 : decode cX6_place 33 = .ok (.iaload, 1) := by decide +kernel
theorem dX6_place_34 : decode cX6_place 34 = .ok (.istore 4, 2) := by decide +kernel
theorem dX6_place_36 : decode cX6_place 36 = .ok (.iload 4, 2) := by decide +kernel
theorem dX6_place_38 : decode cX6_place 38 = .ok (.istore 5, 2) := by decide +kernel
theorem dX6_place_40 : decode cX6_place 40 = .ok (.iload 5, 2) := by decide +kernel
theorem dX6_place_42 : decode cX6_place 42 = .ok (.iload_n 2, 1) := by decide +kernel
theorem dX6_place_43 : decode cX6_place 43 = .ok (.if_icmp .gt 127, 3) := by decide +kernel
theorem dX6_place_46 : decode cX6_place 46 = .ok (.iload 5, 2) := by decide +kernel
theorem dX6_place_48 : decode cX6_place 48 = .ok (.iload_n 3, 1) := by decide +kernel
theorem dX6_place_49 : decode cX6_place 49 = .ok (.if_icmp .ge 121, 3) := by decide +kernel
theorem dX6_place_52 : decode cX6_place 52 = .ok (.aload_n 0, 1) := by decide +kernel
theorem dX6_place_53 : decode cX6_place 53 = .ok (.getfield 21, 3) := by decide +kernel
theorem dX6_place_56 : decode cX6_place 56 = .ok (.iload 5, 2) := by decide +kernel
theorem dX6_place_58 : decode cX6_place 58 = .ok (.iaload, 1) := by decide +kernel
theorem dX6_place_59 : decode cX6_place 59 = .ok (.aload_n 0, 1) := by decide +kernel
theorem dX6_place_60 : decode cX6_place 60 = .ok (.getfield 15, 3) := by decide +kernel
theorem dX6_place_63 : decode cX6_place 63 = .ok (.iload_n 1, 1) := by decide +kernel
theorem dX6_place_64 : decode cX6_place 64 = .ok (.iaload, 1) := by decide +kernel
theorem dX6_place_65 : decode cX6_place 65 = .ok (.iand, 1) := by decide +kernel
theorem dX6_place_66 : decode cX6_place 66 = .ok (.ifCond .ne 33, 3) := by decide +kernel
theorem dX6_place_69 : decode cX6_place 69 = .ok (.aload_n 0, 1) := by decide +kernel
theorem dX6_place_70 : decode cX6_place 70 = .ok (.getfield 21, 3) := by decide +kernel
theorem dX6_place_73 : decode cX6_place 73 = .ok (.iload 5, 2) := by decide +kernel
theorem dX6_place_75 : decode cX6_place 75 = .ok (.iaload, 1) := by decide +kernel
theorem dX6_place_76 : decode cX6_place 76 = .ok (.aload_n 0, 1) := by decide +kernel
theorem dX6_place_77 : decode cX6_place 77 = .ok (.getfield 18, 3) := by decide +kernel
theorem dX6_place_80 : decode cX6_place 80 = .ok (.iload_n 1, 1) := by decide +kernel
theorem dX6_place_81 : decode cX6_place 81 = .ok (.iaload, 1) := by decide +kernel
theorem dX6_place_82 : decode cX6_place 82 = .ok (.iand, 1) := by decide +kernel
theorem dX6_place_83 : decode cX6_place 83 = .ok (.invokestatic 120, 3) := by decide +kernel
theorem dX6_place_86 : decode cX6_place 86 = .ok (.aload_n 0, 1) := by decide +kernel
theorem dX6_place_87 : decode cX6_place 87 = .ok (.getfield 24, 3) := by decide +kernel
theorem dX6_place_90 : decode cX6_place 90 = .ok (.iload_n 1, 1) := by decide +kernel
theorem dX6_place_91 : decode cX6_place 91 = .ok (.iaload, 1) := by decide +kernel
theorem dX6_place_92 : decode cX6_place 92 = .ok (.if_icmp .ge 7, 3) := by decide +kernel
theorem dX6_place_95 : decode cX6_place 95 = .ok (.iconst 1, 1) := by decide +kernel
theorem dX6_place_96 : decode cX6_place 96 = .ok (.goto 4, 3) := by decide +kernel
theorem dX6_place_99 : decode cX6_place 99 = .ok (.iconst 0, 1) := by decide +kernel
theorem dX6_place_100 : decode cX6_place 100 = .ok (.istore 6, 2) := by decide +kernel
theorem dX6_place_102 : decode cX6_place 102 = .ok (.iload 6, 2) := by decide +kernel
theorem dX6_place_104 : decode cX6_place 104 = .ok (.ifCond .eq 60, 3) := by decide +kernel
theorem dX6_place_107 : decode cX6_place 107 = .ok (.aload_n 0, 1) := by decide +kernel
theorem dX6_place_108 : decode cX6_place 108 = .ok (.getfield 21, 3) := by decide +kernel
theorem dX6_place_111 : decode cX6_place 111 = .ok (.iload 5, 2) := by decide +kernel
theorem dX6_place_113 : decode cX6_place 113 = .ok (.dup2, 1) := by decide +kernel
theorem dX6_place_114 : decode cX6_place 114 = .ok (.iaload, 1) := by decide +kernel
theorem dX6_place_115 : decode cX6_place 115 = .ok (.iconst 1, 1) := by decide +kernel
theorem dX6_place_116 : decode cX6_place 116 = .ok (.iload_n 1, 1) := by decide +kernel
theorem dX6_place_117 : decode cX6_place 117 = .ok (.ishl, 1) := by decide +kernel
theorem dX6_place_118 : decode cX6_place 118 = .ok (.ior, 1) := by decide +kernel
theorem dX6_place_119 : decode cX6_place 119 = .ok (.iastore, 1) := by decide +kernel
theorem dX6_place_120 : decode cX6_place 120 = .ok (.aload_n 0, 1) := by decide +kernel
theorem dX6_place_121 : decode cX6_place 121 = .ok (.getfield 30, 3) := by decide +kernel
theorem dX6_place_124 : decode cX6_place 124 = .ok (.iload_n 1, 1) := by decide +kernel
theorem dX6_place_125 : decode cX6_place 125 = .ok (.iload 5, 2) := by decide +kernel
theorem dX6_place_127 : decode cX6_place 127 = .ok (.iastore, 1) := by decide +kernel
theorem dX6_place_128 : decode cX6_place 128 = .ok (.aload_n 0, 1) := by decide +kernel
theorem dX6_place_129 : decode cX6_place 129 = .ok (.iload_n 1, 1) := by decide +kernel
theorem dX6_place_130 : decode cX6_place 130 = .ok (.iconst 1, 1) := by decide +kernel
theorem dX6_place_131 : decode cX6_place 131 = .ok (.iadd, 1) := by decide +kernel
theorem dX6_place_132 : decode cX6_place 132 = .ok (.iload_n 2, 1) := by decide +kernel
theorem dX6_place_133 : decode cX6_place 133 = .ok (.iload 5, 2) := by decide +kernel
theorem dX6_place_135 : decode cX6_place 135 = .ok (.iconst 1, 1) := by decide +kernel
theorem dX6_place_136 : decode cX6_place 136 = .ok (.iadd, 1) := by decide +kernel
theorem dX6_place_137 : decode cX6_place 137 = .ok (.invokestatic 125, 3) := by decide +kernel
theorem dX6_place_140 : decode cX6_place 140 = .ok (.iload_n 3, 1) := by decide +kernel
theorem dX6_place_141 : decode cX6_place 141 = .ok (.invokevirtual 116, 3) := by decide +kernel
theorem dX6_place_144 : decode cX6_place 144 = .ok (.ifCond .eq 5, 3) := by decide +kernel
theorem dX6_place_147 : decode cX6_place 147 = .ok (.iconst 1, 1) := by decide +kernel
theorem dX6_place_148 : decode cX6_place 148 = .ok (.ireturn, 1) := by decide +kernel
theorem dX6_place_149 : decode cX6_place 149 = .ok (.aload_n 0, 1) := by decide +kernel
theorem dX6_place_150 : decode cX6_place 150 = .ok (.getfield 21, 3) := by decide +kernel
theorem dX6_place_153 : decode cX6_place 153 = .ok (.iload 5, 2) := by decide +kernel
theorem dX6_place_155 : decode cX6_place 155 = .ok (.dup2, 1) := by decide +kernel
theorem dX6_place_156 : decode cX6_place 156 = .ok (.iaload, 1) := by decide +kernel
theorem dX6_place_157 : decode cX6_place 157 = .ok (.iconst 1, 1) := by decide +kernel
theorem dX6_place_158 : decode cX6_place 158 = .ok (.iload_n 1, 1) := by decide +kernel
theorem dX6_place_159 : decode cX6_place 159 = .ok (.ishl, 1) := by decide +kernel
theorem dX6_place_160 : decode cX6_place 160 = .ok (.iconst (-1), 1) := by decide +kernel
theorem dX6_place_161 : decode cX6_place 161 = .ok (.ixor, 1) := by decide +kernel
theorem dX6_place_162 : decode cX6_place 162 = .ok (.iand, 1) := by decide +kernel
theorem dX6_place_163 : decode cX6_place 163 = .ok (.iastore, 1) := by decide +kernel
theorem dX6_place_164 : decode cX6_place 164 = .ok (.iinc 5 1, 3) := by decide +kernel
theorem dX6_place_167 : decode cX6_place 167 = .ok (.goto (-127), 3) := by decide +kernel
theorem dX6_place_170 : decode cX6_place 170 = .ok (.iconst 0, 1) := by decide +kernel
theorem dX6_place_171 : decode cX6_place 171 = .ok (.ireturn, 1) := by decide +kernel
theorem dX7_init_0 : decode cX7_init 0 = .ok (.aload_n 0, 1) := by decide +kernel
theorem dX7_init_1 : decode cX7_init 1 = .ok (.invokespecial 3, 3) := by decide +kernel
theorem dX7_init_4 : decode cX7_init 4 = .ok (.aload_n 0, 1) := by decide +kernel
theorem dX7_init_5 : decode cX7_init 5 = .ok (.bipush 20, 2) := by decide +kernel
theorem dX7_init_7 : decode cX7_init 7 = .ok (.anewarray 9, 3) := by decide +kernel
theorem dX7_init_10 : decode cX7_init 10 = .ok (.putfield 11, 3) := by decide +kernel
theorem dX7_init_13 : decode cX7_init 13 = .ok (.iconst 0, 1) := by decide +kernel
theorem dX7_init_14 : decode cX7_init 14 = .ok (.istore_n 1, 1) := by decide +kernel
theorem dX7_init_15 : decode cX7_init 15 = .ok (.iload_n 1, 1) := by decide +kernel
theorem dX7_init_16 : decode cX7_init 16 = .ok (.bipush 20, 2) := by decide +kernel
theorem dX7_init_18 : decode cX7_init 18 = .ok (.if_icmp .ge 22, 3) := by decide +kernel
theorem dX7_init_21 : decode cX7_init 21 = .ok (.aload_n 0, 1) := by decide +kernel
theorem dX7_init_22 : decode cX7_init 22 = .ok (.getfield 11, 3) := by decide +kernel
theorem dX7_init_25 : decode cX7_init 25 = .ok (.iload_n 1, 1) := by decide +kernel
theorem dX7_init_26 : decode cX7_init 26 = .ok (.new 9, 3) := by decide +kernel
theorem dX7_init_29 : decode cX7_init 29 = .ok (.dup, 1) := by decide +kernel
theorem dX7_init_30 : decode cX7_init 30 = .ok (.invokespecial 17, 3) := by decide +kernel
theorem dX7_init_33 : decode cX7_init 33 = .ok (.aastore, 1) := by decide +kernel
theorem dX7_init_34 : decode cX7_init 34 = .ok (.iinc 1 1, 3) := by decide +kernel
theorem dX7_init_37 : decode cX7_init 37 = .ok (.goto (-22), 3) := by decide +kernel
theorem dX7_init_40 : decode cX7_init 40 = .ok (.return_, 1) := by decide +kernel
theorem dX7_remember_0 : decode cX7_remember 0 = .ok (.aload_n 0, 1) := by decide +kernel
theorem dX7_remember_1 : decode cX7_remember 1 = .ok (.getfield 11, 3) := by decide +kernel
theorem dX7_remember_4 : decode cX7_remember 4 = .ok (.aload_n 0, 1) := by decide +kernel
theorem dX7_remember_5 : decode cX7_remember 5 = .ok (.getfield 18, 3) := by decide +kernel
theorem dX7_remember_8 : decode cX7_remember 8 = .ok (.aaload, 1) := by decide +kernel
theorem dX7_remember_9 : decode cX7_remember 9 = .ok (.astore_n 2, 1) := by decide +kernel
theorem dX7_remember_10 : decode cX7_remember 10 = .ok (.aload_n 2, 1) := by decide +kernel
theorem dX7_remember_11 : decode cX7_remember 11 = .ok (.ifnull 8, 3) := by decide +kernel
theorem dX7_remember_14 : decode cX7_remember 14 = .ok (.aload_n 2, 1) := by decide +kernel
theorem dX7_remember_15 : decode cX7_remember 15 = .ok (.aload_n 1, 1) := by decide +kernel
theorem dX7_remember_16 : decode cX7_remember 16 = .ok (.invokevirtual 22, 3) := by decide +kernel
theorem dX7_remember_19 : decode cX7_remember 19 = .ok (.aload_n 0, 1) := by decide +kernel
theorem dX7_remember_20 : decode cX7_remember 20 = .ok (.aload_n 0, 1) := by decide +kernel
theorem dX7_remember_21 : decode cX7_remember 21 = .ok (.getfield 18, 3) := by decide +kernel
theorem dX7_remember_24 : decode cX7_remember 24 = .ok (.iconst 1, 1) := by decide +kernel
theorem dX7_remember_25 : decode cX7_remember 25 = .ok (.iadd, 1) := by decide +kernel
theorem dX7_remember_26 : decode cX7_remember 26 = .ok (.bipush 20, 2) := by decide +kernel
theorem dX7_remember_28 : decode cX7_remember 28 = .ok (.irem, 1) := by decide +kernel
theorem dX7_remember_29 : decode cX7_remember 29 = .ok (.putfield 18, 3) := by decide +kernel
theorem dX7_remember_32 : decode cX7_remember 32 = .ok (.aload_n 0, 1) := by decide +kernel
theorem dX7_remember_33 : decode cX7_remember 33 = .ok (.aload_n 0, 1) := by decide +kernel
theorem dX7_remember_34 : decode cX7_remember 34 = .ok (.getfield 26, 3) := by decide +kernel
theorem dX7_remember_37 : decode cX7_remember 37 = .ok (.iconst 1, 1) := by decide +kernel
theorem dX7_remember_38 : decode cX7_remember 38 = .ok (.iadd, 1) := by decide +kernel
theorem dX7_remember_39 : decode cX7_remember 39 = .ok (.bipush 20, 2) := by decide +kernel
theorem dX7_remember_41 : decode cX7_remember 41 = .ok (.invokestatic 29, 3) := by decide +kernel
theorem dX7_remember_44 : decode cX7_remember 44 = .ok (.putfield 26, 3) := by decide +kernel
theorem dX7_remember_47 : decode cX7_remember 47 = .ok (.return_, 1) := by decide +kernel
theorem dX7_takeBack_0 : decode cX7_takeBack 0 = .ok (.aload_n 0, 1) := by decide +kernel
theorem dX7_takeBack_1 : decode cX7_takeBack 1 = .ok (.aload_n 0, 1) := by decide +kernel
theorem dX7_takeBack_2 : decode cX7_takeBack 2 = .ok (.getfield 18, 3) := by decide +kernel
theorem dX7_takeBack_5 : decode cX7_takeBack 5 = .ok (.bipush 20, 2) := by decide +kernel
theorem dX7_takeBack_7 : decode cX7_takeBack 7 = .ok (.iadd, 1) := by decide +kernel
theorem dX7_takeBack_8 : decode cX7_takeBack 8 = .ok (.iconst 1, 1) := by decide +kernel
theorem dX7_takeBack_9 : decode cX7_takeBack 9 = .ok (.isub, 1) := by decide +kernel
theorem dX7_takeBack_10 : decode cX7_takeBack 10 = .ok (.bipush 20, 2) := by decide +kernel
theorem dX7_takeBack_12 : decode cX7_takeBack 12 = .ok (.irem, 1) := by decide +kernel
theorem dX7_takeBack_13 : decode cX7_takeBack 13 = .ok (.putfield 18, 3) := by decide +kernel
theorem dX7_takeBack_16 : decode cX7_takeBack 16 = .ok (.aload_n 0, 1) := by decide +kernel
theorem dX7_takeBack_17 : decode cX7_takeBack 17 = .ok (.aload_n 0, 1) := by decide +kernel
theorem dX7_takeBack_18 : decode cX7_takeBack 18 = .ok (.getfield 26, 3) := by decide +kernel
theorem dX7_takeBack_21 : decode cX7_takeBack 21 = .ok (.iconst 1, 1) := by decide +kernel
theorem dX7_takeBack_22 : decode cX7_takeBack 22 = .ok (.isub, 1) := by decide +kernel
theorem dX7_takeBack_23 : decode cX7_takeBack 23 = .ok (.iconst 0, 1) := by decide +kernel
theorem dX7_takeBack_24 : decode cX7_takeBack 24 = .ok (.invokestatic 35, 3) := by decide +kernel
theorem dX7_takeBack_27 : decode cX7_takeBack 27 = .ok (.putfield 26, 3) := by decide +kernel
theorem dX7_takeBack_30 : decode cX7_takeBack 30 = .ok (.aload_n 1, 1) := by decide +kernel
theorem dX7_takeBack_31 : decode cX7_takeBack 31 = .ok (.getfield 38, 3) := by decide +kernel
theorem dX7_takeBack_34 : decode cX7_takeBack 34 = .ok (.istore_n 2, 1) := by decide +kernel
theorem dX7_takeBack_35 : decode cX7_takeBack 35 = .ok (.aload_n 0, 1) := by decide +kernel
theorem dX7_takeBack_36 : decode cX7_takeBack 36 = .ok (.getfield 11, 3) := by decide +kernel
theorem dX7_takeBack_39 : decode cX7_takeBack 39 = .ok (.aload_n 0, 1) := by decide +kernel
theorem dX7_takeBack_40 : decode cX7_takeBack 40 = .ok (.getfield 18, 3) := by decide +kernel
theorem dX7_takeBack_43 : decode cX7_takeBack 43 = .ok (.aaload, 1) := by decide +kernel
theorem dX7_takeBack_44 : decode cX7_takeBack 44 = .ok (.astore_n 3, 1) := by decide +kernel
theorem dX7_takeBack_45 : decode cX7_takeBack 45 = .ok (.aload_n 3, 1) := by decide +kernel
theorem dX7_takeBack_46 : decode cX7_takeBack 46 = .ok (.ifnull 8, 3) := by decide +kernel
theorem dX7_takeBack_49 : decode cX7_takeBack 49 = .ok (.aload_n 1, 1) := by decide +kernel
theorem dX7_takeBack_50 : decode cX7_takeBack 50 = .ok (.aload_n 3, 1) := by decide +kernel
theorem dX7_takeBack_51 : decode cX7_takeBack 51 = .ok (.invokevirtual 22, 3) := by decide +kernel
theorem dX7_takeBack_54 : decode cX7_takeBack 54 = .ok (.aload_n 1, 1) := by decide +kernel
theorem dX7_takeBack_55 : decode cX7_takeBack 55 = .ok (.iload_n 2, 1) := by decide +kernel
theorem dX7_takeBack_56 : decode cX7_takeBack 56 = .ok (.putfield 38, 3) := by decide +kernel
theorem dX7_takeBack_59 : decode cX7_takeBack 59 = .ok (.return_, 1) := by decide +kernel
theorem dX7_become_0 : decode cX7_become 0 = .ok (.iconst 0, 1) := by decide +kernel
theorem dX7_become_1 : decode cX7_become 1 = .ok (.istore_n 2, 1) := by decide +kernel
theorem dX7_become_2 : decode cX7_become 2 = .ok (.iload_n 2, 1) := by decide +kernel
theorem dX7_become_3 : decode cX7_become 3 = .ok (.bipush 20, 2) := by decide +kernel
theorem dX7_become_5 : decode cX7_become 5 = .ok (.if_icmp .ge 39, 3) := by decide +kernel
theorem dX7_become_8 : decode cX7_become 8 = .ok (.aload_n 0, 1) := by decide +kernel
theorem dX7_become_9 : decode cX7_become 9 = .ok (.getfield 11, 3) := by decide +kernel
theorem dX7_become_12 : decode cX7_become 12 = .ok (.iload_n 2, 1) := by decide +kernel
theorem dX7_become_13 : decode cX7_become 13 = .ok (.aaload, 1) := by decide +kernel
theorem dX7_become_14 : decode cX7_become 14 = .ok (.astore_n 3, 1) := by decide +kernel
theorem dX7_become_15 : decode cX7_become 15 = .ok (.aload_n 1, 1) := by decide +kernel
theorem dX7_become_16 : decode cX7_become 16 = .ok (.getfield 11, 3) := by decide +kernel
theorem dX7_become_19 : decode cX7_become 19 = .ok (.iload_n 2, 1) := by decide +kernel
theorem dX7_become_20 : decode cX7_become 20 = .ok (.aaload, 1) := by decide +kernel
theorem dX7_become_21 : decode cX7_become 21 = .ok (.astore 4, 2) := by decide +kernel
theorem dX7_become_23 : decode cX7_become 23 = .ok (.aload_n 3, 1) := by decide +kernel
theorem dX7_become_24 : decode cX7_become 24 = .ok (.ifnull 14, 3) := by decide +kernel
theorem dX7_become_27 : decode cX7_become 27 = .ok (.aload 4, 2) := by decide +kernel
theorem dX7_become_29 : decode cX7_become 29 = .ok (.ifnull 9, 3) := by decide +kernel
theorem dX7_become_32 : decode cX7_become 32 = .ok (.aload_n 3, 1) := by decide +kernel
theorem dX7_become_33 : decode cX7_become 33 = .ok (.aload 4, 2) := by decide +kernel
theorem dX7_become_35 : decode cX7_become 35 = .ok (.invokevirtual 22, 3) := by decide +kernel
theorem dX7_become_38 : decode cX7_become 38 = .ok (.iinc 2 1, 3) := by decide +kernel
theorem dX7_become_41 : decode cX7_become 41 = .ok (.goto (-39), 3) := by decide +kernel
theorem dX7_become_44 : decode cX7_become 44 = .ok (.aload_n 0, 1) := by decide +kernel
theorem dX7_become_45 : decode cX7_become 45 = .ok (.aload_n 1, 1) := by decide +kernel
theorem dX7_become_46 : decode cX7_become 46 = .ok (.getfield 18, 3) := by decide +kernel
theorem dX7_become_49 : decode cX7_become 49 = .ok (.putfield 18, 3) := by decide +kernel
theorem dX7_become_52 : decode cX7_become 52 = .ok (.aload_n 0, 1) := by decide +kernel
theorem dX7_become_53 : decode cX7_become 53 = .ok (.aload_n 1, 1) := by decide +kernel
theorem dX7_become_54 : decode cX7_become 54 = .ok (.getfield 26, 3) := by decide +kernel
theorem dX7_become_57 : decode cX7_become 57 = .ok (.putfield 26, 3) := by decide +kernel
theorem dX7_become_60 : decode cX7_become 60 = .ok (.return_, 1) := by decide +kernel
theorem dX8_init_0 : decode cX8_init 0 = .ok (.aload_n 0, 1) := by decide +kernel
theorem dX8_init_1 : decode cX8_init 1 = .ok (.invokespecial 1, 3) := by decide +kernel
theorem dX8_init_4 : decode cX8_init 4 = .ok (.aload_n 0, 1) := by decide +kernel
theorem dX8_init_5 : decode cX8_init 5 = .ok (.aload_n 1, 1) := by decide +kernel
theorem dX8_init_6 : decode cX8_init 6 = .ok (.getfield 7, 3) := by decide +kernel
theorem dX8_init_9 : decode cX8_init 9 = .ok (.putfield 13, 3) := by decide +kernel
theorem dX8_init_12 : decode cX8_init 12 = .ok (.aload_n 0, 1) := by decide +kernel
theorem dX8_init_13 : decode cX8_init 13 = .ok (.aload_n 1, 1) := by decide +kernel
theorem dX8_init_14 : decode cX8_init 14 = .ok (.getfield 18, 3) := by decide +kernel
theorem dX8_init_17 : decode cX8_init 17 = .ok (.aload_n 0, 1) := by decide +kernel
theorem dX8_init_18 : decode cX8_init 18 = .ok (.getfield 13, 3) := by decide +kernel
theorem dX8_init_21 : decode cX8_init 21 = .ok (.iconst 4, 1) := by decide +kernel
theorem dX8_init_22 : decode cX8_init 22 = .ok (.imul, 1) := by decide +kernel
theorem dX8_init_23 : decode cX8_init 23 = .ok (.invokestatic 22, 3) := by decide +kernel
theorem dX8_init_26 : decode cX8_init 26 = .ok (.putfield 28, 3) := by decide +kernel
theorem dX8_init_29 : decode cX8_init 29 = .ok (.aload_n 0, 1) := by decide +kernel
theorem dX8_init_30 : decode cX8_init 30 = .ok (.aload_n 1, 1) := by decide +kernel
theorem dX8_init_31 : decode cX8_init 31 = .ok (.getfield 29, 3) := by decide +kernel
theorem dX8_init_34 : decode cX8_init 34 = .ok (.aload_n 1, 1) := by decide +kernel
theorem dX8_init_35 : decode cX8_init 35 = .ok (.getfield 32, 3) := by decide +kernel
theorem dX8_init_38 : decode cX8_init 38 = .ok (.invokestatic 22, 3) := by decide +kernel
theorem dX8_init_41 : decode cX8_init 41 = .ok (.putfield 35, 3) := by decide +kernel
theorem dX8_init_44 : decode cX8_init 44 = .ok (.aload_n 0, 1) := by decide +kernel
theorem dX8_init_45 : decode cX8_init 45 = .ok (.aload_n 1, 1) := by decide +kernel
theorem dX8_init_46 : decode cX8_init 46 = .ok (.getfield 36, 3) := by decide +kernel
theorem dX8_init_49 : decode cX8_init 49 = .ok (.invokevirtual 39, 3) := by decide +kernel
theorem dX8_init_52 : decode cX8_init 52 = .ok (.checkcast 40, 3) := by decide +kernel
theorem dX8_init_55 : decode cX8_init 55 = .ok (.putfield 44, 3) := by decide +kernel
theorem dX8_init_58 : decode cX8_init 58 = .ok (.aload_n 0, 1) := by decide +kernel
theorem dX8_init_59 : decode cX8_init 59 = .ok (.aload_n 1, 1) := by decide +kernel
theorem dX8_init_60 : decode cX8_init 60 = .ok (.getfield 45, 3) := by decide +kernel
theorem dX8_init_63 : decode cX8_init 63 = .ok (.invokevirtual 39, 3) := by decide +kernel
theorem dX8_init_66 : decode cX8_init 66 = .ok (.checkcast 40, 3) := by decide +kernel
theorem dX8_init_69 : decode cX8_init 69 = .ok (.putfield 48, 3) := by decide +kernel
theorem dX8_init_72 : decode cX8_init 72 = .ok (.aload_n 0, 1) := by decide +kernel
theorem dX8_init_73 : decode cX8_init 73 = .ok (.aload_n 1, 1) := by decide +kernel
theorem dX8_init_74 : decode cX8_init 74 = .ok (.getfield 49, 3) := by decide +kernel
theorem dX8_init_77 : decode cX8_init 77 = .ok (.invokevirtual 39, 3) := by decide +kernel
theorem dX8_init_80 : decode cX8_init 80 = .ok (.checkcast 40, 3) := by decide +kernel
theorem dX8_init_83 : decode cX8_init 83 = .ok (.putfield 52, 3) := by decide +kernel
theorem dX8_init_86 : decode cX8_init 86 = .ok (.return_, 1) := by decide +kernel
theorem dX9_init_0 : decode cX9_init 0 = .ok (.aload_n 0, 1) := by decide +kernel
theorem dX9_init_1 : decode cX9_init 1 = .ok (.invokespecial 3, 3) := by decide +kernel
theorem dX9_init_4 : decode cX9_init 4 = .ok (.aload_n 0, 1) := by decide +kernel
theorem dX9_init_5 : decode cX9_init 5 = .ok (.bipush 10, 2) := by decide +kernel
theorem dX9_init_7 : decode cX9_init 7 = .ok (.newarray .int, 2) := by decide +kernel
theorem dX9_init_9 : decode cX9_init 9 = .ok (.putfield 9, 3) := by decide +kernel
theorem dX9_init_12 : decode cX9_init 12 = .ok (.aload_n 0, 1) := by decide +kernel
theorem dX9_init_13 : decode cX9_init 13 = .ok (.bipush 10, 2) := by decide +kernel
theorem dX9_init_15 : decode cX9_init 15 = .ok (.newarray .int, 2) := by decide +kernel
theorem dX9_init_17 : decode cX9_init 17 = .ok (.putfield 15, 3) := by decide +kernel
theorem dX9_init_20 : decode cX9_init 20 = .ok (.aload_n 0, 1) := by decide +kernel
theorem dX9_init_21 : decode cX9_init 21 = .ok (.bipush 16, 2) := by decide +kernel
theorem dX9_init_23 : decode cX9_init 23 = .ok (.newarray .int, 2) := by decide +kernel
theorem dX9_init_25 : decode cX9_init 25 = .ok (.putfield 18, 3) := by decide +kernel
theorem dX9_init_28 : decode cX9_init 28 = .ok (.aload_n 0, 1) := by decide +kernel
theorem dX9_init_29 : decode cX9_init 29 = .ok (.new 21, 3) := by decide +kernel
theorem dX9_init_32 : decode cX9_init 32 = .ok (.dup, 1) := by decide +kernel
theorem dX9_init_33 : decode cX9_init 33 = .ok (.invokespecial 23, 3) := by decide +kernel
theorem dX9_init_36 : decode cX9_init 36 = .ok (.putfield 24, 3) := by decide +kernel
theorem dX9_init_39 : decode cX9_init 39 = .ok (.aload_n 0, 1) := by decide +kernel
theorem dX9_init_40 : decode cX9_init 40 = .ok (.new 28, 3) := by decide +kernel
theorem dX9_init_43 : decode cX9_init 43 = .ok (.dup, 1) := by decide +kernel
theorem dX9_init_44 : decode cX9_init 44 = .ok (.invokespecial 30, 3) := by decide +kernel
theorem dX9_init_47 : decode cX9_init 47 = .ok (.putfield 31, 3) := by decide +kernel
theorem dX9_init_50 : decode cX9_init 50 = .ok (.aload_n 0, 1) := by decide +kernel
theorem dX9_init_51 : decode cX9_init 51 = .ok (.iconst 4, 1) := by decide +kernel
theorem dX9_init_52 : decode cX9_init 52 = .ok (.anewarray 35, 3) := by decide +kernel
theorem dX9_init_55 : decode cX9_init 55 = .ok (.putfield 37, 3) := by decide +kernel
theorem dX9_init_58 : decode cX9_init 58 = .ok (.aload_n 0, 1) := by decide +kernel
theorem dX9_init_59 : decode cX9_init 59 = .ok (.new 41, 3) := by decide +kernel
theorem dX9_init_62 : decode cX9_init 62 = .ok (.dup, 1) := by decide +kernel
theorem dX9_init_63 : decode cX9_init 63 = .ok (.invokespecial 43, 3) := by decide +kernel
theorem dX9_init_66 : decode cX9_init 66 = .ok (.putfield 44, 3) := by decide +kernel
theorem dX9_init_69 : decode cX9_init 69 = .ok (.aload_n 0, 1) := by decide +kernel
theorem dX9_init_70 : decode cX9_init 70 = .ok (.iconst (-1), 1) := by decide +kernel
theorem dX9_init_71 : decode cX9_init 71 = .ok (.putfield 48, 3) := by decide +kernel
theorem dX9_init_74 : decode cX9_init 74 = .ok (.return_, 1) := by decide +kernel
theorem dX9_become_0 : decode cX9_become 0 = .ok (.aload_n 1, 1) := by decide +kernel
theorem dX9_become_1 : decode cX9_become 1 = .ok (.getfield 9, 3) := by decide +kernel
theorem dX9_become_4 : decode cX9_become 4 = .ok (.iconst 0, 1) := by decide +kernel
theorem dX9_become_5 : decode cX9_become 5 = .ok (.aload_n 0, 1) := by decide +kernel
theorem dX9_become_6 : decode cX9_become 6 = .ok (.getfield 9, 3) := by decide +kernel
theorem dX9_become_9 : decode cX9_become 9 = .ok (.iconst 0, 1) := by decide +kernel
theorem dX9_become_10 : decode cX9_become 10 = .ok (.bipush 10, 2) := by decide +kernel
theorem dX9_become_12 : decode cX9_become 12 = .ok (.invokestatic 52, 3) := by decide +kernel
theorem dX9_become_15 : decode cX9_become 15 = .ok (.aload_n 1, 1) := by decide +kernel
theorem dX9_become_16 : decode cX9_become 16 = .ok (.getfield 15, 3) := by decide +kernel
theorem dX9_become_19 : decode cX9_become 19 = .ok (.iconst 0, 1) := by decide +kernel
theorem dX9_become_20 : decode cX9_become 20 = .ok (.aload_n 0, 1) := by decide +kernel
theorem dX9_become_21 : decode cX9_become 21 = .ok (.getfield 15, 3) := by decide +kernel
theorem dX9_become_24 : decode cX9_become 24 = .ok (.iconst 0, 1) := by decide +kernel
theorem dX9_become_25 : decode cX9_become 25 = .ok (.bipush 10, 2) := by decide +kernel
theorem dX9_become_27 : decode cX9_become 27 = .ok (.invokestatic 52, 3) := by decide +kernel
theorem dX9_become_30 : decode cX9_become 30 = .ok (.aload_n 1, 1) := by decide +kernel
theorem dX9_become_31 : decode cX9_become 31 = .ok (.getfield 18, 3) := by decide +kernel
theorem dX9_become_34 : decode cX9_become 34 = .ok (.iconst 0, 1) := by decide +kernel
theorem dX9_become_35 : decode cX9_become 35 = .ok (.aload_n 0, 1) := by decide +kernel
theorem dX9_become_36 : decode cX9_become 36 = .ok (.getfield 18, 3) := by decide +kernel
theorem dX9_become_39 : decode cX9_become 39 = .ok (.iconst 0, 1) := by decide +kernel
theorem dX9_become_40 : decode cX9_become 40 = .ok (.bipush 16, 2) := by decide +kernel
theorem dX9_become_42 : decode cX9_become 42 = .ok (.invokestatic 52, 3) := by decide +kernel
theorem dX9_become_45 : decode cX9_become 45 = .ok (.aload_n 0, 1) := by decide +kernel
theorem dX9_become_46 : decode cX9_become 46 = .ok (.getfield 24, 3) := by decide +kernel
theorem dX9_become_49 : decode cX9_become 49 = .ok (.aload_n 1, 1) := by decide +kernel
theorem dX9_become_50 : decode cX9_become 50 = .ok (.getfield 24, 3) := by decide +kernel
theorem dX9_become_53 : decode cX9_become 53 = .ok (.invokevirtual 58, 3) := by decide +kernel
theorem dX9_become_56 : decode cX9_become 56 = .ok (.aload_n 0, 1) := by decide +kernel
theorem dX9_become_57 : decode cX9_become 57 = .ok (.getfield 31, 3) := by decide +kernel
theorem dX9_become_60 : decode cX9_become 60 = .ok (.aload_n 1, 1) := by decide +kernel
theorem dX9_become_61 : decode cX9_become 61 = .ok (.getfield 31, 3) := by decide +kernel
theorem dX9_become_64 : decode cX9_become 64 = .ok (.invokevirtual 62, 3) := by decide +kernel
theorem dX9_become_67 : decode cX9_become 67 = .ok (.iconst 0, 1) := by decide +kernel
theorem dX9_become_68 : decode cX9_become 68 = .ok (.istore_n 2, 1) := by decide +kernel
theorem dX9_become_69 : decode cX9_become 69 = .ok (.iload_n 2, 1) := by decide +kernel
theorem dX9_become_70 : decode cX9_become 70 = .ok (.iconst 4, 1) := by decide +kernel
theorem dX9_become_71 : decode cX9_become 71 = .ok (.if_icmp .ge 21, 3) := by decide +kernel
theorem dX9_become_74 : decode cX9_become 74 = .ok (.aload_n 0, 1) := by decide +kernel
theorem dX9_become_75 : decode cX9_become 75 = .ok (.getfield 37, 3) := by decide +kernel
theorem dX9_become_78 : decode cX9_become 78 = .ok (.iload_n 2, 1) := by decide +kernel
theorem dX9_become_79 : decode cX9_become 79 = .ok (.aload_n 1, 1) := by decide +kernel
theorem dX9_become_80 : decode cX9_become 80 = .ok (.getfield 37, 3) := by decide +kernel
theorem dX9_become_83 : decode cX9_become 83 = .ok (.iload_n 2, 1) := by decide +kernel
theorem dX9_become_84 : decode cX9_become 84 = .ok (.aaload, 1) := by decide +kernel
theorem dX9_become_85 : decode cX9_become 85 = .ok (.aastore, 1) := by decide +kernel
theorem dX9_become_86 : decode cX9_become 86 = .ok (.iinc 2 1, 3) := by decide +kernel
theorem dX9_become_89 : decode cX9_become 89 = .ok (.goto (-20), 3) := by decide +kernel
theorem dX9_become_92 : decode cX9_become 92 = .ok (.aload_n 0, 1) := by decide +kernel
theorem dX9_become_93 : decode cX9_become 93 = .ok (.getfield 44, 3) := by decide +kernel
theorem dX9_become_96 : decode cX9_become 96 = .ok (.aload_n 1, 1) := by decide +kernel
theorem dX9_become_97 : decode cX9_become 97 = .ok (.getfield 44, 3) := by decide +kernel
theorem dX9_become_100 : decode cX9_become 100 = .ok (.invokevirtual 65, 3) := by decide +kernel
theorem dX9_become_103 : decode cX9_become 103 = .ok (.aload_n 0, 1) := by decide +kernel
theorem dX9_become_104 : decode cX9_become 104 = .ok (.aload_n 1, 1) := by decide +kernel
theorem dX9_become_105 : decode cX9_become 105 = .ok (.getfield 68, 3) := by decide +kernel
theorem dX9_become_108 : decode cX9_become 108 = .ok (.putfield 68, 3) := by decide +kernel
theorem dX9_become_111 : decode cX9_become 111 = .ok (.aload_n 0, 1) := by decide +kernel
theorem dX9_become_112 : decode cX9_become 112 = .ok (.aload_n 1, 1) := by decide +kernel
theorem dX9_become_113 : decode cX9_become 113 = .ok (.getfield 71, 3) := by decide +kernel
theorem dX9_become_116 : decode cX9_become 116 = .ok (.putfield 71, 3) := by decide +kernel
theorem dX9_become_119 : decode cX9_become 119 = .ok (.aload_n 0, 1) := by decide +kernel
theorem dX9_become_120 : decode cX9_become 120 = .ok (.aload_n 1, 1) := by decide +kernel
theorem dX9_become_121 : decode cX9_become 121 = .ok (.getfield 48, 3) := by decide +kernel
theorem dX9_become_124 : decode cX9_become 124 = .ok (.putfield 48, 3) := by decide +kernel
theorem dX9_become_127 : decode cX9_become 127 = .ok (.aload_n 0, 1) := by decide +kernel
theorem dX9_become_128 : decode cX9_become 128 = .ok (.dup, 1) := by decide +kernel
theorem dX9_become_129 : decode cX9_become 129 = .ok (.getfield 74, 3) := by decide +kernel
theorem dX9_become_132 : decode cX9_become 132 = .ok (.iconst 1, 1) := by decide +kernel
theorem dX9_become_133 : decode cX9_become 133 = .ok (.iadd, 1) := by decide +kernel
theorem dX9_become_134 : decode cX9_become 134 = .ok (.putfield 74, 3) := by decide +kernel
theorem dX9_become_137 : decode cX9_become 137 = .ok (.return_, 1) := by decide +kernel
theorem dX9_hasTown_0 : decode cX9_hasTown 0 = .ok (.iload_n 1, 1) := by decide +kernel
theorem dX9_hasTown_1 : decode cX9_hasTown 1 = .ok (.ifCond .lt 15, 3) := by decide +kernel
theorem dX9_hasTown_4 : decode cX9_hasTown 4 = .ok (.iload_n 1, 1) := by decide +kernel
theorem dX9_hasTown_5 : decode cX9_hasTown 5 = .ok (.aload_n 0, 1) := by decide +kernel
theorem dX9_hasTown_6 : decode cX9_hasTown 6 = .ok (.getfield 68, 3) := by decide +kernel
theorem dX9_hasTown_9 : decode cX9_hasTown 9 = .ok (.if_icmp .ge 7, 3) := by decide +kernel
theorem dX9_hasTown_12 : decode cX9_hasTown 12 = .ok (.iconst 1, 1) := by decide +kernel
theorem dX9_hasTown_13 : decode cX9_hasTown 13 = .ok (.goto 4, 3) := by decide +kernel
theorem dX9_hasTown_16 : decode cX9_hasTown 16 = .ok (.iconst 0, 1) := by decide +kernel
theorem dX9_hasTown_17 : decode cX9_hasTown 17 = .ok (.ireturn, 1) := by decide +kernel
theorem dX9_hasTowns_0 : decode cX9_hasTowns 0 = .ok (.iload_n 1, 1) := by decide +kernel
theorem dX9_hasTowns_1 : decode cX9_hasTowns 1 = .ok (.ifCond .lt 17, 3) := by decide +kernel
theorem dX9_hasTowns_4 : decode cX9_hasTowns 4 = .ok (.iload_n 1, 1) := by decide +kernel
theorem dX9_hasTowns_5 : decode cX9_hasTowns 5 = .ok (.iconst 1, 1) := by decide +kernel
theorem dX9_hasTowns_6 : decode cX9_hasTowns 6 = .ok (.aload_n 0, 1) := by decide +kernel
theorem dX9_hasTowns_7 : decode cX9_hasTowns 7 = .ok (.getfield 68, 3) := by decide +kernel
theorem dX9_hasTowns_10 : decode cX9_hasTowns 10 = .ok (.ishl, 1) := by decide +kernel
theorem dX9_hasTowns_11 : decode cX9_hasTowns 11 = .ok (.if_icmp .ge 7, 3) := by decide +kernel
theorem dX9_hasTowns_14 : decode cX9_hasTowns 14 = .ok (.iconst 1, 1) := by decide +kernel
theorem dX9_hasTowns_15 : decode cX9_hasTowns 15 = .ok (.goto 4, 3) := by decide +kernel
theorem dX9_hasTowns_18 : decode cX9_hasTowns 18 = .ok (.iconst 0, 1) := by decide +kernel
theorem dX9_hasTowns_19 : decode cX9_hasTowns 19 = .ok (.ireturn, 1) := by decide +kernel
theorem dX9_hasBone_0 : decode cX9_hasBone 0 = .ok (.iload_n 1, 1) := by decide +kernel
theorem dX9_hasBone_1 : decode cX9_hasBone 1 = .ok (.ifCond .lt 18, 3) := by decide +kernel
theorem dX9_hasBone_4 : decode cX9_hasBone 4 = .ok (.iload_n 1, 1) := by decide +kernel
theorem dX9_hasBone_5 : decode cX9_hasBone 5 = .ok (.aload_n 0, 1) := by decide +kernel
theorem dX9_hasBone_6 : decode cX9_hasBone 6 = .ok (.getfield 24, 3) := by decide +kernel
theorem dX9_hasBone_9 : decode cX9_hasBone 9 = .ok (.getfield 77, 3) := by decide +kernel
theorem dX9_hasBone_12 : decode cX9_hasBone 12 = .ok (.if_icmp .ge 7, 3) := by decide +kernel
theorem dX9_hasBone_15 : decode cX9_hasBone 15 = .ok (.iconst 1, 1) := by decide +kernel
theorem dX9_hasBone_16 : decode cX9_hasBone 16 = .ok (.goto 4, 3) := by decide +kernel
theorem dX9_hasBone_19 : decode cX9_hasBone 19 = .ok (.iconst 0, 1) := by decide +kernel
theorem dX9_hasBone_20 : decode cX9_hasBone 20 = .ok (.ireturn, 1) := by decide +kernel
theorem dX9_milesBetween_0 : decode cX9_milesBetween 0 = .ok (.aload_n 0, 1) := by decide +kernel
theorem dX9_milesBetween_1 : decode cX9_milesBetween 1 = .ok (.getfield 9, 3) := by decide +kernel
theorem dX9_milesBetween_4 : decode cX9_milesBetween 4 = .ok (.iload_n 1, 1) := by decide +kernel
theorem dX9_milesBetween_5 : decode cX9_milesBetween 5 = .ok (.iaload, 1) := by decide +kernel
theorem dX9_milesBetween_6 : decode cX9_milesBetween 6 = .ok (.aload_n 0, 1) := by decide +kernel
theorem dX9_milesBetween_7 : decode cX9_milesBetween 7 = .ok (.getfield 9, 3) := by decide +kernel
theorem dX9_milesBetween_10 : decode cX9_milesBetween 10 = .ok (.iload_n 2, 1) := by decide +kernel
theorem dX9_milesBetween_11 : decode cX9_milesBetween 11 = .ok (.iaload, 1) := by decide +kernel
theorem dX9_milesBetween_12 : decode cX9_milesBetween 12 = .ok (.isub, 1) := by decide +kernel
theorem dX9_milesBetween_13 : decode cX9_milesBetween 13 = .ok (.invokestatic 80, 3) := by decide +kernel
theorem dX9_milesBetween_16 : decode cX9_milesBetween 16 = .ok (.aload_n 0, 1) := by decide +kernel
theorem dX9_milesBetween_17 : decode cX9_milesBetween 17 = .ok (.getfield 15, 3) := by decide +kernel
theorem dX9_milesBetween_20 : decode cX9_milesBetween 20 = .ok (.iload_n 1, 1) := by decide +kernel
theorem dX9_milesBetween_21 : decode cX9_milesBetween 21 = .ok (.iaload, 1) := by decide +kernel
theorem dX9_milesBetween_22 : decode cX9_milesBetween 22 = .ok (.aload_n 0, 1) := by decide +kernel
theorem dX9_milesBetween_23 : decode cX9_milesBetween 23 = .ok (.getfield 15, 3) := by decide +kernel
theorem dX9_milesBetween_26 : decode cX9_milesBetween 26 = .ok (.iload_n 2, 1) := by decide +kernel
theorem dX9_milesBetween_27 : decode cX9_milesBetween 27 = .ok (.iaload, 1) := by decide +kernel
theorem dX9_milesBetween_28 : decode cX9_milesBetween 28 = .ok (.isub, 1) := by decide +kernel
theorem dX9_milesBetween_29 : decode cX9_milesBetween 29 = .ok (.invokestatic 80, 3) := by decide +kernel
theorem dX9_milesBetween_32 : decode cX9_milesBetween 32 = .ok (.iadd, 1) := by decide +kernel
theorem dX9_milesBetween_33 : decode cX9_milesBetween 33 = .ok (.ireturn, 1) := by decide +kernel
theorem dX9_proofsOf_0 : decode cX9_proofsOf 0 = .ok (.iconst 0, 1) := by decide +kernel
theorem dX9_proofsOf_1 : decode cX9_proofsOf 1 = .ok (.istore_n 2, 1) := by decide +kernel
theorem dX9_proofsOf_2 : decode cX9_proofsOf 2 = .ok (.iconst 0, 1) := by decide +kernel
theorem dX9_proofsOf_3 : decode cX9_proofsOf 3 = .ok (.istore_n 3, 1) := by decide +kernel
theorem dX9_proofsOf_4 : decode cX9_proofsOf 4 = .ok (.iload_n 3, 1) := by decide +kernel
theorem dX9_proofsOf_5 : decode cX9_proofsOf 5 = .ok (.aload_n 0, 1) := by decide +kernel
theorem dX9_proofsOf_6 : decode cX9_proofsOf 6 = .ok (.getfield 68, 3) := by decide +kernel
theorem dX9_proofsOf_9 : decode cX9_proofsOf 9 = .ok (.if_icmp .ge 25, 3) := by decide +kernel
theorem dX9_proofsOf_12 : decode cX9_proofsOf 12 = .ok (.iload_n 2, 1) := by decide +kernel
theorem dX9_proofsOf_13 : decode cX9_proofsOf 13 = .ok (.aload_n 0, 1) := by decide +kernel
theorem dX9_proofsOf_14 : decode cX9_proofsOf 14 = .ok (.getfield 24, 3) := by decide +kernel
theorem dX9_proofsOf_17 : decode cX9_proofsOf 17 = .ok (.getfield 86, 3) := by decide +kernel
theorem dX9_proofsOf_20 : decode cX9_proofsOf 20 = .ok (.iload_n 3, 1) := by decide +kernel
theorem dX9_proofsOf_21 : decode cX9_proofsOf 21 = .ok (.iaload, 1) := by decide +kernel
theorem dX9_proofsOf_22 : decode cX9_proofsOf 22 = .ok (.iload_n 1, 1) := by decide +kernel
theorem dX9_proofsOf_23 : decode cX9_proofsOf 23 = .ok (.ishr, 1) := by decide +kernel
theorem dX9_proofsOf_24 : decode cX9_proofsOf 24 = .ok (.iconst 1, 1) := by decide +kernel
theorem dX9_proofsOf_25 : decode cX9_proofsOf 25 = .ok (.iand, 1) := by decide +kernel
theorem dX9_proofsOf_26 : decode cX9_proofsOf 26 = .ok (.iadd, 1) := by decide +kernel
theorem dX9_proofsOf_27 : decode cX9_proofsOf 27 = .ok (.istore_n 2, 1) := by decide +kernel
theorem dX9_proofsOf_28 : decode cX9_proofsOf 28 = .ok (.iinc 3 1, 3) := by decide +kernel
theorem dX9_proofsOf_31 : decode cX9_proofsOf 31 = .ok (.goto (-27), 3) := by decide +kernel
theorem dX9_proofsOf_34 : decode cX9_proofsOf 34 = .ok (.iload_n 2, 1) := by decide +kernel
theorem dX9_proofsOf_35 : decode cX9_proofsOf 35 = .ok (.ireturn, 1) := by decide +kernel
theorem dX9_aboutTown_0 : decode cX9_aboutTown 0 = .ok (.aload_n 0, 1) := by decide +kernel
theorem dX9_aboutTown_1 : decode cX9_aboutTown 1 = .ok (.iload_n 1, 1) := by decide +kernel
theorem dX9_aboutTown_2 : decode cX9_aboutTown 2 = .ok (.bipush 10, 2) := by decide +kernel
theorem dX9_aboutTown_4 : decode cX9_aboutTown 4 = .ok (.isub, 1) := by decide +kernel
theorem dX9_aboutTown_5 : decode cX9_aboutTown 5 = .ok (.invokevirtual 89, 3) := by decide +kernel
theorem dX9_aboutTown_8 : decode cX9_aboutTown 8 = .ok (.ifCond .eq 19, 3) := by decide +kernel
theorem dX9_aboutTown_11 : decode cX9_aboutTown 11 = .ok (.aload_n 0, 1) := by decide +kernel
theorem dX9_aboutTown_12 : decode cX9_aboutTown 12 = .ok (.getfield 24, 3) := by decide +kernel
theorem dX9_aboutTown_15 : decode cX9_aboutTown 15 = .ok (.getfield 86, 3) := by decide +kernel
theorem dX9_aboutTown_18 : decode cX9_aboutTown 18 = .ok (.iload_n 1, 1) := by decide +kernel
theorem dX9_aboutTown_19 : decode cX9_aboutTown 19 = .ok (.bipush 10, 2) := by decide +kernel
theorem dX9_aboutTown_21 : decode cX9_aboutTown 21 = .ok (.isub, 1) := by decide +kernel
theorem dX9_aboutTown_22 : decode cX9_aboutTown 22 = .ok (.iaload, 1) := by decide +kernel
theorem dX9_aboutTown_23 : decode cX9_aboutTown 23 = .ok (.invokestatic 93, 3) := by decide +kernel
theorem dX9_aboutTown_26 : decode cX9_aboutTown 26 = .ok (.ireturn, 1) := by decide +kernel
theorem dX9_aboutTown_27 : decode cX9_aboutTown 27 = .ok (.iload_n 1, 1) := by decide +kernel
theorem dX9_aboutTown_28 : decode cX9_aboutTown 28 = .ok (.bipush 20, 2) := by decide +kernel
theorem dX9_aboutTown_30 : decode cX9_aboutTown 30 = .ok (.if_icmp .lt 14, 3) := by decide +kernel
theorem dX9_aboutTown_33 : decode cX9_aboutTown 33 = .ok (.aload_n 0, 1) := by decide +kernel
theorem dX9_aboutTown_34 : decode cX9_aboutTown 34 = .ok (.iload_n 1, 1) := by decide +kernel
theorem dX9_aboutTown_35 : decode cX9_aboutTown 35 = .ok (.bipush 20, 2) := by decide +kernel
theorem dX9_aboutTown_37 : decode cX9_aboutTown 37 = .ok (.isub, 1) := by decide +kernel
theorem dX9_aboutTown_38 : decode cX9_aboutTown 38 = .ok (.invokevirtual 89, 3) := by decide +kernel
theorem dX9_aboutTown_41 : decode cX9_aboutTown 41 = .ok (.ifCond .ne 6, 3) := by decide +kernel
theorem dX9_aboutTown_44 : decode cX9_aboutTown 44 = .ok (.bipush (-2), 2) := by decide +kernel
theorem dX9_aboutTown_46 : decode cX9_aboutTown 46 = .ok (.ireturn, 1) := by decide +kernel
theorem dX9_aboutTown_47 : decode cX9_aboutTown 47 = .ok (.iconst 0, 1) := by decide +kernel
theorem dX9_aboutTown_48 : decode cX9_aboutTown 48 = .ok (.istore_n 2, 1) := by decide +kernel
theorem dX9_aboutTown_49 : decode cX9_aboutTown 49 = .ok (.iconst 0, 1) := by decide +kernel
theorem dX9_aboutTown_50 : decode cX9_aboutTown 50 = .ok (.istore_n 3, 1) := by decide +kernel
theorem dX9_aboutTown_51 : decode cX9_aboutTown 51 = .ok (.iload_n 3, 1) := by decide +kernel
theorem dX9_aboutTown_52 : decode cX9_aboutTown 52 = .ok (.aload_n 0, 1) := by decide +kernel
theorem dX9_aboutTown_53 : decode cX9_aboutTown 53 = .ok (.getfield 24, 3) := by decide +kernel
theorem dX9_aboutTown_56 : decode cX9_aboutTown 56 = .ok (.getfield 77, 3) := by decide +kernel
theorem dX9_aboutTown_59 : decode cX9_aboutTown 59 = .ok (.if_icmp .ge 28, 3) := by decide +kernel
theorem dX9_aboutTown_62 : decode cX9_aboutTown 62 = .ok (.aload_n 0, 1) := by decide +kernel
theorem dX9_aboutTown_63 : decode cX9_aboutTown 63 = .ok (.getfield 24, 3) := by decide +kernel
theorem dX9_aboutTown_66 : decode cX9_aboutTown 66 = .ok (.getfield 98, 3) := by decide +kernel
theorem dX9_aboutTown_69 : decode cX9_aboutTown 69 = .ok (.iload_n 3, 1) := by decide +kernel
theorem dX9_aboutTown_70 : decode cX9_aboutTown 70 = .ok (.iaload, 1) := by decide +kernel
theorem dX9_aboutTown_71 : decode cX9_aboutTown 71 = .ok (.iload_n 1, 1) := by decide +kernel
theorem dX9_aboutTown_72 : decode cX9_aboutTown 72 = .ok (.bipush 20, 2) := by decide +kernel
theorem dX9_aboutTown_74 : decode cX9_aboutTown 74 = .ok (.isub, 1) := by decide +kernel
theorem dX9_aboutTown_75 : decode cX9_aboutTown 75 = .ok (.if_icmp .ne 6, 3) := by decide +kernel
theorem dX9_aboutTown_78 : decode cX9_aboutTown 78 = .ok (.iinc 2 1, 3) := by decide +kernel
theorem dX9_aboutTown_81 : decode cX9_aboutTown 81 = .ok (.iinc 3 1, 3) := by decide +kernel
theorem dX9_aboutTown_84 : decode cX9_aboutTown 84 = .ok (.goto (-33), 3) := by decide +kernel
theorem dX9_aboutTown_87 : decode cX9_aboutTown 87 = .ok (.iload_n 2, 1) := by decide +kernel
theorem dX9_aboutTown_88 : decode cX9_aboutTown 88 = .ok (.ireturn, 1) := by decide +kernel
theorem dX9_ruler_0 : decode cX9_ruler 0 = .ok (.aload_n 0, 1) := by decide +kernel
theorem dX9_ruler_1 : decode cX9_ruler 1 = .ok (.getfield 48, 3) := by decide +kernel
theorem dX9_ruler_4 : decode cX9_ruler 4 = .ok (.ifCond .lt 14, 3) := by decide +kernel
theorem dX9_ruler_7 : decode cX9_ruler 7 = .ok (.aload_n 0, 1) := by decide +kernel
theorem dX9_ruler_8 : decode cX9_ruler 8 = .ok (.getfield 48, 3) := by decide +kernel
theorem dX9_ruler_11 : decode cX9_ruler 11 = .ok (.aload_n 0, 1) := by decide +kernel
theorem dX9_ruler_12 : decode cX9_ruler 12 = .ok (.getfield 71, 3) := by decide +kernel
theorem dX9_ruler_15 : decode cX9_ruler 15 = .ok (.if_icmp .lt 7, 3) := by decide +kernel
theorem dX9_ruler_18 : decode cX9_ruler 18 = .ok (.aconst_null, 1) := by decide +kernel
theorem dX9_ruler_19 : decode cX9_ruler 19 = .ok (.goto 12, 3) := by decide +kernel
theorem dX9_ruler_22 : decode cX9_ruler 22 = .ok (.aload_n 0, 1) := by decide +kernel
theorem dX9_ruler_23 : decode cX9_ruler 23 = .ok (.getfield 37, 3) := by decide +kernel
theorem dX9_ruler_26 : decode cX9_ruler 26 = .ok (.aload_n 0, 1) := by decide +kernel
theorem dX9_ruler_27 : decode cX9_ruler 27 = .ok (.getfield 48, 3) := by decide +kernel
theorem dX9_ruler_30 : decode cX9_ruler 30 = .ok (.aaload, 1) := by decide +kernel
theorem dX9_ruler_31 : decode cX9_ruler 31 = .ok (.areturn, 1) := by decide +kernel
theorem dX9_tellTown_0 : decode cX9_tellTown 0 = .ok (.aload_n 0, 1) := by decide +kernel
theorem dX9_tellTown_1 : decode cX9_tellTown 1 = .ok (.getfield 68, 3) := by decide +kernel
theorem dX9_tellTown_4 : decode cX9_tellTown 4 = .ok (.bipush 10, 2) := by decide +kernel
theorem dX9_tellTown_6 : decode cX9_tellTown 6 = .ok (.if_icmp .ge 23, 3) := by decide +kernel
theorem dX9_tellTown_9 : decode cX9_tellTown 9 = .ok (.iload_n 1, 1) := by decide +kernel
theorem dX9_tellTown_10 : decode cX9_tellTown 10 = .ok (.iconst 0, 1) := by decide +kernel
theorem dX9_tellTown_11 : decode cX9_tellTown 11 = .ok (.bipush 99, 2) := by decide +kernel
theorem dX9_tellTown_13 : decode cX9_tellTown 13 = .ok (.invokestatic 101, 3) := by decide +kernel
theorem dX9_tellTown_16 : decode cX9_tellTown 16 = .ok (.ifCond .eq 13, 3) := by decide +kernel
theorem dX9_tellTown_19 : decode cX9_tellTown 19 = .ok (.iload_n 2, 1) := by decide +kernel
theorem dX9_tellTown_20 : decode cX9_tellTown 20 = .ok (.iconst 0, 1) := by decide +kernel
theorem dX9_tellTown_21 : decode cX9_tellTown 21 = .ok (.bipush 99, 2) := by decide +kernel
theorem dX9_tellTown_23 : decode cX9_tellTown 23 = .ok (.invokestatic 101, 3) := by decide +kernel
theorem dX9_tellTown_26 : decode cX9_tellTown 26 = .ok (.ifCond .ne 5, 3) := by decide +kernel
theorem dX9_tellTown_29 : decode cX9_tellTown 29 = .ok (.iconst (-1), 1) := by decide +kernel
theorem dX9_tellTown_30 : decode cX9_tellTown 30 = .ok (.ireturn, 1) := by decide +kernel
theorem dX9_tellTown_31 : decode cX9_tellTown 31 = .ok (.aload_n 0, 1) := by decide +kernel
theorem dX9_tellTown_32 : decode cX9_tellTown 32 = .ok (.getfield 9, 3) := by decide +kernel
theorem dX9_tellTown_35 : decode cX9_tellTown 35 = .ok (.aload_n 0, 1) := by decide +kernel
theorem dX9_tellTown_36 : decode cX9_tellTown 36 = .ok (.getfield 68, 3) := by decide +kernel
theorem dX9_tellTown_39 : decode cX9_tellTown 39 = .ok (.iload_n 1, 1) := by decide +kernel
theorem dX9_tellTown_40 : decode cX9_tellTown 40 = .ok (.iastore, 1) := by decide +kernel
theorem dX9_tellTown_41 : decode cX9_tellTown 41 = .ok (.aload_n 0, 1) := by decide +kernel
theorem dX9_tellTown_42 : decode cX9_tellTown 42 = .ok (.getfield 15, 3) := by decide +kernel
theorem dX9_tellTown_45 : decode cX9_tellTown 45 = .ok (.aload_n 0, 1) := by decide +kernel
theorem dX9_tellTown_46 : decode cX9_tellTown 46 = .ok (.getfield 68, 3) := by decide +kernel
theorem dX9_tellTown_49 : decode cX9_tellTown 49 = .ok (.iload_n 2, 1) := by decide +kernel
theorem dX9_tellTown_50 : decode cX9_tellTown 50 = .ok (.iastore, 1) := by decide +kernel
theorem dX9_tellTown_51 : decode cX9_tellTown 51 = .ok (.aload_n 0, 1) := by decide +kernel
theorem dX9_tellTown_52 : decode cX9_tellTown 52 = .ok (.dup, 1) := by decide +kernel
theorem dX9_tellTown_53 : decode cX9_tellTown 53 = .ok (.getfield 74, 3) := by decide +kernel
theorem dX9_tellTown_56 : decode cX9_tellTown 56 = .ok (.iconst 1, 1) := by decide +kernel
theorem dX9_tellTown_57 : decode cX9_tellTown 57 = .ok (.iadd, 1) := by decide +kernel
theorem dX9_tellTown_58 : decode cX9_tellTown 58 = .ok (.putfield 74, 3) := by decide +kernel
theorem dX9_tellTown_61 : decode cX9_tellTown 61 = .ok (.aload_n 0, 1) := by decide +kernel
theorem dX9_tellTown_62 : decode cX9_tellTown 62 = .ok (.dup, 1) := by decide +kernel
theorem dX9_tellTown_63 : decode cX9_tellTown 63 = .ok (.getfield 68, 3) := by decide +kernel
theorem dX9_tellTown_66 : decode cX9_tellTown 66 = .ok (.dup_x1, 1) := by decide +kernel
theorem dX9_tellTown_67 : decode cX9_tellTown 67 = .ok (.iconst 1, 1) := by decide +kernel
theorem dX9_tellTown_68 : decode cX9_tellTown 68 = .ok (.iadd, 1) := by decide +kernel
theorem dX9_tellTown_69 : decode cX9_tellTown 69 = .ok (.putfield 68, 3) := by decide +kernel
theorem dX9_tellTown_72 : decode cX9_tellTown 72 = .ok (.ireturn, 1) := by decide +kernel
theorem dX9_tellBone_0 : decode cX9_tellBone 0 = .ok (.aload_n 0, 1) := by decide +kernel
theorem dX9_tellBone_1 : decode cX9_tellBone 1 = .ok (.getfield 24, 3) := by decide +kernel
theorem dX9_tellBone_4 : decode cX9_tellBone 4 = .ok (.getfield 77, 3) := by decide +kernel
theorem dX9_tellBone_7 : decode cX9_tellBone 7 = .ok (.istore 4, 2) := by decide +kernel
theorem dX9_tellBone_9 : decode cX9_tellBone 9 = .ok (.iload 4, 2) := by decide +kernel
theorem dX9_tellBone_11 : decode cX9_tellBone 11 = .ok (.bipush 16, 2) := by decide +kernel
theorem dX9_tellBone_13 : decode cX9_tellBone 13 = .ok (.if_icmp .ge 32, 3) := by decide +kernel
theorem dX9_tellBone_16 : decode cX9_tellBone 16 = .ok (.iload_n 1, 1) := by decide +kernel
theorem dX9_tellBone_17 : decode cX9_tellBone 17 = .ok (.iconst 0, 1) := by decide +kernel
theorem dX9_tellBone_18 : decode cX9_tellBone 18 = .ok (.bipush 19, 2) := by decide +kernel
theorem dX9_tellBone_20 : decode cX9_tellBone 20 = .ok (.invokestatic 101, 3) := by decide +kernel
theorem dX9_tellBone_23 : decode cX9_tellBone 23 = .ok (.ifCond .eq 22, 3) := by decide +kernel
theorem dX9_tellBone_26 : decode cX9_tellBone 26 = .ok (.iload_n 2, 1) := by decide +kernel
theorem dX9_tellBone_27 : decode cX9_tellBone 27 = .ok (.iconst 1, 1) := by decide +kernel
theorem dX9_tellBone_28 : decode cX9_tellBone 28 = .ok (.sipush 999, 3) := by decide +kernel
theorem dX9_tellBone_31 : decode cX9_tellBone 31 = .ok (.invokestatic 101, 3) := by decide +kernel
theorem dX9_tellBone_34 : decode cX9_tellBone 34 = .ok (.ifCond .eq 11, 3) := by decide +kernel
theorem dX9_tellBone_37 : decode cX9_tellBone 37 = .ok (.aload_n 0, 1) := by decide +kernel
theorem dX9_tellBone_38 : decode cX9_tellBone 38 = .ok (.iload_n 3, 1) := by decide +kernel
theorem dX9_tellBone_39 : decode cX9_tellBone 39 = .ok (.invokevirtual 89, 3) := by decide +kernel
theorem dX9_tellBone_42 : decode cX9_tellBone 42 = .ok (.ifCond .ne 5, 3) := by decide +kernel
theorem dX9_tellBone_45 : decode cX9_tellBone 45 = .ok (.iconst (-1), 1) := by decide +kernel
theorem dX9_tellBone_46 : decode cX9_tellBone 46 = .ok (.ireturn, 1) := by decide +kernel
theorem dX9_tellBone_47 : decode cX9_tellBone 47 = .ok (.aload_n 0, 1) := by decide +kernel
theorem dX9_tellBone_48 : decode cX9_tellBone 48 = .ok (.getfield 18, 3) := by decide +kernel
theorem dX9_tellBone_51 : decode cX9_tellBone 51 = .ok (.iload 4, 2) := by decide +kernel
theorem dX9_tellBone_53 : decode cX9_tellBone 53 = .ok (.iload_n 1, 1) := by decide +kernel
theorem dX9_tellBone_54 : decode cX9_tellBone 54 = .ok (.iastore, 1) := by decide +kernel
theorem dX9_tellBone_55 : decode cX9_tellBone 55 = .ok (.aload_n 0, 1) := by decide +kernel
theorem dX9_tellBone_56 : decode cX9_tellBone 56 = .ok (.getfield 24, 3) := by decide +kernel
theorem dX9_tellBone_59 : decode cX9_tellBone 59 = .ok (.getfield 105, 3) := by decide +kernel
theorem dX9_tellBone_62 : decode cX9_tellBone 62 = .ok (.iload 4, 2) := by decide +kernel
theorem dX9_tellBone_64 : decode cX9_tellBone 64 = .ok (.iload_n 2, 1) := by decide +kernel
theorem dX9_tellBone_65 : decode cX9_tellBone 65 = .ok (.iastore, 1) := by decide +kernel
theorem dX9_tellBone_66 : decode cX9_tellBone 66 = .ok (.aload_n 0, 1) := by decide +kernel
theorem dX9_tellBone_67 : decode cX9_tellBone 67 = .ok (.getfield 24, 3) := by decide +kernel
theorem dX9_tellBone_70 : decode cX9_tellBone 70 = .ok (.getfield 108, 3) := by decide +kernel
theorem dX9_tellBone_73 : decode cX9_tellBone 73 = .ok (.iload 4, 2) := by decide +kernel
theorem dX9_tellBone_75 : decode cX9_tellBone 75 = .ok (.iload_n 3, 1) := by decide +kernel
theorem dX9_tellBone_76 : decode cX9_tellBone 76 = .ok (.iastore, 1) := by decide +kernel
theorem dX9_tellBone_77 : decode cX9_tellBone 77 = .ok (.aload_n 0, 1) := by decide +kernel
theorem dX9_tellBone_78 : decode cX9_tellBone 78 = .ok (.getfield 24, 3) := by decide +kernel
theorem dX9_tellBone_81 : decode cX9_tellBone 81 = .ok (.getfield 98, 3) := by decide +kernel
theorem dX9_tellBone_84 : decode cX9_tellBone 84 = .ok (.iload 4, 2) := by decide +kernel
theorem dX9_tellBone_86 : decode cX9_tellBone 86 = .ok (.iload_n 3, 1) := by decide +kernel
theorem dX9_tellBone_87 : decode cX9_tellBone 87 = .ok (.iastore, 1) := by decide +kernel
theorem dX9_tellBone_88 : decode cX9_tellBone 88 = .ok (.aload_n 0, 1) := by decide +kernel
theorem dX9_tellBone_89 : decode cX9_tellBone 89 = .ok (.getfield 24, 3) := by decide +kernel
theorem dX9_tellBone_92 : decode cX9_tellBone 92 = .ok (.getfield 111, 3) := by decide +kernel
theorem dX9_tellBone_95 : decode cX9_tellBone 95 = .ok (.iload 4, 2) := by decide +kernel
theorem dX9_tellBone_97 : decode cX9_tellBone 97 = .ok (.iconst (-1), 1) := by decide +kernel
theorem dX9_tellBone_98 : decode cX9_tellBone 98 = .ok (.iastore, 1) := by decide +kernel
theorem dX9_tellBone_99 : decode cX9_tellBone 99 = .ok (.aload_n 0, 1) := by decide +kernel
theorem dX9_tellBone_100 : decode cX9_tellBone 100 = .ok (.getfield 24, 3) := by decide +kernel
theorem dX9_tellBone_103 : decode cX9_tellBone 103 = .ok (.dup, 1) := by decide +kernel
theorem dX9_tellBone_104 : decode cX9_tellBone 104 = .ok (.getfield 77, 3) := by decide +kernel
theorem dX9_tellBone_107 : decode cX9_tellBone 107 = .ok (.iconst 1, 1) := by decide +kernel
theorem dX9_tellBone_108 : decode cX9_tellBone 108 = .ok (.iadd, 1) := by decide +kernel
theorem dX9_tellBone_109 : decode cX9_tellBone 109 = .ok (.putfield 77, 3) := by decide +kernel
theorem dX9_tellBone_112 : decode cX9_tellBone 112 = .ok (.aload_n 0, 1) := by decide +kernel
theorem dX9_tellBone_113 : decode cX9_tellBone 113 = .ok (.dup, 1) := by decide +kernel
theorem dX9_tellBone_114 : decode cX9_tellBone 114 = .ok (.getfield 74, 3) := by decide +kernel
theorem dX9_tellBone_117 : decode cX9_tellBone 117 = .ok (.iconst 1, 1) := by decide +kernel
theorem dX9_tellBone_118 : decode cX9_tellBone 118 = .ok (.iadd, 1) := by decide +kernel
theorem dX9_tellBone_119 : decode cX9_tellBone 119 = .ok (.putfield 74, 3) := by decide +kernel
theorem dX9_tellBone_122 : decode cX9_tellBone 122 = .ok (.iload 4, 2) := by decide +kernel
theorem dX9_tellBone_124 : decode cX9_tellBone 124 = .ok (.ireturn, 1) := by decide +kernel
theorem dX9_tellProof_0 : decode cX9_tellProof 0 = .ok (.aload_n 0, 1) := by decide +kernel
theorem dX9_tellProof_1 : decode cX9_tellProof 1 = .ok (.iload_n 1, 1) := by decide +kernel
theorem dX9_tellProof_2 : decode cX9_tellProof 2 = .ok (.invokevirtual 89, 3) := by decide +kernel
theorem dX9_tellProof_5 : decode cX9_tellProof 5 = .ok (.ifCond .eq 27, 3) := by decide +kernel
theorem dX9_tellProof_8 : decode cX9_tellProof 8 = .ok (.aload_n 0, 1) := by decide +kernel
theorem dX9_tellProof_9 : decode cX9_tellProof 9 = .ok (.iload_n 2, 1) := by decide +kernel
theorem dX9_tellProof_10 : decode cX9_tellProof 10 = .ok (.invokevirtual 114, 3) := by decide +kernel
theorem dX9_tellProof_13 : decode cX9_tellProof 13 = .ok (.ifCond .eq 19, 3) := by decide +kernel
theorem dX9_tellProof_16 : decode cX9_tellProof 16 = .ok (.aload_n 0, 1) := by decide +kernel
theorem dX9_tellProof_17 : decode cX9_tellProof 17 = .ok (.getfield 24, 3) := by decide +kernel
theorem dX9_tellProof_20 : decode cX9_tellProof 20 = .ok (.getfield 86, 3) := by decide +kernel
theorem dX9_tellProof_23 : decode cX9_tellProof 23 = .ok (.iload_n 1, 1) := by decide +kernel
theorem dX9_tellProof_24 : decode cX9_tellProof 24 = .ok (.iaload, 1) := by decide +kernel
theorem dX9_tellProof_25 : decode cX9_tellProof 25 = .ok (.iload_n 2, 1) := by decide +kernel
theorem dX9_tellProof_26 : decode cX9_tellProof 26 = .ok (.ishr, 1) := by decide +kernel
theorem dX9_tellProof_27 : decode cX9_tellProof 27 = .ok (.iconst 1, 1) := by decide +kernel
theorem dX9_tellProof_28 : decode cX9_tellProof 28 = .ok (.iand, 1) := by decide +kernel
theorem dX9_tellProof_29 : decode cX9_tellProof 29 = .ok (.ifCond .eq 5, 3) := by decide +kernel
theorem dX9_tellProof_32 : decode cX9_tellProof 32 = .ok (.iconst 0, 1) := by decide +kernel
theorem dX9_tellProof_33 : decode cX9_tellProof 33 = .ok (.ireturn, 1) := by decide +kernel
theorem dX9_tellProof_34 : decode cX9_tellProof 34 = .ok (.aload_n 0, 1) := by decide +kernel
theorem dX9_tellProof_35 : decode cX9_tellProof 35 = .ok (.invokevirtual 117, 3) := by decide +kernel
theorem dX9_tellProof_38 : decode cX9_tellProof 38 = .ok (.aload_n 0, 1) := by decide +kernel
theorem dX9_tellProof_39 : decode cX9_tellProof 39 = .ok (.getfield 24, 3) := by decide +kernel
theorem dX9_tellProof_42 : decode cX9_tellProof 42 = .ok (.getfield 86, 3) := by decide +kernel
theorem dX9_tellProof_45 : decode cX9_tellProof 45 = .ok (.iload_n 1, 1) := by decide +kernel
theorem dX9_tellProof_46 : decode cX9_tellProof 46 = .ok (.dup2, 1) := by decide +kernel
theorem dX9_tellProof_47 : decode cX9_tellProof 47 = .ok (.iaload, 1) := by decide +kernel
theorem dX9_tellProof_48 : decode cX9_tellProof 48 = .ok (.iconst 1, 1) := by decide +kernel
theorem dX9_tellProof_49 : decode cX9_tellProof 49 = .ok (.iload_n 2, 1) := by decide +kernel
theorem dX9_tellProof_50 : decode cX9_tellProof 50 = .ok (.ishl, 1) := by decide +kernel
theorem dX9_tellProof_51 : decode cX9_tellProof 51 = .ok (.ior, 1) := by decide +kernel
theorem dX9_tellProof_52 : decode cX9_tellProof 52 = .ok (.iastore, 1) := by decide +kernel
theorem dX9_tellProof_53 : decode cX9_tellProof 53 = .ok (.iconst 1, 1) := by decide +kernel
theorem dX9_tellProof_54 : decode cX9_tellProof 54 = .ok (.ireturn, 1) := by decide +kernel
theorem dX9_addText_0 : decode cX9_addText 0 = .ok (.aload_n 0, 1) := by decide +kernel
theorem dX9_addText_1 : decode cX9_addText 1 = .ok (.getfield 71, 3) := by decide +kernel
theorem dX9_addText_4 : decode cX9_addText 4 = .ok (.iconst 4, 1) := by decide +kernel
theorem dX9_addText_5 : decode cX9_addText 5 = .ok (.if_icmp .lt 5, 3) := by decide +kernel
theorem dX9_addText_8 : decode cX9_addText 8 = .ok (.iconst (-1), 1) := by decide +kernel
theorem dX9_addText_9 : decode cX9_addText 9 = .ok (.ireturn, 1) := by decide +kernel
theorem dX9_addText_10 : decode cX9_addText 10 = .ok (.aload_n 0, 1) := by decide +kernel
theorem dX9_addText_11 : decode cX9_addText 11 = .ok (.getfield 37, 3) := by decide +kernel
theorem dX9_addText_14 : decode cX9_addText 14 = .ok (.aload_n 0, 1) := by decide +kernel
theorem dX9_addText_15 : decode cX9_addText 15 = .ok (.getfield 71, 3) := by decide +kernel
theorem dX9_addText_18 : decode cX9_addText 18 = .ok (.aload_n 1, 1) := by decide +kernel
theorem dX9_addText_19 : decode cX9_addText 19 = .ok (.aastore, 1) := by decide +kernel
theorem dX9_addText_20 : decode cX9_addText 20 = .ok (.aload_n 0, 1) := by decide +kernel
theorem dX9_addText_21 : decode cX9_addText 21 = .ok (.dup, 1) := by decide +kernel
theorem dX9_addText_22 : decode cX9_addText 22 = .ok (.getfield 74, 3) := by decide +kernel
theorem dX9_addText_25 : decode cX9_addText 25 = .ok (.iconst 1, 1) := by decide +kernel
theorem dX9_addText_26 : decode cX9_addText 26 = .ok (.iadd, 1) := by decide +kernel
theorem dX9_addText_27 : decode cX9_addText 27 = .ok (.putfield 74, 3) := by decide +kernel
theorem dX9_addText_30 : decode cX9_addText 30 = .ok (.aload_n 0, 1) := by decide +kernel
theorem dX9_addText_31 : decode cX9_addText 31 = .ok (.dup, 1) := by decide +kernel
theorem dX9_addText_32 : decode cX9_addText 32 = .ok (.getfield 71, 3) := by decide +kernel
theorem dX9_addText_35 : decode cX9_addText 35 = .ok (.dup_x1, 1) := by decide +kernel
theorem dX9_addText_36 : decode cX9_addText 36 = .ok (.iconst 1, 1) := by decide +kernel
theorem dX9_addText_37 : decode cX9_addText 37 = .ok (.iadd, 1) := by decide +kernel
theorem dX9_addText_38 : decode cX9_addText 38 = .ok (.putfield 71, 3) := by decide +kernel
theorem dX9_addText_41 : decode cX9_addText 41 = .ok (.ireturn, 1) := by decide +kernel
theorem dX9_ruleBy_0 : decode cX9_ruleBy 0 = .ok (.iload_n 1, 1) := by decide +kernel
theorem dX9_ruleBy_1 : decode cX9_ruleBy 1 = .ok (.iconst (-1), 1) := by decide +kernel
theorem dX9_ruleBy_2 : decode cX9_ruleBy 2 = .ok (.if_icmp .lt 11, 3) := by decide +kernel
theorem dX9_ruleBy_5 : decode cX9_ruleBy 5 = .ok (.iload_n 1, 1) := by decide +kernel
theorem dX9_ruleBy_6 : decode cX9_ruleBy 6 = .ok (.aload_n 0, 1) := by decide +kernel
theorem dX9_ruleBy_7 : decode cX9_ruleBy 7 = .ok (.getfield 71, 3) := by decide +kernel
theorem dX9_ruleBy_10 : decode cX9_ruleBy 10 = .ok (.if_icmp .lt 5, 3) := by decide +kernel
theorem dX9_ruleBy_13 : decode cX9_ruleBy 13 = .ok (.iconst 0, 1) := by decide +kernel
theorem dX9_ruleBy_14 : decode cX9_ruleBy 14 = .ok (.ireturn, 1) := by decide +kernel
theorem dX9_ruleBy_15 : decode cX9_ruleBy 15 = .ok (.aload_n 0, 1) := by decide +kernel
theorem dX9_ruleBy_16 : decode cX9_ruleBy 16 = .ok (.iload_n 1, 1) := by decide +kernel
theorem dX9_ruleBy_17 : decode cX9_ruleBy 17 = .ok (.putfield 48, 3) := by decide +kernel
theorem dX9_ruleBy_20 : decode cX9_ruleBy 20 = .ok (.aload_n 0, 1) := by decide +kernel
theorem dX9_ruleBy_21 : decode cX9_ruleBy 21 = .ok (.dup, 1) := by decide +kernel
theorem dX9_ruleBy_22 : decode cX9_ruleBy 22 = .ok (.getfield 74, 3) := by decide +kernel
theorem dX9_ruleBy_25 : decode cX9_ruleBy 25 = .ok (.iconst 1, 1) := by decide +kernel
theorem dX9_ruleBy_26 : decode cX9_ruleBy 26 = .ok (.iadd, 1) := by decide +kernel
theorem dX9_ruleBy_27 : decode cX9_ruleBy 27 = .ok (.putfield 74, 3) := by decide +kernel
theorem dX9_ruleBy_30 : decode cX9_ruleBy 30 = .ok (.iconst 1, 1) := by decide +kernel
theorem dX9_ruleBy_31 : decode cX9_ruleBy 31 = .ok (.ireturn, 1) := by decide +kernel
theorem dX9_lendTo_0 : decode cX9_lendTo 0 = .ok (.aload_n 0, 1) := by decide +kernel
theorem dX9_lendTo_1 : decode cX9_lendTo 1 = .ok (.iload_n 1, 1) := by decide +kernel
theorem dX9_lendTo_2 : decode cX9_lendTo 2 = .ok (.invokevirtual 114, 3) := by decide +kernel
theorem dX9_lendTo_5 : decode cX9_lendTo 5 = .ok (.ifCond .eq 21, 3) := by decide +kernel
theorem dX9_lendTo_8 : decode cX9_lendTo 8 = .ok (.aload_n 0, 1) := by decide +kernel
theorem dX9_lendTo_9 : decode cX9_lendTo 9 = .ok (.iload_n 2, 1) := by decide +kernel
theorem dX9_lendTo_10 : decode cX9_lendTo 10 = .ok (.invokevirtual 89, 3) := by decide +kernel
theorem dX9_lendTo_13 : decode cX9_lendTo 13 = .ok (.ifCond .eq 13, 3) := by decide +kernel
theorem dX9_lendTo_16 : decode cX9_lendTo 16 = .ok (.iload_n 3, 1) := by decide +kernel
theorem dX9_lendTo_17 : decode cX9_lendTo 17 = .ok (.iconst 1, 1) := by decide +kernel
theorem dX9_lendTo_18 : decode cX9_lendTo 18 = .ok (.bipush 99, 2) := by decide +kernel
theorem dX9_lendTo_20 : decode cX9_lendTo 20 = .ok (.invokestatic 101, 3) := by decide +kernel
theorem dX9_lendTo_23 : decode cX9_lendTo 23 = .ok (.ifCond .ne 5, 3) := by decide +kernel
theorem dX9_lendTo_26 : decode cX9_lendTo 26 = .ok (.iconst (-1), 1) := by decide +kernel
theorem dX9_lendTo_27 : decode cX9_lendTo 27 = .ok (.ireturn, 1) := by decide +kernel
theorem dX9_lendTo_28 : decode cX9_lendTo 28 = .ok (.aload_n 0, 1) := by decide +kernel
theorem dX9_lendTo_29 : decode cX9_lendTo 29 = .ok (.getfield 24, 3) := by decide +kernel
theorem dX9_lendTo_32 : decode cX9_lendTo 32 = .ok (.getfield 120, 3) := by decide +kernel
theorem dX9_lendTo_35 : decode cX9_lendTo 35 = .ok (.iload_n 3, 1) := by decide +kernel
theorem dX9_lendTo_36 : decode cX9_lendTo 36 = .ok (.iadd, 1) := by decide +kernel
theorem dX9_lendTo_37 : decode cX9_lendTo 37 = .ok (.istore 4, 2) := by decide +kernel
theorem dX9_lendTo_39 : decode cX9_lendTo 39 = .ok (.aload_n 0, 1) := by decide +kernel
theorem dX9_lendTo_40 : decode cX9_lendTo 40 = .ok (.getfield 24, 3) := by decide +kernel
theorem dX9_lendTo_43 : decode cX9_lendTo 43 = .ok (.getfield 98, 3) := by decide +kernel
theorem dX9_lendTo_46 : decode cX9_lendTo 46 = .ok (.iload_n 1, 1) := by decide +kernel
theorem dX9_lendTo_47 : decode cX9_lendTo 47 = .ok (.iaload, 1) := by decide +kernel
theorem dX9_lendTo_48 : decode cX9_lendTo 48 = .ok (.aload_n 0, 1) := by decide +kernel
theorem dX9_lendTo_49 : decode cX9_lendTo 49 = .ok (.getfield 24, 3) := by decide +kernel
theorem dX9_lendTo_52 : decode cX9_lendTo 52 = .ok (.getfield 108, 3) := by decide +kernel
theorem dX9_lendTo_55 : decode cX9_lendTo 55 = .ok (.iload_n 1, 1) := by decide +kernel
theorem dX9_lendTo_56 : decode cX9_lendTo 56 = .ok (.iaload, 1) := by decide +kernel
theorem dX9_lendTo_57 : decode cX9_lendTo 57 = .ok (.if_icmp .ne 20, 3) := by decide +kernel
theorem dX9_lendTo_60 : decode cX9_lendTo 60 = .ok (.aload_n 0, 1) := by decide +kernel
theorem dX9_lendTo_61 : decode cX9_lendTo 61 = .ok (.getfield 24, 3) := by decide +kernel
theorem dX9_lendTo_64 : decode cX9_lendTo 64 = .ok (.getfield 111, 3) := by decide +kernel
theorem dX9_lendTo_67 : decode cX9_lendTo 67 = .ok (.iload_n 1, 1) := by decide +kernel
theorem dX9_lendTo_68 : decode cX9_lendTo 68 = .ok (.iaload, 1) := by decide +kernel
theorem dX9_lendTo_69 : decode cX9_lendTo 69 = .ok (.iconst (-1), 1) := by decide +kernel
theorem dX9_lendTo_70 : decode cX9_lendTo 70 = .ok (.if_icmp .ne 7, 3) := by decide +kernel
theorem dX9_lendTo_73 : decode cX9_lendTo 73 = .ok (.iconst 1, 1) := by decide +kernel
theorem dX9_lendTo_74 : decode cX9_lendTo 74 = .ok (.goto 4, 3) := by decide +kernel
theorem dX9_lendTo_77 : decode cX9_lendTo 77 = .ok (.iconst 0, 1) := by decide +kernel
theorem dX9_lendTo_78 : decode cX9_lendTo 78 = .ok (.istore 5, 2) := by decide +kernel
theorem dX9_lendTo_80 : decode cX9_lendTo 80 = .ok (.iload 5, 2) := by decide +kernel
theorem dX9_lendTo_82 : decode cX9_lendTo 82 = .ok (.ifCond .eq 24, 3) := by decide +kernel
theorem dX9_lendTo_85 : decode cX9_lendTo 85 = .ok (.aload_n 0, 1) := by decide +kernel
theorem dX9_lendTo_86 : decode cX9_lendTo 86 = .ok (.getfield 24, 3) := by decide +kernel
theorem dX9_lendTo_89 : decode cX9_lendTo 89 = .ok (.getfield 98, 3) := by decide +kernel
theorem dX9_lendTo_92 : decode cX9_lendTo 92 = .ok (.iload_n 1, 1) := by decide +kernel
theorem dX9_lendTo_93 : decode cX9_lendTo 93 = .ok (.iaload, 1) := by decide +kernel
theorem dX9_lendTo_94 : decode cX9_lendTo 94 = .ok (.iload_n 2, 1) := by decide +kernel
theorem dX9_lendTo_95 : decode cX9_lendTo 95 = .ok (.if_icmp .eq 11, 3) := by decide +kernel
theorem dX9_lendTo_98 : decode cX9_lendTo 98 = .ok (.iload 4, 2) := by decide +kernel
theorem dX9_lendTo_100 : decode cX9_lendTo 100 = .ok (.sipush 999, 3) := by decide +kernel
theorem dX9_lendTo_103 : decode cX9_lendTo 103 = .ok (.if_icmp .le 5, 3) := by decide +kernel
theorem dX9_lendTo_106 : decode cX9_lendTo 106 = .ok (.iconst (-1), 1) := by decide +kernel
theorem dX9_lendTo_107 : decode cX9_lendTo 107 = .ok (.ireturn, 1) := by decide +kernel
theorem dX9_lendTo_108 : decode cX9_lendTo 108 = .ok (.aload_n 0, 1) := by decide +kernel
theorem dX9_lendTo_109 : decode cX9_lendTo 109 = .ok (.invokevirtual 117, 3) := by decide +kernel
theorem dX9_lendTo_112 : decode cX9_lendTo 112 = .ok (.aload_n 0, 1) := by decide +kernel
theorem dX9_lendTo_113 : decode cX9_lendTo 113 = .ok (.getfield 24, 3) := by decide +kernel
theorem dX9_lendTo_116 : decode cX9_lendTo 116 = .ok (.getfield 98, 3) := by decide +kernel
theorem dX9_lendTo_119 : decode cX9_lendTo 119 = .ok (.iload_n 1, 1) := by decide +kernel
theorem dX9_lendTo_120 : decode cX9_lendTo 120 = .ok (.iload_n 2, 1) := by decide +kernel
theorem dX9_lendTo_121 : decode cX9_lendTo 121 = .ok (.iastore, 1) := by decide +kernel
theorem dX9_lendTo_122 : decode cX9_lendTo 122 = .ok (.aload_n 0, 1) := by decide +kernel
theorem dX9_lendTo_123 : decode cX9_lendTo 123 = .ok (.getfield 24, 3) := by decide +kernel
theorem dX9_lendTo_126 : decode cX9_lendTo 126 = .ok (.getfield 111, 3) := by decide +kernel
theorem dX9_lendTo_129 : decode cX9_lendTo 129 = .ok (.iload_n 1, 1) := by decide +kernel
theorem dX9_lendTo_130 : decode cX9_lendTo 130 = .ok (.iload 4, 2) := by decide +kernel
theorem dX9_lendTo_132 : decode cX9_lendTo 132 = .ok (.iastore, 1) := by decide +kernel
theorem dX9_lendTo_133 : decode cX9_lendTo 133 = .ok (.iload 4, 2) := by decide +kernel
theorem dX9_lendTo_135 : decode cX9_lendTo 135 = .ok (.ireturn, 1) := by decide +kernel
theorem dX9_swapPlaces_0 : decode cX9_swapPlaces 0 = .ok (.aload_n 0, 1) := by decide +kernel
theorem dX9_swapPlaces_1 : decode cX9_swapPlaces 1 = .ok (.iload_n 1, 1) := by decide +kernel
theorem dX9_swapPlaces_2 : decode cX9_swapPlaces 2 = .ok (.invokevirtual 114, 3) := by decide +kernel
theorem dX9_swapPlaces_5 : decode cX9_swapPlaces 5 = .ok (.ifCond .eq 32, 3) := by decide +kernel
theorem dX9_swapPlaces_8 : decode cX9_swapPlaces 8 = .ok (.aload_n 0, 1) := by decide +kernel
theorem dX9_swapPlaces_9 : decode cX9_swapPlaces 9 = .ok (.iload_n 2, 1) := by decide +kernel
theorem dX9_swapPlaces_10 : decode cX9_swapPlaces 10 = .ok (.invokevirtual 114, 3) := by decide +kernel
theorem dX9_swapPlaces_13 : decode cX9_swapPlaces 13 = .ok (.ifCond .eq 24, 3) := by decide +kernel
theorem dX9_swapPlaces_16 : decode cX9_swapPlaces 16 = .ok (.aload_n 0, 1) := by decide +kernel
theorem dX9_swapPlaces_17 : decode cX9_swapPlaces 17 = .ok (.getfield 24, 3) := by decide +kernel
theorem dX9_swapPlaces_20 : decode cX9_swapPlaces 20 = .ok (.getfield 98, 3) := by decide +kernel
theorem dX9_swapPlaces_23 : decode cX9_swapPlaces 23 = .ok (.iload_n 1, 1) := by decide +kernel
theorem dX9_swapPlaces_24 : decode cX9_swapPlaces 24 = .ok (.iaload, 1) := by decide +kernel
theorem dX9_swapPlaces_25 : decode cX9_swapPlaces 25 = .ok (.aload_n 0, 1) := by decide +kernel
theorem dX9_swapPlaces_26 : decode cX9_swapPlaces 26 = .ok (.getfield 24, 3) := by decide +kernel
theorem dX9_swapPlaces_29 : decode cX9_swapPlaces 29 = .ok (.getfield 98, 3) := by decide +kernel
theorem dX9_swapPlaces_32 : decode cX9_swapPlaces 32 = .ok (.iload_n 2, 1) := by decide +kernel
theorem dX9_swapPlaces_33 : decode cX9_swapPlaces 33 = .ok (.iaload, 1) := by decide +kernel
theorem dX9_swapPlaces_34 : decode cX9_swapPlaces 34 = .ok (.if_icmp .ne 5, 3) := by decide +kernel
theorem dX9_swapPlaces_37 : decode cX9_swapPlaces 37 = .ok (.iconst 0, 1) := by decide +kernel
theorem dX9_swapPlaces_38 : decode cX9_swapPlaces 38 = .ok (.ireturn, 1) := by decide +kernel
theorem dX9_swapPlaces_39 : decode cX9_swapPlaces 39 = .ok (.aload_n 0, 1) := by decide +kernel
theorem dX9_swapPlaces_40 : decode cX9_swapPlaces 40 = .ok (.invokevirtual 117, 3) := by decide +kernel
theorem dX9_swapPlaces_43 : decode cX9_swapPlaces 43 = .ok (.aload_n 0, 1) := by decide +kernel
theorem dX9_swapPlaces_44 : decode cX9_swapPlaces 44 = .ok (.getfield 24, 3) := by decide +kernel
theorem dX9_swapPlaces_47 : decode cX9_swapPlaces 47 = .ok (.getfield 98, 3) := by decide +kernel
theorem dX9_swapPlaces_50 : decode cX9_swapPlaces 50 = .ok (.iload_n 1, 1) := by decide +kernel
theorem dX9_swapPlaces_51 : decode cX9_swapPlaces 51 = .ok (.iaload, 1) := by decide +kernel
theorem dX9_swapPlaces_52 : decode cX9_swapPlaces 52 = .ok (.istore_n 3, 1) := by decide +kernel
theorem dX9_swapPlaces_53 : decode cX9_swapPlaces 53 = .ok (.aload_n 0, 1) := by decide +kernel
theorem dX9_swapPlaces_54 : decode cX9_swapPlaces 54 = .ok (.getfield 24, 3) := by decide +kernel
theorem dX9_swapPlaces_57 : decode cX9_swapPlaces 57 = .ok (.getfield 98, 3) := by decide +kernel
theorem dX9_swapPlaces_60 : decode cX9_swapPlaces 60 = .ok (.iload_n 1, 1) := by decide +kernel
theorem dX9_swapPlaces_61 : decode cX9_swapPlaces 61 = .ok (.aload_n 0, 1) := by decide +kernel
theorem dX9_swapPlaces_62 : decode cX9_swapPlaces 62 = .ok (.getfield 24, 3) := by decide +kernel
theorem dX9_swapPlaces_65 : decode cX9_swapPlaces 65 = .ok (.getfield 98, 3) := by decide +kernel
theorem dX9_swapPlaces_68 : decode cX9_swapPlaces 68 = .ok (.iload_n 2, 1) := by decide +kernel
theorem dX9_swapPlaces_69 : decode cX9_swapPlaces 69 = .ok (.iaload, 1) := by decide +kernel
theorem dX9_swapPlaces_70 : decode cX9_swapPlaces 70 = .ok (.iastore, 1) := by decide +kernel
theorem dX9_swapPlaces_71 : decode cX9_swapPlaces 71 = .ok (.aload_n 0, 1) := by decide +kernel
theorem dX9_swapPlaces_72 : decode cX9_swapPlaces 72 = .ok (.getfield 24, 3) := by decide +kernel
theorem dX9_swapPlaces_75 : decode cX9_swapPlaces 75 = .ok (.getfield 98, 3) := by decide +kernel
theorem dX9_swapPlaces_78 : decode cX9_swapPlaces 78 = .ok (.iload_n 2, 1) := by decide +kernel
theorem dX9_swapPlaces_79 : decode cX9_swapPlaces 79 = .ok (.iload_n 3, 1) := by decide +kernel
theorem dX9_swapPlaces_80 : decode cX9_swapPlaces 80 = .ok (.iastore, 1) := by decide +kernel
theorem dX9_swapPlaces_81 : decode cX9_swapPlaces 81 = .ok (.iconst 1, 1) := by decide +kernel
theorem dX9_swapPlaces_82 : decode cX9_swapPlaces 82 = .ok (.ireturn, 1) := by decide +kernel
theorem dX9_stealTo_0 : decode cX9_stealTo 0 = .ok (.aload_n 0, 1) := by decide +kernel
theorem dX9_stealTo_1 : decode cX9_stealTo 1 = .ok (.iload_n 1, 1) := by decide +kernel
theorem dX9_stealTo_2 : decode cX9_stealTo 2 = .ok (.invokevirtual 114, 3) := by decide +kernel
theorem dX9_stealTo_5 : decode cX9_stealTo 5 = .ok (.ifCond .eq 24, 3) := by decide +kernel
theorem dX9_stealTo_8 : decode cX9_stealTo 8 = .ok (.aload_n 0, 1) := by decide +kernel
theorem dX9_stealTo_9 : decode cX9_stealTo 9 = .ok (.iload_n 2, 1) := by decide +kernel
theorem dX9_stealTo_10 : decode cX9_stealTo 10 = .ok (.invokevirtual 89, 3) := by decide +kernel
theorem dX9_stealTo_13 : decode cX9_stealTo 13 = .ok (.ifCond .eq 16, 3) := by decide +kernel
theorem dX9_stealTo_16 : decode cX9_stealTo 16 = .ok (.aload_n 0, 1) := by decide +kernel
theorem dX9_stealTo_17 : decode cX9_stealTo 17 = .ok (.getfield 24, 3) := by decide +kernel
theorem dX9_stealTo_20 : decode cX9_stealTo 20 = .ok (.getfield 98, 3) := by decide +kernel
theorem dX9_stealTo_23 : decode cX9_stealTo 23 = .ok (.iload_n 1, 1) := by decide +kernel
theorem dX9_stealTo_24 : decode cX9_stealTo 24 = .ok (.iaload, 1) := by decide +kernel
theorem dX9_stealTo_25 : decode cX9_stealTo 25 = .ok (.iload_n 2, 1) := by decide +kernel
theorem dX9_stealTo_26 : decode cX9_stealTo 26 = .ok (.if_icmp .ne 5, 3) := by decide +kernel
theorem dX9_stealTo_29 : decode cX9_stealTo 29 = .ok (.iconst 0, 1) := by decide +kernel
theorem dX9_stealTo_30 : decode cX9_stealTo 30 = .ok (.ireturn, 1) := by decide +kernel
theorem dX9_stealTo_31 : decode cX9_stealTo 31 = .ok (.aload_n 0, 1) := by decide +kernel
theorem dX9_stealTo_32 : decode cX9_stealTo 32 = .ok (.invokevirtual 117, 3) := by decide +kernel
theorem dX9_stealTo_35 : decode cX9_stealTo 35 = .ok (.aload_n 0, 1) := by decide +kernel
theorem dX9_stealTo_36 : decode cX9_stealTo 36 = .ok (.getfield 24, 3) := by decide +kernel
theorem dX9_stealTo_39 : decode cX9_stealTo 39 = .ok (.getfield 98, 3) := by decide +kernel
theorem dX9_stealTo_42 : decode cX9_stealTo 42 = .ok (.iload_n 1, 1) := by decide +kernel
theorem dX9_stealTo_43 : decode cX9_stealTo 43 = .ok (.iload_n 2, 1) := by decide +kernel
theorem dX9_stealTo_44 : decode cX9_stealTo 44 = .ok (.iastore, 1) := by decide +kernel
theorem dX9_stealTo_45 : decode cX9_stealTo 45 = .ok (.aload_n 0, 1) := by decide +kernel
theorem dX9_stealTo_46 : decode cX9_stealTo 46 = .ok (.getfield 24, 3) := by decide +kernel
theorem dX9_stealTo_49 : decode cX9_stealTo 49 = .ok (.getfield 108, 3) := by decide +kernel
theorem dX9_stealTo_52 : decode cX9_stealTo 52 = .ok (.iload_n 1, 1) := by decide +kernel
theorem dX9_stealTo_53 : decode cX9_stealTo 53 = .ok (.iload_n 2, 1) := by decide +kernel
theorem dX9_stealTo_54 : decode cX9_stealTo 54 = .ok (.iastore, 1) := by decide +kernel
theorem dX9_stealTo_55 : decode cX9_stealTo 55 = .ok (.aload_n 0, 1) := by decide +kernel
theorem dX9_stealTo_56 : decode cX9_stealTo 56 = .ok (.getfield 24, 3) := by decide +kernel
theorem dX9_stealTo_59 : decode cX9_stealTo 59 = .ok (.getfield 111, 3) := by decide +kernel
theorem dX9_stealTo_62 : decode cX9_stealTo 62 = .ok (.iload_n 1, 1) := by decide +kernel
theorem dX9_stealTo_63 : decode cX9_stealTo 63 = .ok (.iconst (-1), 1) := by decide +kernel
theorem dX9_stealTo_64 : decode cX9_stealTo 64 = .ok (.iastore, 1) := by decide +kernel
theorem dX9_stealTo_65 : decode cX9_stealTo 65 = .ok (.iconst 1, 1) := by decide +kernel
theorem dX9_stealTo_66 : decode cX9_stealTo 66 = .ok (.ireturn, 1) := by decide +kernel
theorem dX9_burnProofs_0 : decode cX9_burnProofs 0 = .ok (.aload_n 0, 1) := by decide +kernel
theorem dX9_burnProofs_1 : decode cX9_burnProofs 1 = .ok (.iload_n 1, 1) := by decide +kernel
theorem dX9_burnProofs_2 : decode cX9_burnProofs 2 = .ok (.invokevirtual 89, 3) := by decide +kernel
theorem dX9_burnProofs_5 : decode cX9_burnProofs 5 = .ok (.ifCond .ne 5, 3) := by decide +kernel
theorem dX9_burnProofs_8 : decode cX9_burnProofs 8 = .ok (.iconst (-1), 1) := by decide +kernel
theorem dX9_burnProofs_9 : decode cX9_burnProofs 9 = .ok (.ireturn, 1) := by decide +kernel
theorem dX9_burnProofs_10 : decode cX9_burnProofs 10 = .ok (.aload_n 0, 1) := by decide +kernel
theorem dX9_burnProofs_11 : decode cX9_burnProofs 11 = .ok (.invokevirtual 117, 3) := by decide +kernel
theorem dX9_burnProofs_14 : decode cX9_burnProofs 14 = .ok (.aload_n 0, 1) := by decide +kernel
theorem dX9_burnProofs_15 : decode cX9_burnProofs 15 = .ok (.getfield 24, 3) := by decide +kernel
theorem dX9_burnProofs_18 : decode cX9_burnProofs 18 = .ok (.getfield 86, 3) := by decide +kernel
theorem dX9_burnProofs_21 : decode cX9_burnProofs 21 = .ok (.iload_n 1, 1) := by decide +kernel
theorem dX9_burnProofs_22 : decode cX9_burnProofs 22 = .ok (.iaload, 1) := by decide +kernel
theorem dX9_burnProofs_23 : decode cX9_burnProofs 23 = .ok (.invokestatic 93, 3) := by decide +kernel
theorem dX9_burnProofs_26 : decode cX9_burnProofs 26 = .ok (.istore_n 2, 1) := by decide +kernel
theorem dX9_burnProofs_27 : decode cX9_burnProofs 27 = .ok (.aload_n 0, 1) := by decide +kernel
theorem dX9_burnProofs_28 : decode cX9_burnProofs 28 = .ok (.getfield 24, 3) := by decide +kernel
theorem dX9_burnProofs_31 : decode cX9_burnProofs 31 = .ok (.getfield 86, 3) := by decide +kernel
theorem dX9_burnProofs_34 : decode cX9_burnProofs 34 = .ok (.iload_n 1, 1) := by decide +kernel
theorem dX9_burnProofs_35 : decode cX9_burnProofs 35 = .ok (.iconst 0, 1) := by decide +kernel
theorem dX9_burnProofs_36 : decode cX9_burnProofs 36 = .ok (.iastore, 1) := by decide +kernel
theorem dX9_burnProofs_37 : decode cX9_burnProofs 37 = .ok (.iload_n 2, 1) := by decide +kernel
theorem dX9_burnProofs_38 : decode cX9_burnProofs 38 = .ok (.ireturn, 1) := by decide +kernel
theorem dX9_passYears_0 : decode cX9_passYears 0 = .ok (.iload_n 1, 1) := by decide +kernel
theorem dX9_passYears_1 : decode cX9_passYears 1 = .ok (.iconst 0, 1) := by decide +kernel
theorem dX9_passYears_2 : decode cX9_passYears 2 = .ok (.bipush 99, 2) := by decide +kernel
theorem dX9_passYears_4 : decode cX9_passYears 4 = .ok (.invokestatic 101, 3) := by decide +kernel
theorem dX9_passYears_7 : decode cX9_passYears 7 = .ok (.ifCond .eq 18, 3) := by decide +kernel
theorem dX9_passYears_10 : decode cX9_passYears 10 = .ok (.aload_n 0, 1) := by decide +kernel
theorem dX9_passYears_11 : decode cX9_passYears 11 = .ok (.getfield 24, 3) := by decide +kernel
theorem dX9_passYears_14 : decode cX9_passYears 14 = .ok (.getfield 120, 3) := by decide +kernel
theorem dX9_passYears_17 : decode cX9_passYears 17 = .ok (.iload_n 1, 1) := by decide +kernel
theorem dX9_passYears_18 : decode cX9_passYears 18 = .ok (.iadd, 1) := by decide +kernel
theorem dX9_passYears_19 : decode cX9_passYears 19 = .ok (.sipush 999, 3) := by decide +kernel
theorem dX9_passYears_22 : decode cX9_passYears 22 = .ok (.if_icmp .le 5, 3) := by decide +kernel
theorem dX9_passYears_25 : decode cX9_passYears 25 = .ok (.iconst (-1), 1) := by decide +kernel
theorem dX9_passYears_26 : decode cX9_passYears 26 = .ok (.ireturn, 1) := by decide +kernel
theorem dX9_passYears_27 : decode cX9_passYears 27 = .ok (.aload_n 0, 1) := by decide +kernel
theorem dX9_passYears_28 : decode cX9_passYears 28 = .ok (.invokevirtual 117, 3) := by decide +kernel
theorem dX9_passYears_31 : decode cX9_passYears 31 = .ok (.iconst 0, 1) := by decide +kernel
theorem dX9_passYears_32 : decode cX9_passYears 32 = .ok (.istore_n 3, 1) := by decide +kernel
theorem dX9_passYears_33 : decode cX9_passYears 33 = .ok (.iload_n 3, 1) := by decide +kernel
theorem dX9_passYears_34 : decode cX9_passYears 34 = .ok (.iload_n 1, 1) := by decide +kernel
theorem dX9_passYears_35 : decode cX9_passYears 35 = .ok (.if_icmp .ge 50, 3) := by decide +kernel
theorem dX9_passYears_38 : decode cX9_passYears 38 = .ok (.aload_n 0, 1) := by decide +kernel
theorem dX9_passYears_39 : decode cX9_passYears 39 = .ok (.getfield 24, 3) := by decide +kernel
theorem dX9_passYears_42 : decode cX9_passYears 42 = .ok (.dup, 1) := by decide +kernel
theorem dX9_passYears_43 : decode cX9_passYears 43 = .ok (.getfield 120, 3) := by decide +kernel
theorem dX9_passYears_46 : decode cX9_passYears 46 = .ok (.iconst 1, 1) := by decide +kernel
theorem dX9_passYears_47 : decode cX9_passYears 47 = .ok (.iadd, 1) := by decide +kernel
theorem dX9_passYears_48 : decode cX9_passYears 48 = .ok (.putfield 120, 3) := by decide +kernel
theorem dX9_passYears_51 : decode cX9_passYears 51 = .ok (.iconst 0, 1) := by decide +kernel
theorem dX9_passYears_52 : decode cX9_passYears 52 = .ok (.istore 4, 2) := by decide +kernel
theorem dX9_passYears_54 : decode cX9_passYears 54 = .ok (.iload 4, 2) := by decide +kernel
theorem dX9_passYears_56 : decode cX9_passYears 56 = .ok (.aload_n 0, 1) := by decide +kernel
theorem dX9_passYears_57 : decode cX9_passYears 57 = .ok (.getfield 24, 3) := by decide +kernel
theorem dX9_passYears_60 : decode cX9_passYears 60 = .ok (.getfield 77, 3) := by decide +kernel
theorem dX9_passYears_63 : decode cX9_passYears 63 = .ok (.if_icmp .ge 16, 3) := by decide +kernel
theorem dX9_passYears_66 : decode cX9_passYears 66 = .ok (.aload_n 0, 1) := by decide +kernel
theorem dX9_passYears_67 : decode cX9_passYears 67 = .ok (.iload 4, 2) := by decide +kernel
theorem dX9_passYears_69 : decode cX9_passYears 69 = .ok (.aload_n 2, 1) := by decide +kernel
theorem dX9_passYears_70 : decode cX9_passYears 70 = .ok (.invokevirtual 123, 3) := by decide +kernel
theorem dX9_passYears_73 : decode cX9_passYears 73 = .ok (.iinc 4 1, 3) := by decide +kernel
theorem dX9_passYears_76 : decode cX9_passYears 76 = .ok (.goto (-22), 3) := by decide +kernel
theorem dX9_passYears_79 : decode cX9_passYears 79 = .ok (.iinc 3 1, 3) := by decide +kernel
theorem dX9_passYears_82 : decode cX9_passYears 82 = .ok (.goto (-49), 3) := by decide +kernel
theorem dX9_passYears_85 : decode cX9_passYears 85 = .ok (.aload_n 0, 1) := by decide +kernel
theorem dX9_passYears_86 : decode cX9_passYears 86 = .ok (.getfield 24, 3) := by decide +kernel
theorem dX9_passYears_89 : decode cX9_passYears 89 = .ok (.getfield 120, 3) := by decide +kernel
theorem dX9_passYears_92 : decode cX9_passYears 92 = .ok (.ireturn, 1) := by decide +kernel
theorem dX9_age_0 : decode cX9_age 0 = .ok (.iconst 0, 1) := by decide +kernel
theorem dX9_age_1 : decode cX9_age 1 = .ok (.aload_n 2, 1) := by decide +kernel
theorem dX9_age_2 : decode cX9_age 2 = .ok (.bipush 16, 2) := by decide +kernel
theorem dX9_age_4 : decode cX9_age 4 = .ok (.iload_n 1, 1) := by decide +kernel
theorem dX9_age_5 : decode cX9_age 5 = .ok (.iload_n 1, 1) := by decide +kernel
theorem dX9_age_6 : decode cX9_age 6 = .ok (.iconst 0, 1) := by decide +kernel
theorem dX9_age_7 : decode cX9_age 7 = .ok (.invokevirtual 127, 3) := by decide +kernel
theorem dX9_age_10 : decode cX9_age 10 = .ok (.invokestatic 133, 3) := by decide +kernel
theorem dX9_age_13 : decode cX9_age 13 = .ok (.istore_n 3, 1) := by decide +kernel
theorem dX9_age_14 : decode cX9_age 14 = .ok (.aload_n 0, 1) := by decide +kernel
theorem dX9_age_15 : decode cX9_age 15 = .ok (.getfield 24, 3) := by decide +kernel
theorem dX9_age_18 : decode cX9_age 18 = .ok (.getfield 105, 3) := by decide +kernel
theorem dX9_age_21 : decode cX9_age 21 = .ok (.iload_n 1, 1) := by decide +kernel
theorem dX9_age_22 : decode cX9_age 22 = .ok (.iconst 1, 1) := by decide +kernel
theorem dX9_age_23 : decode cX9_age 23 = .ok (.aload_n 0, 1) := by decide +kernel
theorem dX9_age_24 : decode cX9_age 24 = .ok (.getfield 24, 3) := by decide +kernel
theorem dX9_age_27 : decode cX9_age 27 = .ok (.getfield 105, 3) := by decide +kernel
theorem dX9_age_30 : decode cX9_age 30 = .ok (.iload_n 1, 1) := by decide +kernel
theorem dX9_age_31 : decode cX9_age 31 = .ok (.iaload, 1) := by decide +kernel
theorem dX9_age_32 : decode cX9_age 32 = .ok (.iload_n 3, 1) := by decide +kernel
theorem dX9_age_33 : decode cX9_age 33 = .ok (.isub, 1) := by decide +kernel
theorem dX9_age_34 : decode cX9_age 34 = .ok (.invokestatic 133, 3) := by decide +kernel
theorem dX9_age_37 : decode cX9_age 37 = .ok (.iastore, 1) := by decide +kernel
theorem dX9_age_38 : decode cX9_age 38 = .ok (.aload_n 0, 1) := by decide +kernel
theorem dX9_age_39 : decode cX9_age 39 = .ok (.getfield 24, 3) := by decide +kernel
theorem dX9_age_42 : decode cX9_age 42 = .ok (.getfield 111, 3) := by decide +kernel
theorem dX9_age_45 : decode cX9_age 45 = .ok (.iload_n 1, 1) := by decide +kernel
theorem dX9_age_46 : decode cX9_age 46 = .ok (.iaload, 1) := by decide +kernel
theorem dX9_age_47 : decode cX9_age 47 = .ok (.aload_n 0, 1) := by decide +kernel
theorem dX9_age_48 : decode cX9_age 48 = .ok (.getfield 24, 3) := by decide +kernel
theorem dX9_age_51 : decode cX9_age 51 = .ok (.getfield 120, 3) := by decide +kernel
theorem dX9_age_54 : decode cX9_age 54 = .ok (.if_icmp .ne 31, 3) := by decide +kernel
theorem dX9_age_57 : decode cX9_age 57 = .ok (.aload_n 0, 1) := by decide +kernel
theorem dX9_age_58 : decode cX9_age 58 = .ok (.getfield 24, 3) := by decide +kernel
theorem dX9_age_61 : decode cX9_age 61 = .ok (.getfield 98, 3) := by decide +kernel
theorem dX9_age_64 : decode cX9_age 64 = .ok (.iload_n 1, 1) := by decide +kernel
theorem dX9_age_65 : decode cX9_age 65 = .ok (.aload_n 0, 1) := by decide +kernel
theorem dX9_age_66 : decode cX9_age 66 = .ok (.getfield 24, 3) := by decide +kernel
theorem dX9_age_69 : decode cX9_age 69 = .ok (.getfield 108, 3) := by decide +kernel
theorem dX9_age_72 : decode cX9_age 72 = .ok (.iload_n 1, 1) := by decide +kernel
theorem dX9_age_73 : decode cX9_age 73 = .ok (.iaload, 1) := by decide +kernel
theorem dX9_age_74 : decode cX9_age 74 = .ok (.iastore, 1) := by decide +kernel
theorem dX9_age_75 : decode cX9_age 75 = .ok (.aload_n 0, 1) := by decide +kernel
theorem dX9_age_76 : decode cX9_age 76 = .ok (.getfield 24, 3) := by decide +kernel
theorem dX9_age_79 : decode cX9_age 79 = .ok (.getfield 111, 3) := by decide +kernel
theorem dX9_age_82 : decode cX9_age 82 = .ok (.iload_n 1, 1) := by decide +kernel
theorem dX9_age_83 : decode cX9_age 83 = .ok (.iconst (-1), 1) := by decide +kernel
theorem dX9_age_84 : decode cX9_age 84 = .ok (.iastore, 1) := by decide +kernel
theorem dX9_age_85 : decode cX9_age 85 = .ok (.return_, 1) := by decide +kernel
theorem dX9_perform_0 : decode cX9_perform 0 = .ok (.iload_n 2, 1) := by decide +kernel
theorem dX9_perform_1 : decode cX9_perform 1 = .ok (.iconst 4, 1) := by decide +kernel
theorem dX9_perform_2 : decode cX9_perform 2 = .ok (.imul, 1) := by decide +kernel
theorem dX9_perform_3 : decode cX9_perform 3 = .ok (.istore 4, 2) := by decide +kernel
theorem dX9_perform_5 : decode cX9_perform 5 = .ok (.iload 4, 2) := by decide +kernel
theorem dX9_perform_7 : decode cX9_perform 7 = .ok (.ifCond .lt 15, 3) := by decide +kernel
theorem dX9_perform_10 : decode cX9_perform 10 = .ok (.iload 4, 2) := by decide +kernel
theorem dX9_perform_12 : decode cX9_perform 12 = .ok (.iconst 3, 1) := by decide +kernel
theorem dX9_perform_13 : decode cX9_perform 13 = .ok (.iadd, 1) := by decide +kernel
theorem dX9_perform_14 : decode cX9_perform 14 = .ok (.aload_n 1, 1) := by decide +kernel
theorem dX9_perform_15 : decode cX9_perform 15 = .ok (.getfield 137, 3) := by decide +kernel
theorem dX9_perform_18 : decode cX9_perform 18 = .ok (.arraylength, 1) := by decide +kernel
theorem dX9_perform_19 : decode cX9_perform 19 = .ok (.if_icmp .lt 5, 3) := by decide +kernel
theorem dX9_perform_22 : decode cX9_perform 22 = .ok (.iconst 1, 1) := by decide +kernel
theorem dX9_perform_23 : decode cX9_perform 23 = .ok (.ireturn, 1) := by decide +kernel
theorem dX9_perform_24 : decode cX9_perform 24 = .ok (.aload_n 1, 1) := by decide +kernel
theorem dX9_perform_25 : decode cX9_perform 25 = .ok (.getfield 137, 3) := by decide +kernel
theorem dX9_perform_28 : decode cX9_perform 28 = .ok (.iload 4, 2) := by decide +kernel
theorem dX9_perform_30 : decode cX9_perform 30 = .ok (.iconst 1, 1) := by decide +kernel
theorem dX9_perform_31 : decode cX9_perform 31 = .ok (.iadd, 1) := by decide +kernel
theorem dX9_perform_32 : decode cX9_perform 32 = .ok (.iaload, 1) := by decide +kernel
theorem dX9_perform_33 : decode cX9_perform 33 = .ok (.istore 5, 2) := by decide +kernel
theorem dX9_perform_35 : decode cX9_perform 35 = .ok (.aload_n 1, 1) := by decide +kernel
theorem dX9_perform_36 : decode cX9_perform 36 = .ok (.getfield 137, 3) := by decide +kernel
theorem dX9_perform_39 : decode cX9_perform 39 = .ok (.iload 4, 2) := by decide +kernel
theorem dX9_perform_41 : decode cX9_perform 41 = .ok (.iconst 2, 1) := by decide +kernel
theorem dX9_perform_42 : decode cX9_perform 42 = .ok (.iadd, 1) := by decide +kernel
theorem dX9_perform_43 : decode cX9_perform 43 = .ok (.iaload, 1) := by decide +kernel
theorem dX9_perform_44 : decode cX9_perform 44 = .ok (.istore 6, 2) := by decide +kernel
theorem dX9_perform_46 : decode cX9_perform 46 = .ok (.aload_n 1, 1) := by decide +kernel
theorem dX9_perform_47 : decode cX9_perform 47 = .ok (.getfield 137, 3) := by decide +kernel
theorem dX9_perform_50 : decode cX9_perform 50 = .ok (.iload 4, 2) := by decide +kernel
theorem dX9_perform_52 : decode cX9_perform 52 = .ok (.iaload, 1) := by decide +kernel
theorem dX9_perform_53 : decode cX9_perform 53 = .ok (.tableswitch 113 20 24 #[35, 62, 71, 80, 96], 35) := by decide +kernel
theorem dX9_perform_88 : decode cX9_perform 88 = .ok (.aload_n 0, 1) := by decide +kernel
theorem dX9_perform_89 : decode cX9_perform 89 = .ok (.iload 5, 2) := by decide +kernel
theorem dX9_perform_91 : decode cX9_perform 91 = .ok (.iload 6, 2) := by decide +kernel
theorem dX9_perform_93 : decode cX9_perform 93 = .ok (.aload_n 1, 1) := by decide +kernel
theorem dX9_perform_94 : decode cX9_perform 94 = .ok (.getfield 137, 3) := by decide +kernel
theorem dX9_perform_97 : decode cX9_perform 97 = .ok (.iload 4, 2) := by decide +kernel
theorem dX9_perform_99 : decode cX9_perform 99 = .ok (.iconst 3, 1) := by decide +kernel
theorem dX9_perform_100 : decode cX9_perform 100 = .ok (.iadd, 1) := by decide +kernel
theorem dX9_perform_101 : decode cX9_perform 101 = .ok (.iaload, 1) := by decide +kernel
theorem dX9_perform_102 : decode cX9_perform 102 = .ok (.invokevirtual 140, 3) := by decide +kernel
theorem dX9_perform_105 : decode cX9_perform 105 = .ok (.iconst (-1), 1) := by decide +kernel
theorem dX9_perform_106 : decode cX9_perform 106 = .ok (.if_icmp .eq 7, 3) := by decide +kernel
theorem dX9_perform_109 : decode cX9_perform 109 = .ok (.iconst 1, 1) := by decide +kernel
theorem dX9_perform_110 : decode cX9_perform 110 = .ok (.goto 4, 3) := by decide +kernel
theorem dX9_perform_113 : decode cX9_perform 113 = .ok (.iconst 0, 1) := by decide +kernel
theorem dX9_perform_114 : decode cX9_perform 114 = .ok (.ireturn, 1) := by decide +kernel
theorem dX9_perform_115 : decode cX9_perform 115 = .ok (.aload_n 0, 1) := by decide +kernel
theorem dX9_perform_116 : decode cX9_perform 116 = .ok (.iload 5, 2) := by decide +kernel
theorem dX9_perform_118 : decode cX9_perform 118 = .ok (.iload 6, 2) := by decide +kernel
theorem dX9_perform_120 : decode cX9_perform 120 = .ok (.invokevirtual 144, 3) := by decide +kernel
theorem dX9_perform_123 : decode cX9_perform 123 = .ok (.ireturn, 1) := by decide +kernel
theorem dX9_perform_124 : decode cX9_perform 124 = .ok (.aload_n 0, 1) := by decide +kernel
theorem dX9_perform_125 : decode cX9_perform 125 = .ok (.iload 5, 2) := by decide +kernel
theorem dX9_perform_127 : decode cX9_perform 127 = .ok (.iload 6, 2) := by decide +kernel
theorem dX9_perform_129 : decode cX9_perform 129 = .ok (.invokevirtual 148, 3) := by decide +kernel
theorem dX9_perform_132 : decode cX9_perform 132 = .ok (.ireturn, 1) := by decide +kernel
theorem dX9_perform_133 : decode cX9_perform 133 = .ok (.aload_n 0, 1) := by decide +kernel
theorem dX9_perform_134 : decode cX9_perform 134 = .ok (.iload 5, 2) := by decide +kernel
theorem dX9_perform_136 : decode cX9_perform 136 = .ok (.invokevirtual 151, 3) := by decide +kernel
theorem dX9_perform_139 : decode cX9_perform 139 = .ok (.iconst (-1), 1) := by decide +kernel
theorem dX9_perform_140 : decode cX9_perform 140 = .ok (.if_icmp .eq 7, 3) := by decide +kernel
theorem dX9_perform_143 : decode cX9_perform 143 = .ok (.iconst 1, 1) := by decide +kernel
theorem dX9_perform_144 : decode cX9_perform 144 = .ok (.goto 4, 3) := by decide +kernel
theorem dX9_perform_147 : decode cX9_perform 147 = .ok (.iconst 0, 1) := by decide +kernel
theorem dX9_perform_148 : decode cX9_perform 148 = .ok (.ireturn, 1) := by decide +kernel
theorem dX9_perform_149 : decode cX9_perform 149 = .ok (.aload_n 0, 1) := by decide +kernel
theorem dX9_perform_150 : decode cX9_perform 150 = .ok (.iload 5, 2) := by decide +kernel
theorem dX9_perform_152 : decode cX9_perform 152 = .ok (.aload_n 3, 1) := by decide +kernel
theorem dX9_perform_153 : decode cX9_perform 153 = .ok (.invokevirtual 154, 3) := by decide +kernel
theorem dX9_perform_156 : decode cX9_perform 156 = .ok (.iconst (-1), 1) := by decide +kernel
theorem dX9_perform_157 : decode cX9_perform 157 = .ok (.if_icmp .eq 7, 3) := by decide +kernel
theorem dX9_perform_160 : decode cX9_perform 160 = .ok (.iconst 1, 1) := by decide +kernel
theorem dX9_perform_161 : decode cX9_perform 161 = .ok (.goto 4, 3) := by decide +kernel
theorem dX9_perform_164 : decode cX9_perform 164 = .ok (.iconst 0, 1) := by decide +kernel
theorem dX9_perform_165 : decode cX9_perform 165 = .ok (.ireturn, 1) := by decide +kernel
theorem dX9_perform_166 : decode cX9_perform 166 = .ok (.iconst 1, 1) := by decide +kernel
theorem dX9_perform_167 : decode cX9_perform 167 = .ok (.ireturn, 1) := by decide +kernel
theorem dX9_remember_0 : decode cX9_remember 0 = .ok (.aload_n 0, 1) := by decide +kernel
theorem dX9_remember_1 : decode cX9_remember 1 = .ok (.getfield 31, 3) := by decide +kernel
theorem dX9_remember_4 : decode cX9_remember 4 = .ok (.aload_n 0, 1) := by decide +kernel
theorem dX9_remember_5 : decode cX9_remember 5 = .ok (.getfield 24, 3) := by decide +kernel
theorem dX9_remember_8 : decode cX9_remember 8 = .ok (.invokevirtual 158, 3) := by decide +kernel
theorem dX9_remember_11 : decode cX9_remember 11 = .ok (.aload_n 0, 1) := by decide +kernel
theorem dX9_remember_12 : decode cX9_remember 12 = .ok (.dup, 1) := by decide +kernel
theorem dX9_remember_13 : decode cX9_remember 13 = .ok (.getfield 74, 3) := by decide +kernel
theorem dX9_remember_16 : decode cX9_remember 16 = .ok (.iconst 1, 1) := by decide +kernel
theorem dX9_remember_17 : decode cX9_remember 17 = .ok (.iadd, 1) := by decide +kernel
theorem dX9_remember_18 : decode cX9_remember 18 = .ok (.putfield 74, 3) := by decide +kernel
theorem dX9_remember_21 : decode cX9_remember 21 = .ok (.return_, 1) := by decide +kernel
theorem dX9_takeBack_0 : decode cX9_takeBack 0 = .ok (.aload_n 0, 1) := by decide +kernel
theorem dX9_takeBack_1 : decode cX9_takeBack 1 = .ok (.getfield 31, 3) := by decide +kernel
theorem dX9_takeBack_4 : decode cX9_takeBack 4 = .ok (.getfield 160, 3) := by decide +kernel
theorem dX9_takeBack_7 : decode cX9_takeBack 7 = .ok (.ifCond .ne 5, 3) := by decide +kernel
theorem dX9_takeBack_10 : decode cX9_takeBack 10 = .ok (.iconst (-1), 1) := by decide +kernel
theorem dX9_takeBack_11 : decode cX9_takeBack 11 = .ok (.ireturn, 1) := by decide +kernel
theorem dX9_takeBack_12 : decode cX9_takeBack 12 = .ok (.aload_n 0, 1) := by decide +kernel
theorem dX9_takeBack_13 : decode cX9_takeBack 13 = .ok (.getfield 31, 3) := by decide +kernel
theorem dX9_takeBack_16 : decode cX9_takeBack 16 = .ok (.aload_n 0, 1) := by decide +kernel
theorem dX9_takeBack_17 : decode cX9_takeBack 17 = .ok (.getfield 24, 3) := by decide +kernel
theorem dX9_takeBack_20 : decode cX9_takeBack 20 = .ok (.invokevirtual 163, 3) := by decide +kernel
theorem dX9_takeBack_23 : decode cX9_takeBack 23 = .ok (.aload_n 0, 1) := by decide +kernel
theorem dX9_takeBack_24 : decode cX9_takeBack 24 = .ok (.dup, 1) := by decide +kernel
theorem dX9_takeBack_25 : decode cX9_takeBack 25 = .ok (.getfield 74, 3) := by decide +kernel
theorem dX9_takeBack_28 : decode cX9_takeBack 28 = .ok (.iconst 1, 1) := by decide +kernel
theorem dX9_takeBack_29 : decode cX9_takeBack 29 = .ok (.iadd, 1) := by decide +kernel
theorem dX9_takeBack_30 : decode cX9_takeBack 30 = .ok (.putfield 74, 3) := by decide +kernel
theorem dX9_takeBack_33 : decode cX9_takeBack 33 = .ok (.aload_n 0, 1) := by decide +kernel
theorem dX9_takeBack_34 : decode cX9_takeBack 34 = .ok (.getfield 31, 3) := by decide +kernel
theorem dX9_takeBack_37 : decode cX9_takeBack 37 = .ok (.getfield 160, 3) := by decide +kernel
theorem dX9_takeBack_40 : decode cX9_takeBack 40 = .ok (.ireturn, 1) := by decide +kernel
theorem dX9_ruleSeen_0 : decode cX9_ruleSeen 0 = .ok (.iload_n 1, 1) := by decide +kernel
theorem dX9_ruleSeen_1 : decode cX9_ruleSeen 1 = .ok (.iconst 0, 1) := by decide +kernel
theorem dX9_ruleSeen_2 : decode cX9_ruleSeen 2 = .ok (.bipush 9, 2) := by decide +kernel
theorem dX9_ruleSeen_4 : decode cX9_ruleSeen 4 = .ok (.invokestatic 101, 3) := by decide +kernel
theorem dX9_ruleSeen_7 : decode cX9_ruleSeen 7 = .ok (.ifCond .eq 13, 3) := by decide +kernel
theorem dX9_ruleSeen_10 : decode cX9_ruleSeen 10 = .ok (.iload_n 2, 1) := by decide +kernel
theorem dX9_ruleSeen_11 : decode cX9_ruleSeen 11 = .ok (.iconst 1, 1) := by decide +kernel
theorem dX9_ruleSeen_12 : decode cX9_ruleSeen 12 = .ok (.bipush 99, 2) := by decide +kernel
theorem dX9_ruleSeen_14 : decode cX9_ruleSeen 14 = .ok (.invokestatic 101, 3) := by decide +kernel
theorem dX9_ruleSeen_17 : decode cX9_ruleSeen 17 = .ok (.ifCond .ne 5, 3) := by decide +kernel
theorem dX9_ruleSeen_20 : decode cX9_ruleSeen 20 = .ok (.iconst 0, 1) := by decide +kernel
theorem dX9_ruleSeen_21 : decode cX9_ruleSeen 21 = .ok (.ireturn, 1) := by decide +kernel
theorem dX9_ruleSeen_22 : decode cX9_ruleSeen 22 = .ok (.aload_n 0, 1) := by decide +kernel
theorem dX9_ruleSeen_23 : decode cX9_ruleSeen 23 = .ok (.getfield 44, 3) := by decide +kernel
theorem dX9_ruleSeen_26 : decode cX9_ruleSeen 26 = .ok (.iload_n 1, 1) := by decide +kernel
theorem dX9_ruleSeen_27 : decode cX9_ruleSeen 27 = .ok (.putfield 166, 3) := by decide +kernel
theorem dX9_ruleSeen_30 : decode cX9_ruleSeen 30 = .ok (.aload_n 0, 1) := by decide +kernel
theorem dX9_ruleSeen_31 : decode cX9_ruleSeen 31 = .ok (.getfield 44, 3) := by decide +kernel
theorem dX9_ruleSeen_34 : decode cX9_ruleSeen 34 = .ok (.iload_n 2, 1) := by decide +kernel
theorem dX9_ruleSeen_35 : decode cX9_ruleSeen 35 = .ok (.putfield 169, 3) := by decide +kernel
theorem dX9_ruleSeen_38 : decode cX9_ruleSeen 38 = .ok (.aload_n 0, 1) := by decide +kernel
theorem dX9_ruleSeen_39 : decode cX9_ruleSeen 39 = .ok (.dup, 1) := by decide +kernel
theorem dX9_ruleSeen_40 : decode cX9_ruleSeen 40 = .ok (.getfield 74, 3) := by decide +kernel
theorem dX9_ruleSeen_43 : decode cX9_ruleSeen 43 = .ok (.iconst 1, 1) := by decide +kernel
theorem dX9_ruleSeen_44 : decode cX9_ruleSeen 44 = .ok (.iadd, 1) := by decide +kernel
theorem dX9_ruleSeen_45 : decode cX9_ruleSeen 45 = .ok (.putfield 74, 3) := by decide +kernel
theorem dX9_ruleSeen_48 : decode cX9_ruleSeen 48 = .ok (.iconst 1, 1) := by decide +kernel
theorem dX9_ruleSeen_49 : decode cX9_ruleSeen 49 = .ok (.ireturn, 1) := by decide +kernel
theorem dX9_tellSeen_0 : decode cX9_tellSeen 0 = .ok (.aload_n 0, 1) := by decide +kernel
theorem dX9_tellSeen_1 : decode cX9_tellSeen 1 = .ok (.getfield 44, 3) := by decide +kernel
theorem dX9_tellSeen_4 : decode cX9_tellSeen 4 = .ok (.getfield 172, 3) := by decide +kernel
theorem dX9_tellSeen_7 : decode cX9_tellSeen 7 = .ok (.istore 5, 2) := by decide +kernel
theorem dX9_tellSeen_9 : decode cX9_tellSeen 9 = .ok (.iload 5, 2) := by decide +kernel
theorem dX9_tellSeen_11 : decode cX9_tellSeen 11 = .ok (.bipush 12, 2) := by decide +kernel
theorem dX9_tellSeen_13 : decode cX9_tellSeen 13 = .ok (.if_icmp .ge 44, 3) := by decide +kernel
theorem dX9_tellSeen_16 : decode cX9_tellSeen 16 = .ok (.aload_n 0, 1) := by decide +kernel
theorem dX9_tellSeen_17 : decode cX9_tellSeen 17 = .ok (.iload_n 1, 1) := by decide +kernel
theorem dX9_tellSeen_18 : decode cX9_tellSeen 18 = .ok (.invokevirtual 89, 3) := by decide +kernel
theorem dX9_tellSeen_21 : decode cX9_tellSeen 21 = .ok (.ifCond .eq 36, 3) := by decide +kernel
theorem dX9_tellSeen_24 : decode cX9_tellSeen 24 = .ok (.iload_n 2, 1) := by decide +kernel
theorem dX9_tellSeen_25 : decode cX9_tellSeen 25 = .ok (.iconst 0, 1) := by decide +kernel
theorem dX9_tellSeen_26 : decode cX9_tellSeen 26 = .ok (.bipush 19, 2) := by decide +kernel
theorem dX9_tellSeen_28 : decode cX9_tellSeen 28 = .ok (.invokestatic 101, 3) := by decide +kernel
theorem dX9_tellSeen_31 : decode cX9_tellSeen 31 = .ok (.ifCond .eq 26, 3) := by decide +kernel
theorem dX9_tellSeen_34 : decode cX9_tellSeen 34 = .ok (.iload_n 3, 1) := by decide +kernel
theorem dX9_tellSeen_35 : decode cX9_tellSeen 35 = .ok (.iconst 1, 1) := by decide +kernel
theorem dX9_tellSeen_36 : decode cX9_tellSeen 36 = .ok (.sipush 999, 3) := by decide +kernel
theorem dX9_tellSeen_39 : decode cX9_tellSeen 39 = .ok (.invokestatic 101, 3) := by decide +kernel
theorem dX9_tellSeen_42 : decode cX9_tellSeen 42 = .ok (.ifCond .eq 15, 3) := by decide +kernel
theorem dX9_tellSeen_45 : decode cX9_tellSeen 45 = .ok (.iload 4, 2) := by decide +kernel
theorem dX9_tellSeen_47 : decode cX9_tellSeen 47 = .ok (.iconst 0, 1) := by decide +kernel
theorem dX9_tellSeen_48 : decode cX9_tellSeen 48 = .ok (.sipush 999, 3) := by decide +kernel
theorem dX9_tellSeen_51 : decode cX9_tellSeen 51 = .ok (.invokestatic 101, 3) := by decide +kernel
theorem dX9_tellSeen_54 : decode cX9_tellSeen 54 = .ok (.ifCond .ne 5, 3) := by decide +kernel
theorem dX9_tellSeen_57 : decode cX9_tellSeen 57 = .ok (.iconst (-1), 1) := by decide +kernel
theorem dX9_tellSeen_58 : decode cX9_tellSeen 58 = .ok (.ireturn, 1) := by decide +kernel
theorem dX9_tellSeen_59 : decode cX9_tellSeen 59 = .ok (.aload_n 0, 1) := by decide +kernel
theorem dX9_tellSeen_60 : decode cX9_tellSeen 60 = .ok (.getfield 44, 3) := by decide +kernel
theorem dX9_tellSeen_63 : decode cX9_tellSeen 63 = .ok (.getfield 175, 3) := by decide +kernel
theorem dX9_tellSeen_66 : decode cX9_tellSeen 66 = .ok (.iload 5, 2) := by decide +kernel
theorem dX9_tellSeen_68 : decode cX9_tellSeen 68 = .ok (.iload_n 1, 1) := by decide +kernel
theorem dX9_tellSeen_69 : decode cX9_tellSeen 69 = .ok (.iastore, 1) := by decide +kernel
theorem dX9_tellSeen_70 : decode cX9_tellSeen 70 = .ok (.aload_n 0, 1) := by decide +kernel
theorem dX9_tellSeen_71 : decode cX9_tellSeen 71 = .ok (.getfield 44, 3) := by decide +kernel
theorem dX9_tellSeen_74 : decode cX9_tellSeen 74 = .ok (.getfield 178, 3) := by decide +kernel
theorem dX9_tellSeen_77 : decode cX9_tellSeen 77 = .ok (.iload 5, 2) := by decide +kernel
theorem dX9_tellSeen_79 : decode cX9_tellSeen 79 = .ok (.iload_n 2, 1) := by decide +kernel
theorem dX9_tellSeen_80 : decode cX9_tellSeen 80 = .ok (.iastore, 1) := by decide +kernel
theorem dX9_tellSeen_81 : decode cX9_tellSeen 81 = .ok (.aload_n 0, 1) := by decide +kernel
theorem dX9_tellSeen_82 : decode cX9_tellSeen 82 = .ok (.getfield 44, 3) := by decide +kernel
theorem dX9_tellSeen_85 : decode cX9_tellSeen 85 = .ok (.getfield 179, 3) := by decide +kernel
theorem dX9_tellSeen_88 : decode cX9_tellSeen 88 = .ok (.iload 5, 2) := by decide +kernel
theorem dX9_tellSeen_90 : decode cX9_tellSeen 90 = .ok (.iload_n 3, 1) := by decide +kernel
theorem dX9_tellSeen_91 : decode cX9_tellSeen 91 = .ok (.iastore, 1) := by decide +kernel
theorem dX9_tellSeen_92 : decode cX9_tellSeen 92 = .ok (.aload_n 0, 1) := by decide +kernel
theorem dX9_tellSeen_93 : decode cX9_tellSeen 93 = .ok (.getfield 44, 3) := by decide +kernel
theorem dX9_tellSeen_96 : decode cX9_tellSeen 96 = .ok (.getfield 180, 3) := by decide +kernel
theorem dX9_tellSeen_99 : decode cX9_tellSeen 99 = .ok (.iload 5, 2) := by decide +kernel
theorem dX9_tellSeen_101 : decode cX9_tellSeen 101 = .ok (.iload 4, 2) := by decide +kernel
theorem dX9_tellSeen_103 : decode cX9_tellSeen 103 = .ok (.iastore, 1) := by decide +kernel
theorem dX9_tellSeen_104 : decode cX9_tellSeen 104 = .ok (.aload_n 0, 1) := by decide +kernel
theorem dX9_tellSeen_105 : decode cX9_tellSeen 105 = .ok (.getfield 44, 3) := by decide +kernel
theorem dX9_tellSeen_108 : decode cX9_tellSeen 108 = .ok (.dup, 1) := by decide +kernel
theorem dX9_tellSeen_109 : decode cX9_tellSeen 109 = .ok (.getfield 172, 3) := by decide +kernel
theorem dX9_tellSeen_112 : decode cX9_tellSeen 112 = .ok (.iconst 1, 1) := by decide +kernel
theorem dX9_tellSeen_113 : decode cX9_tellSeen 113 = .ok (.iadd, 1) := by decide +kernel
theorem dX9_tellSeen_114 : decode cX9_tellSeen 114 = .ok (.putfield 172, 3) := by decide +kernel
theorem dX9_tellSeen_117 : decode cX9_tellSeen 117 = .ok (.aload_n 0, 1) := by decide +kernel
theorem dX9_tellSeen_118 : decode cX9_tellSeen 118 = .ok (.dup, 1) := by decide +kernel
theorem dX9_tellSeen_119 : decode cX9_tellSeen 119 = .ok (.getfield 74, 3) := by decide +kernel
theorem dX9_tellSeen_122 : decode cX9_tellSeen 122 = .ok (.iconst 1, 1) := by decide +kernel
theorem dX9_tellSeen_123 : decode cX9_tellSeen 123 = .ok (.iadd, 1) := by decide +kernel
theorem dX9_tellSeen_124 : decode cX9_tellSeen 124 = .ok (.putfield 74, 3) := by decide +kernel
theorem dX9_tellSeen_127 : decode cX9_tellSeen 127 = .ok (.iload 5, 2) := by decide +kernel
theorem dX9_tellSeen_129 : decode cX9_tellSeen 129 = .ok (.ireturn, 1) := by decide +kernel
theorem dX9_forgetSeen_0 : decode cX9_forgetSeen 0 = .ok (.aload_n 0, 1) := by decide +kernel
theorem dX9_forgetSeen_1 : decode cX9_forgetSeen 1 = .ok (.getfield 44, 3) := by decide +kernel
theorem dX9_forgetSeen_4 : decode cX9_forgetSeen 4 = .ok (.getfield 172, 3) := by decide +kernel
theorem dX9_forgetSeen_7 : decode cX9_forgetSeen 7 = .ok (.istore_n 1, 1) := by decide +kernel
theorem dX9_forgetSeen_8 : decode cX9_forgetSeen 8 = .ok (.aload_n 0, 1) := by decide +kernel
theorem dX9_forgetSeen_9 : decode cX9_forgetSeen 9 = .ok (.getfield 44, 3) := by decide +kernel
theorem dX9_forgetSeen_12 : decode cX9_forgetSeen 12 = .ok (.iconst 0, 1) := by decide +kernel
theorem dX9_forgetSeen_13 : decode cX9_forgetSeen 13 = .ok (.putfield 172, 3) := by decide +kernel
theorem dX9_forgetSeen_16 : decode cX9_forgetSeen 16 = .ok (.aload_n 0, 1) := by decide +kernel
theorem dX9_forgetSeen_17 : decode cX9_forgetSeen 17 = .ok (.dup, 1) := by decide +kernel
theorem dX9_forgetSeen_18 : decode cX9_forgetSeen 18 = .ok (.getfield 74, 3) := by decide +kernel
theorem dX9_forgetSeen_21 : decode cX9_forgetSeen 21 = .ok (.iconst 1, 1) := by decide +kernel
theorem dX9_forgetSeen_22 : decode cX9_forgetSeen 22 = .ok (.iadd, 1) := by decide +kernel
theorem dX9_forgetSeen_23 : decode cX9_forgetSeen 23 = .ok (.putfield 74, 3) := by decide +kernel
theorem dX9_forgetSeen_26 : decode cX9_forgetSeen 26 = .ok (.iload_n 1, 1) := by decide +kernel
theorem dX9_forgetSeen_27 : decode cX9_forgetSeen 27 = .ok (.ireturn, 1) := by decide +kernel
theorem dX9_canBeSame_0 : decode cX9_canBeSame 0 = .ok (.iload_n 1, 1) := by decide +kernel
theorem dX9_canBeSame_1 : decode cX9_canBeSame 1 = .ok (.iconst 0, 1) := by decide +kernel
theorem dX9_canBeSame_2 : decode cX9_canBeSame 2 = .ok (.aload_n 0, 1) := by decide +kernel
theorem dX9_canBeSame_3 : decode cX9_canBeSame 3 = .ok (.getfield 44, 3) := by decide +kernel
theorem dX9_canBeSame_6 : decode cX9_canBeSame 6 = .ok (.getfield 172, 3) := by decide +kernel
theorem dX9_canBeSame_9 : decode cX9_canBeSame 9 = .ok (.iconst 1, 1) := by decide +kernel
theorem dX9_canBeSame_10 : decode cX9_canBeSame 10 = .ok (.isub, 1) := by decide +kernel
theorem dX9_canBeSame_11 : decode cX9_canBeSame 11 = .ok (.invokestatic 101, 3) := by decide +kernel
theorem dX9_canBeSame_14 : decode cX9_canBeSame 14 = .ok (.ifCond .eq 41, 3) := by decide +kernel
theorem dX9_canBeSame_17 : decode cX9_canBeSame 17 = .ok (.iload_n 2, 1) := by decide +kernel
theorem dX9_canBeSame_18 : decode cX9_canBeSame 18 = .ok (.iconst 0, 1) := by decide +kernel
theorem dX9_canBeSame_19 : decode cX9_canBeSame 19 = .ok (.aload_n 0, 1) := by decide +kernel
theorem dX9_canBeSame_20 : decode cX9_canBeSame 20 = .ok (.getfield 44, 3) := by decide +kernel
theorem dX9_canBeSame_23 : decode cX9_canBeSame 23 = .ok (.getfield 172, 3) := by decide +kernel
theorem dX9_canBeSame_26 : decode cX9_canBeSame 26 = .ok (.iconst 1, 1) := by decide +kernel
theorem dX9_canBeSame_27 : decode cX9_canBeSame 27 = .ok (.isub, 1) := by decide +kernel
theorem dX9_canBeSame_28 : decode cX9_canBeSame 28 = .ok (.invokestatic 101, 3) := by decide +kernel
theorem dX9_canBeSame_31 : decode cX9_canBeSame 31 = .ok (.ifCond .eq 24, 3) := by decide +kernel
theorem dX9_canBeSame_34 : decode cX9_canBeSame 34 = .ok (.aload_n 0, 1) := by decide +kernel
theorem dX9_canBeSame_35 : decode cX9_canBeSame 35 = .ok (.getfield 44, 3) := by decide +kernel
theorem dX9_canBeSame_38 : decode cX9_canBeSame 38 = .ok (.getfield 178, 3) := by decide +kernel
theorem dX9_canBeSame_41 : decode cX9_canBeSame 41 = .ok (.iload_n 1, 1) := by decide +kernel
theorem dX9_canBeSame_42 : decode cX9_canBeSame 42 = .ok (.iaload, 1) := by decide +kernel
theorem dX9_canBeSame_43 : decode cX9_canBeSame 43 = .ok (.aload_n 0, 1) := by decide +kernel
theorem dX9_canBeSame_44 : decode cX9_canBeSame 44 = .ok (.getfield 44, 3) := by decide +kernel
theorem dX9_canBeSame_47 : decode cX9_canBeSame 47 = .ok (.getfield 178, 3) := by decide +kernel
theorem dX9_canBeSame_50 : decode cX9_canBeSame 50 = .ok (.iload_n 2, 1) := by decide +kernel
theorem dX9_canBeSame_51 : decode cX9_canBeSame 51 = .ok (.iaload, 1) := by decide +kernel
theorem dX9_canBeSame_52 : decode cX9_canBeSame 52 = .ok (.if_icmp .eq 5, 3) := by decide +kernel
theorem dX9_canBeSame_55 : decode cX9_canBeSame 55 = .ok (.iconst 0, 1) := by decide +kernel
theorem dX9_canBeSame_56 : decode cX9_canBeSame 56 = .ok (.ireturn, 1) := by decide +kernel
theorem dX9_canBeSame_57 : decode cX9_canBeSame 57 = .ok (.aload_n 0, 1) := by decide +kernel
theorem dX9_canBeSame_58 : decode cX9_canBeSame 58 = .ok (.getfield 44, 3) := by decide +kernel
theorem dX9_canBeSame_61 : decode cX9_canBeSame 61 = .ok (.getfield 180, 3) := by decide +kernel
theorem dX9_canBeSame_64 : decode cX9_canBeSame 64 = .ok (.iload_n 2, 1) := by decide +kernel
theorem dX9_canBeSame_65 : decode cX9_canBeSame 65 = .ok (.iaload, 1) := by decide +kernel
theorem dX9_canBeSame_66 : decode cX9_canBeSame 66 = .ok (.aload_n 0, 1) := by decide +kernel
theorem dX9_canBeSame_67 : decode cX9_canBeSame 67 = .ok (.getfield 44, 3) := by decide +kernel
theorem dX9_canBeSame_70 : decode cX9_canBeSame 70 = .ok (.getfield 180, 3) := by decide +kernel
theorem dX9_canBeSame_73 : decode cX9_canBeSame 73 = .ok (.iload_n 1, 1) := by decide +kernel
theorem dX9_canBeSame_74 : decode cX9_canBeSame 74 = .ok (.iaload, 1) := by decide +kernel
theorem dX9_canBeSame_75 : decode cX9_canBeSame 75 = .ok (.isub, 1) := by decide +kernel
theorem dX9_canBeSame_76 : decode cX9_canBeSame 76 = .ok (.istore_n 3, 1) := by decide +kernel
theorem dX9_canBeSame_77 : decode cX9_canBeSame 77 = .ok (.aload_n 0, 1) := by decide +kernel
theorem dX9_canBeSame_78 : decode cX9_canBeSame 78 = .ok (.getfield 44, 3) := by decide +kernel
theorem dX9_canBeSame_81 : decode cX9_canBeSame 81 = .ok (.getfield 179, 3) := by decide +kernel
theorem dX9_canBeSame_84 : decode cX9_canBeSame 84 = .ok (.iload_n 1, 1) := by decide +kernel
theorem dX9_canBeSame_85 : decode cX9_canBeSame 85 = .ok (.iaload, 1) := by decide +kernel
theorem dX9_canBeSame_86 : decode cX9_canBeSame 86 = .ok (.aload_n 0, 1) := by decide +kernel
theorem dX9_canBeSame_87 : decode cX9_canBeSame 87 = .ok (.getfield 44, 3) := by decide +kernel
theorem dX9_canBeSame_90 : decode cX9_canBeSame 90 = .ok (.getfield 179, 3) := by decide +kernel
theorem dX9_canBeSame_93 : decode cX9_canBeSame 93 = .ok (.iload_n 2, 1) := by decide +kernel
theorem dX9_canBeSame_94 : decode cX9_canBeSame 94 = .ok (.iaload, 1) := by decide +kernel
theorem dX9_canBeSame_95 : decode cX9_canBeSame 95 = .ok (.isub, 1) := by decide +kernel
theorem dX9_canBeSame_96 : decode cX9_canBeSame 96 = .ok (.istore 4, 2) := by decide +kernel
theorem dX9_canBeSame_98 : decode cX9_canBeSame 98 = .ok (.iload_n 3, 1) := by decide +kernel
theorem dX9_canBeSame_99 : decode cX9_canBeSame 99 = .ok (.ifCond .le 22, 3) := by decide +kernel
theorem dX9_canBeSame_102 : decode cX9_canBeSame 102 = .ok (.iload 4, 2) := by decide +kernel
theorem dX9_canBeSame_104 : decode cX9_canBeSame 104 = .ok (.ifCond .lt 17, 3) := by decide +kernel
theorem dX9_canBeSame_107 : decode cX9_canBeSame 107 = .ok (.iload 4, 2) := by decide +kernel
theorem dX9_canBeSame_109 : decode cX9_canBeSame 109 = .ok (.aload_n 0, 1) := by decide +kernel
theorem dX9_canBeSame_110 : decode cX9_canBeSame 110 = .ok (.getfield 44, 3) := by decide +kernel
theorem dX9_canBeSame_113 : decode cX9_canBeSame 113 = .ok (.getfield 166, 3) := by decide +kernel
theorem dX9_canBeSame_116 : decode cX9_canBeSame 116 = .ok (.iload_n 3, 1) := by decide +kernel
theorem dX9_canBeSame_117 : decode cX9_canBeSame 117 = .ok (.imul, 1) := by decide +kernel
theorem dX9_canBeSame_118 : decode cX9_canBeSame 118 = .ok (.if_icmp .le 5, 3) := by decide +kernel
theorem dX9_canBeSame_121 : decode cX9_canBeSame 121 = .ok (.iconst 0, 1) := by decide +kernel
theorem dX9_canBeSame_122 : decode cX9_canBeSame 122 = .ok (.ireturn, 1) := by decide +kernel
theorem dX9_canBeSame_123 : decode cX9_canBeSame 123 = .ok (.aload_n 0, 1) := by decide +kernel
theorem dX9_canBeSame_124 : decode cX9_canBeSame 124 = .ok (.aload_n 0, 1) := by decide +kernel
theorem dX9_canBeSame_125 : decode cX9_canBeSame 125 = .ok (.getfield 44, 3) := by decide +kernel
theorem dX9_canBeSame_128 : decode cX9_canBeSame 128 = .ok (.getfield 175, 3) := by decide +kernel
theorem dX9_canBeSame_131 : decode cX9_canBeSame 131 = .ok (.iload_n 1, 1) := by decide +kernel
theorem dX9_canBeSame_132 : decode cX9_canBeSame 132 = .ok (.iaload, 1) := by decide +kernel
theorem dX9_canBeSame_133 : decode cX9_canBeSame 133 = .ok (.aload_n 0, 1) := by decide +kernel
theorem dX9_canBeSame_134 : decode cX9_canBeSame 134 = .ok (.getfield 44, 3) := by decide +kernel
theorem dX9_canBeSame_137 : decode cX9_canBeSame 137 = .ok (.getfield 175, 3) := by decide +kernel
theorem dX9_canBeSame_140 : decode cX9_canBeSame 140 = .ok (.iload_n 2, 1) := by decide +kernel
theorem dX9_canBeSame_141 : decode cX9_canBeSame 141 = .ok (.iaload, 1) := by decide +kernel
theorem dX9_canBeSame_142 : decode cX9_canBeSame 142 = .ok (.invokevirtual 182, 3) := by decide +kernel
theorem dX9_canBeSame_145 : decode cX9_canBeSame 145 = .ok (.iload_n 3, 1) := by decide +kernel
theorem dX9_canBeSame_146 : decode cX9_canBeSame 146 = .ok (.iconst 1, 1) := by decide +kernel
theorem dX9_canBeSame_147 : decode cX9_canBeSame 147 = .ok (.iadd, 1) := by decide +kernel
theorem dX9_canBeSame_148 : decode cX9_canBeSame 148 = .ok (.aload_n 0, 1) := by decide +kernel
theorem dX9_canBeSame_149 : decode cX9_canBeSame 149 = .ok (.getfield 44, 3) := by decide +kernel
theorem dX9_canBeSame_152 : decode cX9_canBeSame 152 = .ok (.getfield 169, 3) := by decide +kernel
theorem dX9_canBeSame_155 : decode cX9_canBeSame 155 = .ok (.imul, 1) := by decide +kernel
theorem dX9_canBeSame_156 : decode cX9_canBeSame 156 = .ok (.if_icmp .ge 7, 3) := by decide +kernel
theorem dX9_canBeSame_159 : decode cX9_canBeSame 159 = .ok (.iconst 1, 1) := by decide +kernel
theorem dX9_canBeSame_160 : decode cX9_canBeSame 160 = .ok (.goto 4, 3) := by decide +kernel
theorem dX9_canBeSame_163 : decode cX9_canBeSame 163 = .ok (.iconst 0, 1) := by decide +kernel
theorem dX9_canBeSame_164 : decode cX9_canBeSame 164 = .ok (.ireturn, 1) := by decide +kernel
theorem dX10_init_0 : decode cX10_init 0 = .ok (.aload_n 0, 1) := by decide +kernel
theorem dX10_init_1 : decode cX10_init 1 = .ok (.invokespecial 3, 3) := by decide +kernel
theorem dX10_init_4 : decode cX10_init 4 = .ok (.aload_n 0, 1) := by decide +kernel
theorem dX10_init_5 : decode cX10_init 5 = .ok (.new 9, 3) := by decide +kernel
theorem dX10_init_8 : decode cX10_init 8 = .ok (.dup, 1) := by decide +kernel
theorem dX10_init_9 : decode cX10_init 9 = .ok (.invokespecial 11, 3) := by decide +kernel
theorem dX10_init_12 : decode cX10_init 12 = .ok (.putfield 12, 3) := by decide +kernel
theorem dX10_init_15 : decode cX10_init 15 = .ok (.aload_n 0, 1) := by decide +kernel
theorem dX10_init_16 : decode cX10_init 16 = .ok (.new 9, 3) := by decide +kernel
theorem dX10_init_19 : decode cX10_init 19 = .ok (.dup, 1) := by decide +kernel
theorem dX10_init_20 : decode cX10_init 20 = .ok (.invokespecial 11, 3) := by decide +kernel
theorem dX10_init_23 : decode cX10_init 23 = .ok (.putfield 16, 3) := by decide +kernel
theorem dX10_init_26 : decode cX10_init 26 = .ok (.aload_n 0, 1) := by decide +kernel
theorem dX10_init_27 : decode cX10_init 27 = .ok (.new 19, 3) := by decide +kernel
theorem dX10_init_30 : decode cX10_init 30 = .ok (.dup, 1) := by decide +kernel
theorem dX10_init_31 : decode cX10_init 31 = .ok (.invokespecial 21, 3) := by decide +kernel
theorem dX10_init_34 : decode cX10_init 34 = .ok (.putfield 22, 3) := by decide +kernel
theorem dX10_init_37 : decode cX10_init 37 = .ok (.aload_n 0, 1) := by decide +kernel
theorem dX10_init_38 : decode cX10_init 38 = .ok (.new 26, 3) := by decide +kernel
theorem dX10_init_41 : decode cX10_init 41 = .ok (.dup, 1) := by decide +kernel
theorem dX10_init_42 : decode cX10_init 42 = .ok (.aload_n 0, 1) := by decide +kernel
theorem dX10_init_43 : decode cX10_init 43 = .ok (.getfield 12, 3) := by decide +kernel
theorem dX10_init_46 : decode cX10_init 46 = .ok (.invokespecial 28, 3) := by decide +kernel
theorem dX10_init_49 : decode cX10_init 49 = .ok (.putfield 31, 3) := by decide +kernel
theorem dX10_init_52 : decode cX10_init 52 = .ok (.aload_n 0, 1) := by decide +kernel
theorem dX10_init_53 : decode cX10_init 53 = .ok (.new 35, 3) := by decide +kernel
theorem dX10_init_56 : decode cX10_init 56 = .ok (.dup, 1) := by decide +kernel
theorem dX10_init_57 : decode cX10_init 57 = .ok (.aload_n 0, 1) := by decide +kernel
theorem dX10_init_58 : decode cX10_init 58 = .ok (.getfield 12, 3) := by decide +kernel
theorem dX10_init_61 : decode cX10_init 61 = .ok (.aload_n 0, 1) := by decide +kernel
theorem dX10_init_62 : decode cX10_init 62 = .ok (.getfield 31, 3) := by decide +kernel
theorem dX10_init_65 : decode cX10_init 65 = .ok (.invokespecial 37, 3) := by decide +kernel
theorem dX10_init_68 : decode cX10_init 68 = .ok (.putfield 40, 3) := by decide +kernel
theorem dX10_init_71 : decode cX10_init 71 = .ok (.aload_n 0, 1) := by decide +kernel
theorem dX10_init_72 : decode cX10_init 72 = .ok (.new 44, 3) := by decide +kernel
theorem dX10_init_75 : decode cX10_init 75 = .ok (.dup, 1) := by decide +kernel
theorem dX10_init_76 : decode cX10_init 76 = .ok (.aload_n 0, 1) := by decide +kernel
theorem dX10_init_77 : decode cX10_init 77 = .ok (.getfield 12, 3) := by decide +kernel
theorem dX10_init_80 : decode cX10_init 80 = .ok (.invokespecial 46, 3) := by decide +kernel
theorem dX10_init_83 : decode cX10_init 83 = .ok (.putfield 47, 3) := by decide +kernel
theorem dX10_init_86 : decode cX10_init 86 = .ok (.aload_n 0, 1) := by decide +kernel
theorem dX10_init_87 : decode cX10_init 87 = .ok (.new 51, 3) := by decide +kernel
theorem dX10_init_90 : decode cX10_init 90 = .ok (.dup, 1) := by decide +kernel
theorem dX10_init_91 : decode cX10_init 91 = .ok (.aload_n 0, 1) := by decide +kernel
theorem dX10_init_92 : decode cX10_init 92 = .ok (.getfield 12, 3) := by decide +kernel
theorem dX10_init_95 : decode cX10_init 95 = .ok (.invokespecial 53, 3) := by decide +kernel
theorem dX10_init_98 : decode cX10_init 98 = .ok (.putfield 54, 3) := by decide +kernel
theorem dX10_init_101 : decode cX10_init 101 = .ok (.return_, 1) := by decide +kernel
theorem dX10_town_0 : decode cX10_town 0 = .ok (.aload_n 0, 1) := by decide +kernel
theorem dX10_town_1 : decode cX10_town 1 = .ok (.getfield 12, 3) := by decide +kernel
theorem dX10_town_4 : decode cX10_town 4 = .ok (.iload_n 1, 1) := by decide +kernel
theorem dX10_town_5 : decode cX10_town 5 = .ok (.iload_n 2, 1) := by decide +kernel
theorem dX10_town_6 : decode cX10_town 6 = .ok (.invokevirtual 58, 3) := by decide +kernel
theorem dX10_town_9 : decode cX10_town 9 = .ok (.ireturn, 1) := by decide +kernel
theorem dX10_bone_0 : decode cX10_bone 0 = .ok (.aload_n 0, 1) := by decide +kernel
theorem dX10_bone_1 : decode cX10_bone 1 = .ok (.getfield 12, 3) := by decide +kernel
theorem dX10_bone_4 : decode cX10_bone 4 = .ok (.iload_n 1, 1) := by decide +kernel
theorem dX10_bone_5 : decode cX10_bone 5 = .ok (.iload_n 2, 1) := by decide +kernel
theorem dX10_bone_6 : decode cX10_bone 6 = .ok (.iload_n 3, 1) := by decide +kernel
theorem dX10_bone_7 : decode cX10_bone 7 = .ok (.invokevirtual 62, 3) := by decide +kernel
theorem dX10_bone_10 : decode cX10_bone 10 = .ok (.ireturn, 1) := by decide +kernel
theorem dX10_prove_0 : decode cX10_prove 0 = .ok (.aload_n 0, 1) := by decide +kernel
theorem dX10_prove_1 : decode cX10_prove 1 = .ok (.getfield 12, 3) := by decide +kernel
theorem dX10_prove_4 : decode cX10_prove 4 = .ok (.iload_n 1, 1) := by decide +kernel
theorem dX10_prove_5 : decode cX10_prove 5 = .ok (.iload_n 2, 1) := by decide +kernel
theorem dX10_prove_6 : decode cX10_prove 6 = .ok (.invokevirtual 66, 3) := by decide +kernel
theorem dX10_prove_9 : decode cX10_prove 9 = .ok (.ireturn, 1) := by decide +kernel
theorem dX10_feed_0 : decode cX10_feed 0 = .ok (.aload_n 0, 1) := by decide +kernel
theorem dX10_feed_1 : decode cX10_feed 1 = .ok (.getfield 22, 3) := by decide +kernel
theorem dX10_feed_4 : decode cX10_feed 4 = .ok (.getfield 70, 3) := by decide +kernel
theorem dX10_feed_7 : decode cX10_feed 7 = .ok (.bipush 20, 2) := by decide +kernel
theorem dX10_feed_9 : decode cX10_feed 9 = .ok (.iadd, 1) := by decide +kernel
theorem dX10_feed_10 : decode cX10_feed 10 = .ok (.sipush 300, 3) := by decide +kernel
theorem dX10_feed_13 : decode cX10_feed 13 = .ok (.if_icmp .le 5, 3) := by decide +kernel
theorem dX10_feed_16 : decode cX10_feed 16 = .ok (.iconst (-1), 1) := by decide +kernel
theorem dX10_feed_17 : decode cX10_feed 17 = .ok (.ireturn, 1) := by decide +kernel
theorem dX10_feed_18 : decode cX10_feed 18 = .ok (.aload_n 0, 1) := by decide +kernel
theorem dX10_feed_19 : decode cX10_feed 19 = .ok (.getfield 22, 3) := by decide +kernel
theorem dX10_feed_22 : decode cX10_feed 22 = .ok (.iload_n 1, 1) := by decide +kernel
theorem dX10_feed_23 : decode cX10_feed 23 = .ok (.invokevirtual 74, 3) := by decide +kernel
theorem dX10_feed_26 : decode cX10_feed 26 = .ok (.aload_n 0, 1) := by decide +kernel
theorem dX10_feed_27 : decode cX10_feed 27 = .ok (.getfield 22, 3) := by decide +kernel
theorem dX10_feed_30 : decode cX10_feed 30 = .ok (.iload_n 2, 1) := by decide +kernel
theorem dX10_feed_31 : decode cX10_feed 31 = .ok (.invokevirtual 74, 3) := by decide +kernel
theorem dX10_feed_34 : decode cX10_feed 34 = .ok (.aload_n 0, 1) := by decide +kernel
theorem dX10_feed_35 : decode cX10_feed 35 = .ok (.getfield 22, 3) := by decide +kernel
theorem dX10_feed_38 : decode cX10_feed 38 = .ok (.iload_n 3, 1) := by decide +kernel
theorem dX10_feed_39 : decode cX10_feed 39 = .ok (.invokevirtual 74, 3) := by decide +kernel
theorem dX10_feed_42 : decode cX10_feed 42 = .ok (.aload_n 0, 1) := by decide +kernel
theorem dX10_feed_43 : decode cX10_feed 43 = .ok (.getfield 22, 3) := by decide +kernel
theorem dX10_feed_46 : decode cX10_feed 46 = .ok (.iload 4, 2) := by decide +kernel
theorem dX10_feed_48 : decode cX10_feed 48 = .ok (.invokevirtual 74, 3) := by decide +kernel
theorem dX10_feed_51 : decode cX10_feed 51 = .ok (.aload_n 0, 1) := by decide +kernel
theorem dX10_feed_52 : decode cX10_feed 52 = .ok (.getfield 22, 3) := by decide +kernel
theorem dX10_feed_55 : decode cX10_feed 55 = .ok (.iload 5, 2) := by decide +kernel
theorem dX10_feed_57 : decode cX10_feed 57 = .ok (.invokevirtual 74, 3) := by decide +kernel
theorem dX10_feed_60 : decode cX10_feed 60 = .ok (.aload_n 0, 1) := by decide +kernel
theorem dX10_feed_61 : decode cX10_feed 61 = .ok (.getfield 22, 3) := by decide +kernel
theorem dX10_feed_64 : decode cX10_feed 64 = .ok (.getfield 70, 3) := by decide +kernel
theorem dX10_feed_67 : decode cX10_feed 67 = .ok (.ireturn, 1) := by decide +kernel
theorem dX10_end_0 : decode cX10_end 0 = .ok (.iload_n 1, 1) := by decide +kernel
theorem dX10_end_1 : decode cX10_end 1 = .ok (.ifCond .lt 14, 3) := by decide +kernel
theorem dX10_end_4 : decode cX10_end 4 = .ok (.iload_n 1, 1) := by decide +kernel
theorem dX10_end_5 : decode cX10_end 5 = .ok (.aload_n 0, 1) := by decide +kernel
theorem dX10_end_6 : decode cX10_end 6 = .ok (.getfield 22, 3) := by decide +kernel
theorem dX10_end_9 : decode cX10_end 9 = .ok (.getfield 70, 3) := by decide +kernel
theorem dX10_end_12 : decode cX10_end 12 = .ok (.if_icmp .le 5, 3) := by decide +kernel
theorem dX10_end_15 : decode cX10_end 15 = .ok (.iconst (-1), 1) := by decide +kernel
theorem dX10_end_16 : decode cX10_end 16 = .ok (.ireturn, 1) := by decide +kernel
theorem dX10_end_17 : decode cX10_end 17 = .ok (.aload_n 0, 1) := by decide +kernel
theorem dX10_end_18 : decode cX10_end 18 = .ok (.getfield 22, 3) := by decide +kernel
theorem dX10_end_21 : decode cX10_end 21 = .ok (.iload_n 1, 1) := by decide +kernel
theorem dX10_end_22 : decode cX10_end 22 = .ok (.putfield 70, 3) := by decide +kernel
theorem dX10_end_25 : decode cX10_end 25 = .ok (.iload_n 1, 1) := by decide +kernel
theorem dX10_end_26 : decode cX10_end 26 = .ok (.ireturn, 1) := by decide +kernel
theorem dX10_text_0 : decode cX10_text 0 = .ok (.aload_n 0, 1) := by decide +kernel
theorem dX10_text_1 : decode cX10_text 1 = .ok (.getfield 12, 3) := by decide +kernel
theorem dX10_text_4 : decode cX10_text 4 = .ok (.getfield 78, 3) := by decide +kernel
theorem dX10_text_7 : decode cX10_text 7 = .ok (.iconst 4, 1) := by decide +kernel
theorem dX10_text_8 : decode cX10_text 8 = .ok (.if_icmp .lt 5, 3) := by decide +kernel
theorem dX10_text_11 : decode cX10_text 11 = .ok (.iconst (-1), 1) := by decide +kernel
theorem dX10_text_12 : decode cX10_text 12 = .ok (.ireturn, 1) := by decide +kernel
theorem dX10_text_13 : decode cX10_text 13 = .ok (.aload_n 0, 1) := by decide +kernel
theorem dX10_text_14 : decode cX10_text 14 = .ok (.getfield 22, 3) := by decide +kernel
theorem dX10_text_17 : decode cX10_text 17 = .ok (.invokevirtual 81, 3) := by decide +kernel
theorem dX10_text_20 : decode cX10_text 20 = .ok (.astore_n 1, 1) := by decide +kernel
theorem dX10_text_21 : decode cX10_text 21 = .ok (.aload_n 1, 1) := by decide +kernel
theorem dX10_text_22 : decode cX10_text 22 = .ok (.ifnonnull 7, 3) := by decide +kernel
theorem dX10_text_25 : decode cX10_text 25 = .ok (.iconst (-1), 1) := by decide +kernel
theorem dX10_text_26 : decode cX10_text 26 = .ok (.goto 11, 3) := by decide +kernel
theorem dX10_text_29 : decode cX10_text 29 = .ok (.aload_n 0, 1) := by decide +kernel
theorem dX10_text_30 : decode cX10_text 30 = .ok (.getfield 12, 3) := by decide +kernel
theorem dX10_text_33 : decode cX10_text 33 = .ok (.aload_n 1, 1) := by decide +kernel
theorem dX10_text_34 : decode cX10_text 34 = .ok (.invokevirtual 85, 3) := by decide +kernel
theorem dX10_text_37 : decode cX10_text 37 = .ok (.ireturn, 1) := by decide +kernel
theorem dX10_fault_0 : decode cX10_fault 0 = .ok (.iload_n 1, 1) := by decide +kernel
theorem dX10_fault_1 : decode cX10_fault 1 = .ok (.lookupswitch 43 #[(0, 27), (1, 35)], 27) := by decide +kernel
theorem dX10_fault_28 : decode cX10_fault 28 = .ok (.aload_n 0, 1) := by decide +kernel
theorem dX10_fault_29 : decode cX10_fault 29 = .ok (.getfield 22, 3) := by decide +kernel
theorem dX10_fault_32 : decode cX10_fault 32 = .ok (.getfield 89, 3) := by decide +kernel
theorem dX10_fault_35 : decode cX10_fault 35 = .ok (.ireturn, 1) := by decide +kernel
theorem dX10_fault_36 : decode cX10_fault 36 = .ok (.aload_n 0, 1) := by decide +kernel
theorem dX10_fault_37 : decode cX10_fault 37 = .ok (.getfield 22, 3) := by decide +kernel
theorem dX10_fault_40 : decode cX10_fault 40 = .ok (.getfield 92, 3) := by decide +kernel
theorem dX10_fault_43 : decode cX10_fault 43 = .ok (.ireturn, 1) := by decide +kernel
theorem dX10_fault_44 : decode cX10_fault 44 = .ok (.iconst (-1), 1) := by decide +kernel
theorem dX10_fault_45 : decode cX10_fault 45 = .ok (.ireturn, 1) := by decide +kernel
theorem dX10_by_0 : decode cX10_by 0 = .ok (.aload_n 0, 1) := by decide +kernel
theorem dX10_by_1 : decode cX10_by 1 = .ok (.getfield 12, 3) := by decide +kernel
theorem dX10_by_4 : decode cX10_by 4 = .ok (.iload_n 1, 1) := by decide +kernel
theorem dX10_by_5 : decode cX10_by 5 = .ok (.invokevirtual 95, 3) := by decide +kernel
theorem dX10_by_8 : decode cX10_by 8 = .ok (.ireturn, 1) := by decide +kernel
theorem dX10_lend_0 : decode cX10_lend 0 = .ok (.aload_n 0, 1) := by decide +kernel
theorem dX10_lend_1 : decode cX10_lend 1 = .ok (.getfield 12, 3) := by decide +kernel
theorem dX10_lend_4 : decode cX10_lend 4 = .ok (.iload_n 1, 1) := by decide +kernel
theorem dX10_lend_5 : decode cX10_lend 5 = .ok (.iload_n 2, 1) := by decide +kernel
theorem dX10_lend_6 : decode cX10_lend 6 = .ok (.iload_n 3, 1) := by decide +kernel
theorem dX10_lend_7 : decode cX10_lend 7 = .ok (.invokevirtual 99, 3) := by decide +kernel
theorem dX10_lend_10 : decode cX10_lend 10 = .ok (.ireturn, 1) := by decide +kernel
theorem dX10_swap_0 : decode cX10_swap 0 = .ok (.aload_n 0, 1) := by decide +kernel
theorem dX10_swap_1 : decode cX10_swap 1 = .ok (.getfield 12, 3) := by decide +kernel
theorem dX10_swap_4 : decode cX10_swap 4 = .ok (.iload_n 1, 1) := by decide +kernel
theorem dX10_swap_5 : decode cX10_swap 5 = .ok (.iload_n 2, 1) := by decide +kernel
theorem dX10_swap_6 : decode cX10_swap 6 = .ok (.invokevirtual 102, 3) := by decide +kernel
theorem dX10_swap_9 : decode cX10_swap 9 = .ok (.ireturn, 1) := by decide +kernel
theorem dX10_steal_0 : decode cX10_steal 0 = .ok (.aload_n 0, 1) := by decide +kernel
theorem dX10_steal_1 : decode cX10_steal 1 = .ok (.getfield 12, 3) := by decide +kernel
theorem dX10_steal_4 : decode cX10_steal 4 = .ok (.iload_n 1, 1) := by decide +kernel
theorem dX10_steal_5 : decode cX10_steal 5 = .ok (.iload_n 2, 1) := by decide +kernel
theorem dX10_steal_6 : decode cX10_steal 6 = .ok (.invokevirtual 105, 3) := by decide +kernel
theorem dX10_steal_9 : decode cX10_steal 9 = .ok (.ireturn, 1) := by decide +kernel
theorem dX10_burn_0 : decode cX10_burn 0 = .ok (.aload_n 0, 1) := by decide +kernel
theorem dX10_burn_1 : decode cX10_burn 1 = .ok (.getfield 12, 3) := by decide +kernel
theorem dX10_burn_4 : decode cX10_burn 4 = .ok (.iload_n 1, 1) := by decide +kernel
theorem dX10_burn_5 : decode cX10_burn 5 = .ok (.invokevirtual 108, 3) := by decide +kernel
theorem dX10_burn_8 : decode cX10_burn 8 = .ok (.ireturn, 1) := by decide +kernel
theorem dX10_pass_0 : decode cX10_pass 0 = .ok (.aload_n 0, 1) := by decide +kernel
theorem dX10_pass_1 : decode cX10_pass 1 = .ok (.getfield 12, 3) := by decide +kernel
theorem dX10_pass_4 : decode cX10_pass 4 = .ok (.iload_n 1, 1) := by decide +kernel
theorem dX10_pass_5 : decode cX10_pass 5 = .ok (.aload_n 0, 1) := by decide +kernel
theorem dX10_pass_6 : decode cX10_pass 6 = .ok (.getfield 31, 3) := by decide +kernel
theorem dX10_pass_9 : decode cX10_pass 9 = .ok (.invokevirtual 112, 3) := by decide +kernel
theorem dX10_pass_12 : decode cX10_pass 12 = .ok (.ireturn, 1) := by decide +kernel
theorem dX10_played_0 : decode cX10_played 0 = .ok (.iload_n 1, 1) := by decide +kernel
theorem dX10_played_1 : decode cX10_played 1 = .ok (.ifCond .lt 14, 3) := by decide +kernel
theorem dX10_played_4 : decode cX10_played 4 = .ok (.iload_n 1, 1) := by decide +kernel
theorem dX10_played_5 : decode cX10_played 5 = .ok (.aload_n 0, 1) := by decide +kernel
theorem dX10_played_6 : decode cX10_played 6 = .ok (.getfield 12, 3) := by decide +kernel
theorem dX10_played_9 : decode cX10_played 9 = .ok (.getfield 78, 3) := by decide +kernel
theorem dX10_played_12 : decode cX10_played 12 = .ok (.if_icmp .lt 6, 3) := by decide +kernel
theorem dX10_played_15 : decode cX10_played 15 = .ok (.bipush (-2), 2) := by decide +kernel
theorem dX10_played_17 : decode cX10_played 17 = .ok (.ireturn, 1) := by decide +kernel
theorem dX10_played_18 : decode cX10_played 18 = .ok (.aload_n 0, 1) := by decide +kernel
theorem dX10_played_19 : decode cX10_played 19 = .ok (.getfield 12, 3) := by decide +kernel
theorem dX10_played_22 : decode cX10_played 22 = .ok (.getfield 116, 3) := by decide +kernel
theorem dX10_played_25 : decode cX10_played 25 = .ok (.iload_n 1, 1) := by decide +kernel
theorem dX10_played_26 : decode cX10_played 26 = .ok (.aaload, 1) := by decide +kernel
theorem dX10_played_27 : decode cX10_played 27 = .ok (.astore_n 2, 1) := by decide +kernel
theorem dX10_played_28 : decode cX10_played 28 = .ok (.aload_n 2, 1) := by decide +kernel
theorem dX10_played_29 : decode cX10_played 29 = .ok (.ifnonnull 6, 3) := by decide +kernel
theorem dX10_played_32 : decode cX10_played 32 = .ok (.bipush (-2), 2) := by decide +kernel
theorem dX10_played_34 : decode cX10_played 34 = .ok (.ireturn, 1) := by decide +kernel
theorem dX10_played_35 : decode cX10_played 35 = .ok (.iconst 0, 1) := by decide +kernel
theorem dX10_played_36 : decode cX10_played 36 = .ok (.istore_n 3, 1) := by decide +kernel
theorem dX10_played_37 : decode cX10_played 37 = .ok (.iload_n 3, 1) := by decide +kernel
theorem dX10_played_38 : decode cX10_played 38 = .ok (.aload_n 2, 1) := by decide +kernel
theorem dX10_played_39 : decode cX10_played 39 = .ok (.getfield 120, 3) := by decide +kernel
theorem dX10_played_42 : decode cX10_played 42 = .ok (.if_icmp .ge 27, 3) := by decide +kernel
theorem dX10_played_45 : decode cX10_played 45 = .ok (.aload_n 0, 1) := by decide +kernel
theorem dX10_played_46 : decode cX10_played 46 = .ok (.getfield 12, 3) := by decide +kernel
theorem dX10_played_49 : decode cX10_played 49 = .ok (.aload_n 2, 1) := by decide +kernel
theorem dX10_played_50 : decode cX10_played 50 = .ok (.iload_n 3, 1) := by decide +kernel
theorem dX10_played_51 : decode cX10_played 51 = .ok (.aload_n 0, 1) := by decide +kernel
theorem dX10_played_52 : decode cX10_played 52 = .ok (.getfield 31, 3) := by decide +kernel
theorem dX10_played_55 : decode cX10_played 55 = .ok (.invokevirtual 125, 3) := by decide +kernel
theorem dX10_played_58 : decode cX10_played 58 = .ok (.ifCond .ne 5, 3) := by decide +kernel
theorem dX10_played_61 : decode cX10_played 61 = .ok (.iload_n 3, 1) := by decide +kernel
theorem dX10_played_62 : decode cX10_played 62 = .ok (.ireturn, 1) := by decide +kernel
theorem dX10_played_63 : decode cX10_played 63 = .ok (.iinc 3 1, 3) := by decide +kernel
theorem dX10_played_66 : decode cX10_played 66 = .ok (.goto (-29), 3) := by decide +kernel
theorem dX10_played_69 : decode cX10_played 69 = .ok (.iconst (-1), 1) := by decide +kernel
theorem dX10_played_70 : decode cX10_played 70 = .ok (.ireturn, 1) := by decide +kernel
theorem dX10_undo_0 : decode cX10_undo 0 = .ok (.aload_n 0, 1) := by decide +kernel
theorem dX10_undo_1 : decode cX10_undo 1 = .ok (.getfield 12, 3) := by decide +kernel
theorem dX10_undo_4 : decode cX10_undo 4 = .ok (.invokevirtual 129, 3) := by decide +kernel
theorem dX10_undo_7 : decode cX10_undo 7 = .ok (.ireturn, 1) := by decide +kernel
theorem dX10_of_0 : decode cX10_of 0 = .ok (.aload_n 0, 1) := by decide +kernel
theorem dX10_of_1 : decode cX10_of 1 = .ok (.getfield 12, 3) := by decide +kernel
theorem dX10_of_4 : decode cX10_of 4 = .ok (.iload_n 1, 1) := by decide +kernel
theorem dX10_of_5 : decode cX10_of 5 = .ok (.invokevirtual 133, 3) := by decide +kernel
theorem dX10_of_8 : decode cX10_of 8 = .ok (.ifCond .ne 6, 3) := by decide +kernel
theorem dX10_of_11 : decode cX10_of 11 = .ok (.bipush (-2), 2) := by decide +kernel
theorem dX10_of_13 : decode cX10_of 13 = .ok (.ireturn, 1) := by decide +kernel
theorem dX10_of_14 : decode cX10_of 14 = .ok (.iload_n 2, 1) := by decide +kernel
theorem dX10_of_15 : decode cX10_of 15 = .ok (.tableswitch 129 0 6 #[41, 51, 64, 77, 90, 103, 112], 41) := by decide +kernel
theorem dX10_of_56 : decode cX10_of 56 = .ok (.aload_n 0, 1) := by decide +kernel
theorem dX10_of_57 : decode cX10_of 57 = .ok (.getfield 12, 3) := by decide +kernel
theorem dX10_of_60 : decode cX10_of 60 = .ok (.getfield 136, 3) := by decide +kernel
theorem dX10_of_63 : decode cX10_of 63 = .ok (.iload_n 1, 1) := by decide +kernel
theorem dX10_of_64 : decode cX10_of 64 = .ok (.iaload, 1) := by decide +kernel
theorem dX10_of_65 : decode cX10_of 65 = .ok (.ireturn, 1) := by decide +kernel
theorem dX10_of_66 : decode cX10_of 66 = .ok (.aload_n 0, 1) := by decide +kernel
theorem dX10_of_67 : decode cX10_of 67 = .ok (.getfield 12, 3) := by decide +kernel
theorem dX10_of_70 : decode cX10_of 70 = .ok (.getfield 140, 3) := by decide +kernel
theorem dX10_of_73 : decode cX10_of 73 = .ok (.getfield 144, 3) := by decide +kernel
theorem dX10_of_76 : decode cX10_of 76 = .ok (.iload_n 1, 1) := by decide +kernel
theorem dX10_of_77 : decode cX10_of 77 = .ok (.iaload, 1) := by decide +kernel
theorem dX10_of_78 : decode cX10_of 78 = .ok (.ireturn, 1) := by decide +kernel
theorem dX10_of_79 : decode cX10_of 79 = .ok (.aload_n 0, 1) := by decide +kernel
theorem dX10_of_80 : decode cX10_of 80 = .ok (.getfield 12, 3) := by decide +kernel
theorem dX10_of_83 : decode cX10_of 83 = .ok (.getfield 140, 3) := by decide +kernel
theorem dX10_of_86 : decode cX10_of 86 = .ok (.getfield 149, 3) := by decide +kernel
theorem dX10_of_89 : decode cX10_of 89 = .ok (.iload_n 1, 1) := by decide +kernel
theorem dX10_of_90 : decode cX10_of 90 = .ok (.iaload, 1) := by decide +kernel
theorem dX10_of_91 : decode cX10_of 91 = .ok (.ireturn, 1) := by decide +kernel
theorem dX10_of_92 : decode cX10_of 92 = .ok (.aload_n 0, 1) := by decide +kernel
theorem dX10_of_93 : decode cX10_of 93 = .ok (.getfield 12, 3) := by decide +kernel
theorem dX10_of_96 : decode cX10_of 96 = .ok (.getfield 140, 3) := by decide +kernel
theorem dX10_of_99 : decode cX10_of 99 = .ok (.getfield 152, 3) := by decide +kernel
theorem dX10_of_102 : decode cX10_of 102 = .ok (.iload_n 1, 1) := by decide +kernel
theorem dX10_of_103 : decode cX10_of 103 = .ok (.iaload, 1) := by decide +kernel
theorem dX10_of_104 : decode cX10_of 104 = .ok (.ireturn, 1) := by decide +kernel
theorem dX10_of_105 : decode cX10_of 105 = .ok (.aload_n 0, 1) := by decide +kernel
theorem dX10_of_106 : decode cX10_of 106 = .ok (.getfield 12, 3) := by decide +kernel
theorem dX10_of_109 : decode cX10_of 109 = .ok (.getfield 140, 3) := by decide +kernel
theorem dX10_of_112 : decode cX10_of 112 = .ok (.getfield 155, 3) := by decide +kernel
theorem dX10_of_115 : decode cX10_of 115 = .ok (.iload_n 1, 1) := by decide +kernel
theorem dX10_of_116 : decode cX10_of 116 = .ok (.iaload, 1) := by decide +kernel
theorem dX10_of_117 : decode cX10_of 117 = .ok (.ireturn, 1) := by decide +kernel
theorem dX10_of_118 : decode cX10_of 118 = .ok (.aload_n 0, 1) := by decide +kernel
theorem dX10_of_119 : decode cX10_of 119 = .ok (.getfield 12, 3) := by decide +kernel
theorem dX10_of_122 : decode cX10_of 122 = .ok (.iload_n 1, 1) := by decide +kernel
theorem dX10_of_123 : decode cX10_of 123 = .ok (.invokevirtual 158, 3) := by decide +kernel
theorem dX10_of_126 : decode cX10_of 126 = .ok (.ireturn, 1) := by decide +kernel
theorem dX10_of_127 : decode cX10_of 127 = .ok (.aload_n 0, 1) := by decide +kernel
theorem dX10_of_128 : decode cX10_of 128 = .ok (.getfield 31, 3) := by decide +kernel
theorem dX10_of_131 : decode cX10_of 131 = .ok (.iload_n 1, 1) := by decide +kernel
theorem dX10_of_132 : decode cX10_of 132 = .ok (.invokevirtual 161, 3) := by decide +kernel
theorem dX10_of_135 : decode cX10_of 135 = .ok (.ifCond .eq 7, 3) := by decide +kernel
theorem dX10_of_138 : decode cX10_of 138 = .ok (.iconst 1, 1) := by decide +kernel
theorem dX10_of_139 : decode cX10_of 139 = .ok (.goto 4, 3) := by decide +kernel
theorem dX10_of_142 : decode cX10_of 142 = .ok (.iconst 0, 1) := by decide +kernel
theorem dX10_of_143 : decode cX10_of 143 = .ok (.ireturn, 1) := by decide +kernel
theorem dX10_of_144 : decode cX10_of 144 = .ok (.bipush (-2), 2) := by decide +kernel
theorem dX10_of_146 : decode cX10_of 146 = .ok (.ireturn, 1) := by decide +kernel
theorem dX10_saints_0 : decode cX10_saints 0 = .ok (.aload_n 0, 1) := by decide +kernel
theorem dX10_saints_1 : decode cX10_saints 1 = .ok (.getfield 12, 3) := by decide +kernel
theorem dX10_saints_4 : decode cX10_saints 4 = .ok (.iload_n 1, 1) := by decide +kernel
theorem dX10_saints_5 : decode cX10_saints 5 = .ok (.invokevirtual 164, 3) := by decide +kernel
theorem dX10_saints_8 : decode cX10_saints 8 = .ok (.ifCond .eq 30, 3) := by decide +kernel
theorem dX10_saints_11 : decode cX10_saints 11 = .ok (.iload_n 2, 1) := by decide +kernel
theorem dX10_saints_12 : decode cX10_saints 12 = .ok (.iconst (-1), 1) := by decide +kernel
theorem dX10_saints_13 : decode cX10_saints 13 = .ok (.if_icmp .eq 14, 3) := by decide +kernel
theorem dX10_saints_16 : decode cX10_saints 16 = .ok (.aload_n 0, 1) := by decide +kernel
theorem dX10_saints_17 : decode cX10_saints 17 = .ok (.getfield 12, 3) := by decide +kernel
theorem dX10_saints_20 : decode cX10_saints 20 = .ok (.iload_n 2, 1) := by decide +kernel
theorem dX10_saints_21 : decode cX10_saints 21 = .ok (.invokevirtual 133, 3) := by decide +kernel
theorem dX10_saints_24 : decode cX10_saints 24 = .ok (.ifCond .eq 14, 3) := by decide +kernel
theorem dX10_saints_27 : decode cX10_saints 27 = .ok (.aload_n 0, 1) := by decide +kernel
theorem dX10_saints_28 : decode cX10_saints 28 = .ok (.getfield 40, 3) := by decide +kernel
theorem dX10_saints_31 : decode cX10_saints 31 = .ok (.iload_n 1, 1) := by decide +kernel
theorem dX10_saints_32 : decode cX10_saints 32 = .ok (.invokevirtual 167, 3) := by decide +kernel
theorem dX10_saints_35 : decode cX10_saints 35 = .ok (.ifCond .ne 6, 3) := by decide +kernel
theorem dX10_saints_38 : decode cX10_saints 38 = .ok (.bipush (-2), 2) := by decide +kernel
theorem dX10_saints_40 : decode cX10_saints 40 = .ok (.ireturn, 1) := by decide +kernel
theorem dX10_saints_41 : decode cX10_saints 41 = .ok (.iload_n 2, 1) := by decide +kernel
theorem dX10_saints_42 : decode cX10_saints 42 = .ok (.iconst (-1), 1) := by decide +kernel
theorem dX10_saints_43 : decode cX10_saints 43 = .ok (.if_icmp .ne 13, 3) := by decide +kernel
theorem dX10_saints_46 : decode cX10_saints 46 = .ok (.aload_n 0, 1) := by decide +kernel
theorem dX10_saints_47 : decode cX10_saints 47 = .ok (.getfield 40, 3) := by decide +kernel
theorem dX10_saints_50 : decode cX10_saints 50 = .ok (.getfield 170, 3) := by decide +kernel
theorem dX10_saints_53 : decode cX10_saints 53 = .ok (.goto 11, 3) := by decide +kernel
theorem dX10_saints_56 : decode cX10_saints 56 = .ok (.aload_n 0, 1) := by decide +kernel
theorem dX10_saints_57 : decode cX10_saints 57 = .ok (.getfield 40, 3) := by decide +kernel
theorem dX10_saints_60 : decode cX10_saints 60 = .ok (.iload_n 2, 1) := by decide +kernel
theorem dX10_saints_61 : decode cX10_saints 61 = .ok (.invokevirtual 173, 3) := by decide +kernel
theorem dX10_saints_64 : decode cX10_saints 64 = .ok (.ireturn, 1) := by decide +kernel
theorem dX10_rules_0 : decode cX10_rules 0 = .ok (.aload_n 0, 1) := by decide +kernel
theorem dX10_rules_1 : decode cX10_rules 1 = .ok (.getfield 12, 3) := by decide +kernel
theorem dX10_rules_4 : decode cX10_rules 4 = .ok (.iload_n 1, 1) := by decide +kernel
theorem dX10_rules_5 : decode cX10_rules 5 = .ok (.iload_n 2, 1) := by decide +kernel
theorem dX10_rules_6 : decode cX10_rules 6 = .ok (.invokevirtual 176, 3) := by decide +kernel
theorem dX10_rules_9 : decode cX10_rules 9 = .ok (.ireturn, 1) := by decide +kernel
theorem dX10_seen_0 : decode cX10_seen 0 = .ok (.aload_n 0, 1) := by decide +kernel
theorem dX10_seen_1 : decode cX10_seen 1 = .ok (.getfield 12, 3) := by decide +kernel
theorem dX10_seen_4 : decode cX10_seen 4 = .ok (.iload_n 1, 1) := by decide +kernel
theorem dX10_seen_5 : decode cX10_seen 5 = .ok (.iload_n 2, 1) := by decide +kernel
theorem dX10_seen_6 : decode cX10_seen 6 = .ok (.iload_n 3, 1) := by decide +kernel
theorem dX10_seen_7 : decode cX10_seen 7 = .ok (.iload 4, 2) := by decide +kernel
theorem dX10_seen_9 : decode cX10_seen 9 = .ok (.invokevirtual 179, 3) := by decide +kernel
theorem dX10_seen_12 : decode cX10_seen 12 = .ok (.ireturn, 1) := by decide +kernel
theorem dX10_forget_0 : decode cX10_forget 0 = .ok (.aload_n 0, 1) := by decide +kernel
theorem dX10_forget_1 : decode cX10_forget 1 = .ok (.getfield 12, 3) := by decide +kernel
theorem dX10_forget_4 : decode cX10_forget 4 = .ok (.invokevirtual 183, 3) := by decide +kernel
theorem dX10_forget_7 : decode cX10_forget 7 = .ok (.ireturn, 1) := by decide +kernel
theorem dX10_same_0 : decode cX10_same 0 = .ok (.aload_n 0, 1) := by decide +kernel
theorem dX10_same_1 : decode cX10_same 1 = .ok (.getfield 12, 3) := by decide +kernel
theorem dX10_same_4 : decode cX10_same 4 = .ok (.iload_n 1, 1) := by decide +kernel
theorem dX10_same_5 : decode cX10_same 5 = .ok (.iload_n 2, 1) := by decide +kernel
theorem dX10_same_6 : decode cX10_same 6 = .ok (.invokevirtual 186, 3) := by decide +kernel
theorem dX10_same_9 : decode cX10_same 9 = .ok (.ireturn, 1) := by decide +kernel
theorem dX10_best_0 : decode cX10_best 0 = .ok (.iload_n 1, 1) := by decide +kernel
theorem dX10_best_1 : decode cX10_best 1 = .ok (.lookupswitch 43 #[(0, 27), (1, 35)], 27) := by decide +kernel
theorem dX10_best_28 : decode cX10_best 28 = .ok (.aload_n 0, 1) := by decide +kernel
theorem dX10_best_29 : decode cX10_best 29 = .ok (.getfield 47, 3) := by decide +kernel
theorem dX10_best_32 : decode cX10_best 32 = .ok (.invokevirtual 189, 3) := by decide +kernel
theorem dX10_best_35 : decode cX10_best 35 = .ok (.ireturn, 1) := by decide +kernel
theorem dX10_best_36 : decode cX10_best 36 = .ok (.aload_n 0, 1) := by decide +kernel
theorem dX10_best_37 : decode cX10_best 37 = .ok (.getfield 47, 3) := by decide +kernel
theorem dX10_best_40 : decode cX10_best 40 = .ok (.invokevirtual 191, 3) := by decide +kernel
theorem dX10_best_43 : decode cX10_best 43 = .ok (.ireturn, 1) := by decide +kernel
theorem dX10_best_44 : decode cX10_best 44 = .ok (.iconst (-1), 1) := by decide +kernel
theorem dX10_best_45 : decode cX10_best 45 = .ok (.ireturn, 1) := by decide +kernel
theorem dX10_histories_0 : decode cX10_histories 0 = .ok (.aload_n 0, 1) := by decide +kernel
theorem dX10_histories_1 : decode cX10_histories 1 = .ok (.getfield 47, 3) := by decide +kernel
theorem dX10_histories_4 : decode cX10_histories 4 = .ok (.invokevirtual 194, 3) := by decide +kernel
theorem dX10_histories_7 : decode cX10_histories 7 = .ok (.lreturn, 1) := by decide +kernel
theorem dX10_led_0 : decode cX10_led 0 = .ok (.iload_n 1, 1) := by decide +kernel
theorem dX10_led_1 : decode cX10_led 1 = .ok (.ifCond .lt 17, 3) := by decide +kernel
theorem dX10_led_4 : decode cX10_led 4 = .ok (.iload_n 1, 1) := by decide +kernel
theorem dX10_led_5 : decode cX10_led 5 = .ok (.aload_n 0, 1) := by decide +kernel
theorem dX10_led_6 : decode cX10_led 6 = .ok (.getfield 12, 3) := by decide +kernel
theorem dX10_led_9 : decode cX10_led 9 = .ok (.getfield 197, 3) := by decide +kernel
theorem dX10_led_12 : decode cX10_led 12 = .ok (.getfield 201, 3) := by decide +kernel
theorem dX10_led_15 : decode cX10_led 15 = .ok (.if_icmp .lt 6, 3) := by decide +kernel
theorem dX10_led_18 : decode cX10_led 18 = .ok (.bipush (-2), 2) := by decide +kernel
theorem dX10_led_20 : decode cX10_led 20 = .ok (.ireturn, 1) := by decide +kernel
theorem dX10_led_21 : decode cX10_led 21 = .ok (.aload_n 0, 1) := by decide +kernel
theorem dX10_led_22 : decode cX10_led 22 = .ok (.getfield 47, 3) := by decide +kernel
theorem dX10_led_25 : decode cX10_led 25 = .ok (.iload_n 1, 1) := by decide +kernel
theorem dX10_led_26 : decode cX10_led 26 = .ok (.invokevirtual 204, 3) := by decide +kernel
theorem dX10_led_29 : decode cX10_led 29 = .ok (.ireturn, 1) := by decide +kernel
theorem dX10_chance_0 : decode cX10_chance 0 = .ok (.iload_n 1, 1) := by decide +kernel
theorem dX10_chance_1 : decode cX10_chance 1 = .ok (.iconst 0, 1) := by decide +kernel
theorem dX10_chance_2 : decode cX10_chance 2 = .ok (.bipush 20, 2) := by decide +kernel
theorem dX10_chance_4 : decode cX10_chance 4 = .ok (.invokestatic 207, 3) := by decide +kernel
theorem dX10_chance_7 : decode cX10_chance 7 = .ok (.ifCond .eq 32, 3) := by decide +kernel
theorem dX10_chance_10 : decode cX10_chance 10 = .ok (.iload_n 2, 1) := by decide +kernel
theorem dX10_chance_11 : decode cX10_chance 11 = .ok (.iconst 0, 1) := by decide +kernel
theorem dX10_chance_12 : decode cX10_chance 12 = .ok (.iload_n 1, 1) := by decide +kernel
theorem dX10_chance_13 : decode cX10_chance 13 = .ok (.invokestatic 207, 3) := by decide +kernel
theorem dX10_chance_16 : decode cX10_chance 16 = .ok (.ifCond .eq 23, 3) := by decide +kernel
theorem dX10_chance_19 : decode cX10_chance 19 = .ok (.iload_n 3, 1) := by decide +kernel
theorem dX10_chance_20 : decode cX10_chance 20 = .ok (.iconst 0, 1) := by decide +kernel
theorem dX10_chance_21 : decode cX10_chance 21 = .ok (.bipush 6, 2) := by decide +kernel
theorem dX10_chance_23 : decode cX10_chance 23 = .ok (.invokestatic 207, 3) := by decide +kernel
theorem dX10_chance_26 : decode cX10_chance 26 = .ok (.ifCond .eq 13, 3) := by decide +kernel
theorem dX10_chance_29 : decode cX10_chance 29 = .ok (.iload 4, 2) := by decide +kernel
theorem dX10_chance_31 : decode cX10_chance 31 = .ok (.iconst 0, 1) := by decide +kernel
theorem dX10_chance_32 : decode cX10_chance 32 = .ok (.iconst 1, 1) := by decide +kernel
theorem dX10_chance_33 : decode cX10_chance 33 = .ok (.invokestatic 207, 3) := by decide +kernel
theorem dX10_chance_36 : decode cX10_chance 36 = .ok (.ifCond .ne 7, 3) := by decide +kernel
theorem dX10_chance_39 : decode cX10_chance 39 = .ok (.ldc2_w 211, 3) := by decide +kernel
theorem dX10_chance_42 : decode cX10_chance 42 = .ok (.lreturn, 1) := by decide +kernel
theorem dX10_chance_43 : decode cX10_chance 43 = .ok (.lconst 0, 1) := by decide +kernel
theorem dX10_chance_44 : decode cX10_chance 44 = .ok (.lstore 5, 2) := by decide +kernel
theorem dX10_chance_46 : decode cX10_chance 46 = .ok (.lconst 1, 1) := by decide +kernel
theorem dX10_chance_47 : decode cX10_chance 47 = .ok (.lstore 7, 2) := by decide +kernel
theorem dX10_chance_49 : decode cX10_chance 49 = .ok (.iconst 0, 1) := by decide +kernel
theorem dX10_chance_50 : decode cX10_chance 50 = .ok (.istore 9, 2) := by decide +kernel
theorem dX10_chance_52 : decode cX10_chance 52 = .ok (.iload 9, 2) := by decide +kernel
theorem dX10_chance_54 : decode cX10_chance 54 = .ok (.iload_n 1, 1) := by decide +kernel
theorem dX10_chance_55 : decode cX10_chance 55 = .ok (.if_icmp .gt 57, 3) := by decide +kernel
theorem dX10_chance_58 : decode cX10_chance 58 = .ok (.iload 9, 2) := by decide +kernel
theorem dX10_chance_60 : decode cX10_chance 60 = .ok (.iload_n 2, 1) := by decide +kernel
theorem dX10_chance_61 : decode cX10_chance 61 = .ok (.if_icmp .lt 29, 3) := by decide +kernel
theorem dX10_chance_64 : decode cX10_chance 64 = .ok (.lload 5, 2) := by decide +kernel
theorem dX10_chance_66 : decode cX10_chance 66 = .ok (.lload 7, 2) := by decide +kernel
theorem dX10_chance_68 : decode cX10_chance 68 = .ok (.iload_n 3, 1) := by decide +kernel
theorem dX10_chance_69 : decode cX10_chance 69 = .ok (.iload 9, 2) := by decide +kernel
theorem dX10_chance_71 : decode cX10_chance 71 = .ok (.invokestatic 213, 3) := by decide +kernel
theorem dX10_chance_74 : decode cX10_chance 74 = .ok (.lmul, 1) := by decide +kernel
theorem dX10_chance_75 : decode cX10_chance 75 = .ok (.bipush 6, 2) := by decide +kernel
theorem dX10_chance_77 : decode cX10_chance 77 = .ok (.iload_n 3, 1) := by decide +kernel
theorem dX10_chance_78 : decode cX10_chance 78 = .ok (.isub, 1) := by decide +kernel
theorem dX10_chance_79 : decode cX10_chance 79 = .ok (.iload_n 1, 1) := by decide +kernel
theorem dX10_chance_80 : decode cX10_chance 80 = .ok (.iload 9, 2) := by decide +kernel
theorem dX10_chance_82 : decode cX10_chance 82 = .ok (.isub, 1) := by decide +kernel
theorem dX10_chance_83 : decode cX10_chance 83 = .ok (.invokestatic 213, 3) := by decide +kernel
theorem dX10_chance_86 : decode cX10_chance 86 = .ok (.lmul, 1) := by decide +kernel
theorem dX10_chance_87 : decode cX10_chance 87 = .ok (.ladd, 1) := by decide +kernel
theorem dX10_chance_88 : decode cX10_chance 88 = .ok (.lstore 5, 2) := by decide +kernel
theorem dX10_chance_90 : decode cX10_chance 90 = .ok (.lload 7, 2) := by decide +kernel
theorem dX10_chance_92 : decode cX10_chance 92 = .ok (.iload_n 1, 1) := by decide +kernel
theorem dX10_chance_93 : decode cX10_chance 93 = .ok (.iload 9, 2) := by decide +kernel
theorem dX10_chance_95 : decode cX10_chance 95 = .ok (.isub, 1) := by decide +kernel
theorem dX10_chance_96 : decode cX10_chance 96 = .ok (.i2l, 1) := by decide +kernel
theorem dX10_chance_97 : decode cX10_chance 97 = .ok (.lmul, 1) := by decide +kernel
theorem dX10_chance_98 : decode cX10_chance 98 = .ok (.iload 9, 2) := by decide +kernel
theorem dX10_chance_100 : decode cX10_chance 100 = .ok (.iconst 1, 1) := by decide +kernel
theorem dX10_chance_101 : decode cX10_chance 101 = .ok (.iadd, 1) := by decide +kernel
theorem dX10_chance_102 : decode cX10_chance 102 = .ok (.i2l, 1) := by decide +kernel
theorem dX10_chance_103 : decode cX10_chance 103 = .ok (.ldiv, 1) := by decide +kernel
theorem dX10_chance_104 : decode cX10_chance 104 = .ok (.lstore 7, 2) := by decide +kernel
theorem dX10_chance_106 : decode cX10_chance 106 = .ok (.iinc 9 1, 3) := by decide +kernel
theorem dX10_chance_109 : decode cX10_chance 109 = .ok (.goto (-57), 3) := by decide +kernel
theorem dX10_chance_112 : decode cX10_chance 112 = .ok (.lload 5, 2) := by decide +kernel
theorem dX10_chance_114 : decode cX10_chance 114 = .ok (.iload_n 1, 1) := by decide +kernel
theorem dX10_chance_115 : decode cX10_chance 115 = .ok (.invokestatic 217, 3) := by decide +kernel
theorem dX10_chance_118 : decode cX10_chance 118 = .ok (.lstore 9, 2) := by decide +kernel
theorem dX10_chance_120 : decode cX10_chance 120 = .ok (.iload 4, 2) := by decide +kernel
theorem dX10_chance_122 : decode cX10_chance 122 = .ok (.ifCond .ne 11, 3) := by decide +kernel
theorem dX10_chance_125 : decode cX10_chance 125 = .ok (.lload 5, 2) := by decide +kernel
theorem dX10_chance_127 : decode cX10_chance 127 = .ok (.lload 9, 2) := by decide +kernel
theorem dX10_chance_129 : decode cX10_chance 129 = .ok (.ldiv, 1) := by decide +kernel
theorem dX10_chance_130 : decode cX10_chance 130 = .ok (.goto 12, 3) := by decide +kernel
theorem dX10_chance_133 : decode cX10_chance 133 = .ok (.bipush 6, 2) := by decide +kernel
theorem dX10_chance_135 : decode cX10_chance 135 = .ok (.iload_n 1, 1) := by decide +kernel
theorem dX10_chance_136 : decode cX10_chance 136 = .ok (.invokestatic 213, 3) := by decide +kernel
theorem dX10_chance_139 : decode cX10_chance 139 = .ok (.lload 9, 2) := by decide +kernel
theorem dX10_chance_141 : decode cX10_chance 141 = .ok (.ldiv, 1) := by decide +kernel
theorem dX10_chance_142 : decode cX10_chance 142 = .ok (.lreturn, 1) := by decide +kernel
theorem dX10_round_0 : decode cX10_round 0 = .ok (.aload_n 0, 1) := by decide +kernel
theorem dX10_round_1 : decode cX10_round 1 = .ok (.getfield 12, 3) := by decide +kernel
theorem dX10_round_4 : decode cX10_round 4 = .ok (.iload_n 1, 1) := by decide +kernel
theorem dX10_round_5 : decode cX10_round 5 = .ok (.invokevirtual 164, 3) := by decide +kernel
theorem dX10_round_8 : decode cX10_round 8 = .ok (.ifCond .eq 19, 3) := by decide +kernel
theorem dX10_round_11 : decode cX10_round 11 = .ok (.iload_n 2, 1) := by decide +kernel
theorem dX10_round_12 : decode cX10_round 12 = .ok (.iconst (-1), 1) := by decide +kernel
theorem dX10_round_13 : decode cX10_round 13 = .ok (.if_icmp .lt 14, 3) := by decide +kernel
theorem dX10_round_16 : decode cX10_round 16 = .ok (.aload_n 0, 1) := by decide +kernel
theorem dX10_round_17 : decode cX10_round 17 = .ok (.getfield 54, 3) := by decide +kernel
theorem dX10_round_20 : decode cX10_round 20 = .ok (.iload_n 1, 1) := by decide +kernel
theorem dX10_round_21 : decode cX10_round 21 = .ok (.invokevirtual 221, 3) := by decide +kernel
theorem dX10_round_24 : decode cX10_round 24 = .ok (.ifCond .ne 5, 3) := by decide +kernel
theorem dX10_round_27 : decode cX10_round 27 = .ok (.iconst (-1), 1) := by decide +kernel
theorem dX10_round_28 : decode cX10_round 28 = .ok (.ireturn, 1) := by decide +kernel
theorem dX10_round_29 : decode cX10_round 29 = .ok (.iload_n 2, 1) := by decide +kernel
theorem dX10_round_30 : decode cX10_round 30 = .ok (.iconst (-1), 1) := by decide +kernel
theorem dX10_round_31 : decode cX10_round 31 = .ok (.if_icmp .ne 13, 3) := by decide +kernel
theorem dX10_round_34 : decode cX10_round 34 = .ok (.aload_n 0, 1) := by decide +kernel
theorem dX10_round_35 : decode cX10_round 35 = .ok (.getfield 54, 3) := by decide +kernel
theorem dX10_round_38 : decode cX10_round 38 = .ok (.getfield 224, 3) := by decide +kernel
theorem dX10_round_41 : decode cX10_round 41 = .ok (.goto 11, 3) := by decide +kernel
theorem dX10_round_44 : decode cX10_round 44 = .ok (.aload_n 0, 1) := by decide +kernel
theorem dX10_round_45 : decode cX10_round 45 = .ok (.getfield 54, 3) := by decide +kernel
theorem dX10_round_48 : decode cX10_round 48 = .ok (.iload_n 2, 1) := by decide +kernel
theorem dX10_round_49 : decode cX10_round 49 = .ok (.invokevirtual 227, 3) := by decide +kernel
theorem dX10_round_52 : decode cX10_round 52 = .ok (.ireturn, 1) := by decide +kernel
theorem dX10_pilgrims_0 : decode cX10_pilgrims 0 = .ok (.iload_n 1, 1) := by decide +kernel
theorem dX10_pilgrims_1 : decode cX10_pilgrims 1 = .ok (.iconst 0, 1) := by decide +kernel
theorem dX10_pilgrims_2 : decode cX10_pilgrims 2 = .ok (.sipush 9999, 3) := by decide +kernel
theorem dX10_pilgrims_5 : decode cX10_pilgrims 5 = .ok (.invokestatic 207, 3) := by decide +kernel
theorem dX10_pilgrims_8 : decode cX10_pilgrims 8 = .ok (.ifCond .eq 35, 3) := by decide +kernel
theorem dX10_pilgrims_11 : decode cX10_pilgrims 11 = .ok (.iload_n 2, 1) := by decide +kernel
theorem dX10_pilgrims_12 : decode cX10_pilgrims 12 = .ok (.iconst 1, 1) := by decide +kernel
theorem dX10_pilgrims_13 : decode cX10_pilgrims 13 = .ok (.bipush 99, 2) := by decide +kernel
theorem dX10_pilgrims_15 : decode cX10_pilgrims 15 = .ok (.invokestatic 207, 3) := by decide +kernel
theorem dX10_pilgrims_18 : decode cX10_pilgrims 18 = .ok (.ifCond .eq 25, 3) := by decide +kernel
theorem dX10_pilgrims_21 : decode cX10_pilgrims 21 = .ok (.iload_n 3, 1) := by decide +kernel
theorem dX10_pilgrims_22 : decode cX10_pilgrims 22 = .ok (.iconst 0, 1) := by decide +kernel
theorem dX10_pilgrims_23 : decode cX10_pilgrims 23 = .ok (.bipush 6, 2) := by decide +kernel
theorem dX10_pilgrims_25 : decode cX10_pilgrims 25 = .ok (.invokestatic 207, 3) := by decide +kernel
theorem dX10_pilgrims_28 : decode cX10_pilgrims 28 = .ok (.ifCond .eq 15, 3) := by decide +kernel
theorem dX10_pilgrims_31 : decode cX10_pilgrims 31 = .ok (.aload_n 0, 1) := by decide +kernel
theorem dX10_pilgrims_32 : decode cX10_pilgrims 32 = .ok (.getfield 12, 3) := by decide +kernel
theorem dX10_pilgrims_35 : decode cX10_pilgrims 35 = .ok (.iload 4, 2) := by decide +kernel
theorem dX10_pilgrims_37 : decode cX10_pilgrims 37 = .ok (.invokevirtual 230, 3) := by decide +kernel
theorem dX10_pilgrims_40 : decode cX10_pilgrims 40 = .ok (.ifCond .ne 5, 3) := by decide +kernel
theorem dX10_pilgrims_43 : decode cX10_pilgrims 43 = .ok (.iconst (-1), 1) := by decide +kernel
theorem dX10_pilgrims_44 : decode cX10_pilgrims 44 = .ok (.ireturn, 1) := by decide +kernel
theorem dX10_pilgrims_45 : decode cX10_pilgrims 45 = .ok (.aload_n 0, 1) := by decide +kernel
theorem dX10_pilgrims_46 : decode cX10_pilgrims 46 = .ok (.getfield 31, 3) := by decide +kernel
theorem dX10_pilgrims_49 : decode cX10_pilgrims 49 = .ok (.invokevirtual 233, 3) := by decide +kernel
theorem dX10_pilgrims_52 : decode cX10_pilgrims 52 = .ok (.istore 5, 2) := by decide +kernel
theorem dX10_pilgrims_54 : decode cX10_pilgrims 54 = .ok (.iload_n 1, 1) := by decide +kernel
theorem dX10_pilgrims_55 : decode cX10_pilgrims 55 = .ok (.bipush 7, 2) := by decide +kernel
theorem dX10_pilgrims_57 : decode cX10_pilgrims 57 = .ok (.imul, 1) := by decide +kernel
theorem dX10_pilgrims_58 : decode cX10_pilgrims 58 = .ok (.bipush 15, 2) := by decide +kernel
theorem dX10_pilgrims_60 : decode cX10_pilgrims 60 = .ok (.iadd, 1) := by decide +kernel
theorem dX10_pilgrims_61 : decode cX10_pilgrims 61 = .ok (.istore 6, 2) := by decide +kernel
theorem dX10_pilgrims_63 : decode cX10_pilgrims 63 = .ok (.iconst 0, 1) := by decide +kernel
theorem dX10_pilgrims_64 : decode cX10_pilgrims 64 = .ok (.istore 7, 2) := by decide +kernel
theorem dX10_pilgrims_66 : decode cX10_pilgrims 66 = .ok (.iconst 0, 1) := by decide +kernel
theorem dX10_pilgrims_67 : decode cX10_pilgrims 67 = .ok (.istore 8, 2) := by decide +kernel
theorem dX10_pilgrims_69 : decode cX10_pilgrims 69 = .ok (.iload 8, 2) := by decide +kernel
theorem dX10_pilgrims_71 : decode cX10_pilgrims 71 = .ok (.iload_n 2, 1) := by decide +kernel
theorem dX10_pilgrims_72 : decode cX10_pilgrims 72 = .ok (.if_icmp .ge 64, 3) := by decide +kernel
theorem dX10_pilgrims_75 : decode cX10_pilgrims 75 = .ok (.iload 6, 2) := by decide +kernel
theorem dX10_pilgrims_77 : decode cX10_pilgrims 77 = .ok (.aload_n 0, 1) := by decide +kernel
theorem dX10_pilgrims_78 : decode cX10_pilgrims 78 = .ok (.getfield 12, 3) := by decide +kernel
theorem dX10_pilgrims_81 : decode cX10_pilgrims 81 = .ok (.getfield 236, 3) := by decide +kernel
theorem dX10_pilgrims_84 : decode cX10_pilgrims 84 = .ok (.irem, 1) := by decide +kernel
theorem dX10_pilgrims_85 : decode cX10_pilgrims 85 = .ok (.istore 9, 2) := by decide +kernel
theorem dX10_pilgrims_87 : decode cX10_pilgrims 87 = .ok (.iload 6, 2) := by decide +kernel
theorem dX10_pilgrims_89 : decode cX10_pilgrims 89 = .ok (.invokestatic 239, 3) := by decide +kernel
theorem dX10_pilgrims_92 : decode cX10_pilgrims 92 = .ok (.istore 6, 2) := by decide +kernel
theorem dX10_pilgrims_94 : decode cX10_pilgrims 94 = .ok (.iload 5, 2) := by decide +kernel
theorem dX10_pilgrims_96 : decode cX10_pilgrims 96 = .ok (.iload 9, 2) := by decide +kernel
theorem dX10_pilgrims_98 : decode cX10_pilgrims 98 = .ok (.ishr, 1) := by decide +kernel
theorem dX10_pilgrims_99 : decode cX10_pilgrims 99 = .ok (.iconst 1, 1) := by decide +kernel
theorem dX10_pilgrims_100 : decode cX10_pilgrims 100 = .ok (.iand, 1) := by decide +kernel
theorem dX10_pilgrims_101 : decode cX10_pilgrims 101 = .ok (.ifCond .eq 29, 3) := by decide +kernel
theorem dX10_pilgrims_104 : decode cX10_pilgrims 104 = .ok (.iload 9, 2) := by decide +kernel
theorem dX10_pilgrims_106 : decode cX10_pilgrims 106 = .ok (.iload 4, 2) := by decide +kernel
theorem dX10_pilgrims_108 : decode cX10_pilgrims 108 = .ok (.if_icmp .ne 15, 3) := by decide +kernel
theorem dX10_pilgrims_111 : decode cX10_pilgrims 111 = .ok (.iload 6, 2) := by decide +kernel
theorem dX10_pilgrims_113 : decode cX10_pilgrims 113 = .ok (.bipush 6, 2) := by decide +kernel
theorem dX10_pilgrims_115 : decode cX10_pilgrims 115 = .ok (.irem, 1) := by decide +kernel
theorem dX10_pilgrims_116 : decode cX10_pilgrims 116 = .ok (.iload_n 3, 1) := by decide +kernel
theorem dX10_pilgrims_117 : decode cX10_pilgrims 117 = .ok (.if_icmp .ge 6, 3) := by decide +kernel
theorem dX10_pilgrims_120 : decode cX10_pilgrims 120 = .ok (.iinc 7 1, 3) := by decide +kernel
theorem dX10_pilgrims_123 : decode cX10_pilgrims 123 = .ok (.iload 6, 2) := by decide +kernel
theorem dX10_pilgrims_125 : decode cX10_pilgrims 125 = .ok (.invokestatic 239, 3) := by decide +kernel
theorem dX10_pilgrims_128 : decode cX10_pilgrims 128 = .ok (.istore 6, 2) := by decide +kernel
theorem dX10_pilgrims_130 : decode cX10_pilgrims 130 = .ok (.iinc 8 1, 3) := by decide +kernel
theorem dX10_pilgrims_133 : decode cX10_pilgrims 133 = .ok (.goto (-64), 3) := by decide +kernel
theorem dX10_pilgrims_136 : decode cX10_pilgrims 136 = .ok (.iload 7, 2) := by decide +kernel
theorem dX10_pilgrims_138 : decode cX10_pilgrims 138 = .ok (.ireturn, 1) := by decide +kernel
theorem dX10_image_0 : decode cX10_image 0 = .ok (.aload_n 0, 1) := by decide +kernel
theorem dX10_image_1 : decode cX10_image 1 = .ok (.getfield 16, 3) := by decide +kernel
theorem dX10_image_4 : decode cX10_image 4 = .ok (.aload_n 0, 1) := by decide +kernel
theorem dX10_image_5 : decode cX10_image 5 = .ok (.getfield 12, 3) := by decide +kernel
theorem dX10_image_8 : decode cX10_image 8 = .ok (.invokevirtual 242, 3) := by decide +kernel
theorem dX10_image_11 : decode cX10_image 11 = .ok (.aload_n 0, 1) := by decide +kernel
theorem dX10_image_12 : decode cX10_image 12 = .ok (.getfield 12, 3) := by decide +kernel
theorem dX10_image_15 : decode cX10_image 15 = .ok (.getfield 140, 3) := by decide +kernel
theorem dX10_image_18 : decode cX10_image 18 = .ok (.getfield 245, 3) := by decide +kernel
theorem dX10_image_21 : decode cX10_image 21 = .ok (.ireturn, 1) := by decide +kernel
theorem dX10_back_0 : decode cX10_back 0 = .ok (.aload_n 0, 1) := by decide +kernel
theorem dX10_back_1 : decode cX10_back 1 = .ok (.getfield 12, 3) := by decide +kernel
theorem dX10_back_4 : decode cX10_back 4 = .ok (.aload_n 0, 1) := by decide +kernel
theorem dX10_back_5 : decode cX10_back 5 = .ok (.getfield 16, 3) := by decide +kernel
theorem dX10_back_8 : decode cX10_back 8 = .ok (.invokevirtual 242, 3) := by decide +kernel
theorem dX10_back_11 : decode cX10_back 11 = .ok (.aload_n 0, 1) := by decide +kernel
theorem dX10_back_12 : decode cX10_back 12 = .ok (.getfield 12, 3) := by decide +kernel
theorem dX10_back_15 : decode cX10_back 15 = .ok (.getfield 140, 3) := by decide +kernel
theorem dX10_back_18 : decode cX10_back 18 = .ok (.getfield 245, 3) := by decide +kernel
theorem dX10_back_21 : decode cX10_back 21 = .ok (.ireturn, 1) := by decide +kernel
theorem dX10_about_0 : decode cX10_about 0 = .ok (.iload_n 1, 1) := by decide +kernel
theorem dX10_about_1 : decode cX10_about 1 = .ok (.bipush 10, 2) := by decide +kernel
theorem dX10_about_3 : decode cX10_about 3 = .ok (.if_icmp .lt 12, 3) := by decide +kernel
theorem dX10_about_6 : decode cX10_about 6 = .ok (.aload_n 0, 1) := by decide +kernel
theorem dX10_about_7 : decode cX10_about 7 = .ok (.getfield 12, 3) := by decide +kernel
theorem dX10_about_10 : decode cX10_about 10 = .ok (.iload_n 1, 1) := by decide +kernel
theorem dX10_about_11 : decode cX10_about 11 = .ok (.invokevirtual 248, 3) := by decide +kernel
theorem dX10_about_14 : decode cX10_about 14 = .ok (.ireturn, 1) := by decide +kernel
theorem dX10_about_15 : decode cX10_about 15 = .ok (.iload_n 1, 1) := by decide +kernel
theorem dX10_about_16 : decode cX10_about 16 = .ok (.tableswitch 154 0 9 #[56, 64, 75, 86, 94, 102, 113, 124, 135, 146], 56) := by decide +kernel
theorem dX10_about_72 : decode cX10_about 72 = .ok (.aload_n 0, 1) := by decide +kernel
theorem dX10_about_73 : decode cX10_about 73 = .ok (.getfield 12, 3) := by decide +kernel
theorem dX10_about_76 : decode cX10_about 76 = .ok (.getfield 236, 3) := by decide +kernel
theorem dX10_about_79 : decode cX10_about 79 = .ok (.ireturn, 1) := by decide +kernel
theorem dX10_about_80 : decode cX10_about 80 = .ok (.aload_n 0, 1) := by decide +kernel
theorem dX10_about_81 : decode cX10_about 81 = .ok (.getfield 12, 3) := by decide +kernel
theorem dX10_about_84 : decode cX10_about 84 = .ok (.getfield 140, 3) := by decide +kernel
theorem dX10_about_87 : decode cX10_about 87 = .ok (.getfield 251, 3) := by decide +kernel
theorem dX10_about_90 : decode cX10_about 90 = .ok (.ireturn, 1) := by decide +kernel
theorem dX10_about_91 : decode cX10_about 91 = .ok (.aload_n 0, 1) := by decide +kernel
theorem dX10_about_92 : decode cX10_about 92 = .ok (.getfield 12, 3) := by decide +kernel
theorem dX10_about_95 : decode cX10_about 95 = .ok (.getfield 140, 3) := by decide +kernel
theorem dX10_about_98 : decode cX10_about 98 = .ok (.getfield 245, 3) := by decide +kernel
theorem dX10_about_101 : decode cX10_about 101 = .ok (.ireturn, 1) := by decide +kernel
theorem dX10_about_102 : decode cX10_about 102 = .ok (.aload_n 0, 1) := by decide +kernel
theorem dX10_about_103 : decode cX10_about 103 = .ok (.getfield 12, 3) := by decide +kernel
theorem dX10_about_106 : decode cX10_about 106 = .ok (.getfield 78, 3) := by decide +kernel
theorem dX10_about_109 : decode cX10_about 109 = .ok (.ireturn, 1) := by decide +kernel
theorem dX10_about_110 : decode cX10_about 110 = .ok (.aload_n 0, 1) := by decide +kernel
theorem dX10_about_111 : decode cX10_about 111 = .ok (.getfield 12, 3) := by decide +kernel
theorem dX10_about_114 : decode cX10_about 114 = .ok (.getfield 254, 3) := by decide +kernel
theorem dX10_about_117 : decode cX10_about 117 = .ok (.ireturn, 1) := by decide +kernel
theorem dX10_about_118 : decode cX10_about 118 = .ok (.aload_n 0, 1) := by decide +kernel
theorem dX10_about_119 : decode cX10_about 119 = .ok (.getfield 12, 3) := by decide +kernel
theorem dX10_about_122 : decode cX10_about 122 = .ok (.getfield 257, 3) := by decide +kernel
theorem dX10_about_125 : decode cX10_about 125 = .ok (.getfield 261, 3) := by decide +kernel
theorem dX10_about_128 : decode cX10_about 128 = .ok (.ireturn, 1) := by decide +kernel
theorem dX10_about_129 : decode cX10_about 129 = .ok (.aload_n 0, 1) := by decide +kernel
theorem dX10_about_130 : decode cX10_about 130 = .ok (.getfield 12, 3) := by decide +kernel
theorem dX10_about_133 : decode cX10_about 133 = .ok (.getfield 197, 3) := by decide +kernel
theorem dX10_about_136 : decode cX10_about 136 = .ok (.getfield 201, 3) := by decide +kernel
theorem dX10_about_139 : decode cX10_about 139 = .ok (.ireturn, 1) := by decide +kernel
theorem dX10_about_140 : decode cX10_about 140 = .ok (.aload_n 0, 1) := by decide +kernel
theorem dX10_about_141 : decode cX10_about 141 = .ok (.getfield 12, 3) := by decide +kernel
theorem dX10_about_144 : decode cX10_about 144 = .ok (.getfield 197, 3) := by decide +kernel
theorem dX10_about_147 : decode cX10_about 147 = .ok (.getfield 264, 3) := by decide +kernel
theorem dX10_about_150 : decode cX10_about 150 = .ok (.ireturn, 1) := by decide +kernel
theorem dX10_about_151 : decode cX10_about 151 = .ok (.aload_n 0, 1) := by decide +kernel
theorem dX10_about_152 : decode cX10_about 152 = .ok (.getfield 12, 3) := by decide +kernel
theorem dX10_about_155 : decode cX10_about 155 = .ok (.getfield 197, 3) := by decide +kernel
theorem dX10_about_158 : decode cX10_about 158 = .ok (.getfield 267, 3) := by decide +kernel
theorem dX10_about_161 : decode cX10_about 161 = .ok (.ireturn, 1) := by decide +kernel
theorem dX10_about_162 : decode cX10_about 162 = .ok (.aload_n 0, 1) := by decide +kernel
theorem dX10_about_163 : decode cX10_about 163 = .ok (.getfield 22, 3) := by decide +kernel
theorem dX10_about_166 : decode cX10_about 166 = .ok (.getfield 70, 3) := by decide +kernel
theorem dX10_about_169 : decode cX10_about 169 = .ok (.ireturn, 1) := by decide +kernel
theorem dX10_about_170 : decode cX10_about 170 = .ok (.bipush (-2), 2) := by decide +kernel
theorem dX10_about_172 : decode cX10_about 172 = .ok (.ireturn, 1) := by decide +kernel
theorem dX10_within_0 : decode cX10_within 0 = .ok (.iload_n 0, 1) := by decide +kernel
theorem dX10_within_1 : decode cX10_within 1 = .ok (.iload_n 1, 1) := by decide +kernel
theorem dX10_within_2 : decode cX10_within 2 = .ok (.if_icmp .lt 12, 3) := by decide +kernel
theorem dX10_within_5 : decode cX10_within 5 = .ok (.iload_n 0, 1) := by decide +kernel
theorem dX10_within_6 : decode cX10_within 6 = .ok (.iload_n 2, 1) := by decide +kernel
theorem dX10_within_7 : decode cX10_within 7 = .ok (.if_icmp .gt 7, 3) := by decide +kernel
theorem dX10_within_10 : decode cX10_within 10 = .ok (.iconst 1, 1) := by decide +kernel
theorem dX10_within_11 : decode cX10_within 11 = .ok (.goto 4, 3) := by decide +kernel
theorem dX10_within_14 : decode cX10_within 14 = .ok (.iconst 0, 1) := by decide +kernel
theorem dX10_within_15 : decode cX10_within 15 = .ok (.ireturn, 1) := by decide +kernel
theorem dX10_nextDraw_0 : decode cX10_nextDraw 0 = .ok (.iload_n 0, 1) := by decide +kernel
theorem dX10_nextDraw_1 : decode cX10_nextDraw 1 = .ok (.sipush 173, 3) := by decide +kernel
theorem dX10_nextDraw_4 : decode cX10_nextDraw 4 = .ok (.imul, 1) := by decide +kernel
theorem dX10_nextDraw_5 : decode cX10_nextDraw 5 = .ok (.bipush 41, 2) := by decide +kernel
theorem dX10_nextDraw_7 : decode cX10_nextDraw 7 = .ok (.iadd, 1) := by decide +kernel
theorem dX10_nextDraw_8 : decode cX10_nextDraw 8 = .ok (.sipush 30103, 3) := by decide +kernel
theorem dX10_nextDraw_11 : decode cX10_nextDraw 11 = .ok (.irem, 1) := by decide +kernel
theorem dX10_nextDraw_12 : decode cX10_nextDraw 12 = .ok (.ireturn, 1) := by decide +kernel
theorem dX10_power_0 : decode cX10_power 0 = .ok (.lconst 1, 1) := by decide +kernel
theorem dX10_power_1 : decode cX10_power 1 = .ok (.lstore_n 2, 1) := by decide +kernel
theorem dX10_power_2 : decode cX10_power 2 = .ok (.iconst 0, 1) := by decide +kernel
theorem dX10_power_3 : decode cX10_power 3 = .ok (.istore 4, 2) := by decide +kernel
theorem dX10_power_5 : decode cX10_power 5 = .ok (.iload 4, 2) := by decide +kernel
theorem dX10_power_7 : decode cX10_power 7 = .ok (.iload_n 1, 1) := by decide +kernel
theorem dX10_power_8 : decode cX10_power 8 = .ok (.if_icmp .ge 14, 3) := by decide +kernel
theorem dX10_power_11 : decode cX10_power 11 = .ok (.lload_n 2, 1) := by decide +kernel
theorem dX10_power_12 : decode cX10_power 12 = .ok (.iload_n 0, 1) := by decide +kernel
theorem dX10_power_13 : decode cX10_power 13 = .ok (.i2l, 1) := by decide +kernel
theorem dX10_power_14 : decode cX10_power 14 = .ok (.lmul, 1) := by decide +kernel
theorem dX10_power_15 : decode cX10_power 15 = .ok (.lstore_n 2, 1) := by decide +kernel
theorem dX10_power_16 : decode cX10_power 16 = .ok (.iinc 4 1, 3) := by decide +kernel
theorem dX10_power_19 : decode cX10_power 19 = .ok (.goto (-14), 3) := by decide +kernel
theorem dX10_power_22 : decode cX10_power 22 = .ok (.lload_n 2, 1) := by decide +kernel
theorem dX10_power_23 : decode cX10_power 23 = .ok (.lreturn, 1) := by decide +kernel
theorem dX10_commonWithSixes_0 : decode cX10_commonWithSixes 0 = .ok (.lconst 1, 1) := by decide +kernel
theorem dX10_commonWithSixes_1 : decode cX10_commonWithSixes 1 = .ok (.lstore_n 3, 1) := by decide +kernel
theorem dX10_commonWithSixes_2 : decode cX10_commonWithSixes 2 = .ok (.lload_n 0, 1) := by decide +kernel
theorem dX10_commonWithSixes_3 : decode cX10_commonWithSixes 3 = .ok (.lstore 5, 2) := by decide +kernel
theorem dX10_commonWithSixes_5 : decode cX10_commonWithSixes 5 = .ok (.iconst 0, 1) := by decide +kernel
theorem dX10_commonWithSixes_6 : decode cX10_commonWithSixes 6 = .ok (.istore 7, 2) := by decide +kernel
theorem dX10_commonWithSixes_8 : decode cX10_commonWithSixes 8 = .ok (.iload 7, 2) := by decide +kernel
theorem dX10_commonWithSixes_10 : decode cX10_commonWithSixes 10 = .ok (.iload_n 2, 1) := by decide +kernel
theorem dX10_commonWithSixes_11 : decode cX10_commonWithSixes 11 = .ok (.if_icmp .ge 34, 3) := by decide +kernel
theorem dX10_commonWithSixes_14 : decode cX10_commonWithSixes 14 = .ok (.lload 5, 2) := by decide +kernel
theorem dX10_commonWithSixes_16 : decode cX10_commonWithSixes 16 = .ok (.ldc2_w 270, 3) := by decide +kernel
theorem dX10_commonWithSixes_19 : decode cX10_commonWithSixes 19 = .ok (.lrem, 1) := by decide +kernel
theorem dX10_commonWithSixes_20 : decode cX10_commonWithSixes 20 = .ok (.lconst 0, 1) := by decide +kernel
theorem dX10_commonWithSixes_21 : decode cX10_commonWithSixes 21 = .ok (.lcmp, 1) := by decide +kernel
theorem dX10_commonWithSixes_22 : decode cX10_commonWithSixes 22 = .ok (.ifCond .ne 23, 3) := by decide +kernel
theorem dX10_commonWithSixes_25 : decode cX10_commonWithSixes 25 = .ok (.lload 5, 2) := by decide +kernel
theorem dX10_commonWithSixes_27 : decode cX10_commonWithSixes 27 = .ok (.ldc2_w 270, 3) := by decide +kernel
theorem dX10_commonWithSixes_30 : decode cX10_commonWithSixes 30 = .ok (.ldiv, 1) := by decide +kernel
theorem dX10_commonWithSixes_31 : decode cX10_commonWithSixes 31 = .ok (.lstore 5, 2) := by decide +kernel
theorem dX10_commonWithSixes_33 : decode cX10_commonWithSixes 33 = .ok (.lload_n 3, 1) := by decide +kernel
theorem dX10_commonWithSixes_34 : decode cX10_commonWithSixes 34 = .ok (.ldc2_w 270, 3) := by decide +kernel
theorem dX10_commonWithSixes_37 : decode cX10_commonWithSixes 37 = .ok (.lmul, 1) := by decide +kernel
theorem dX10_commonWithSixes_38 : decode cX10_commonWithSixes 38 = .ok (.lstore_n 3, 1) := by decide +kernel
theorem dX10_commonWithSixes_39 : decode cX10_commonWithSixes 39 = .ok (.iinc 7 1, 3) := by decide +kernel
theorem dX10_commonWithSixes_42 : decode cX10_commonWithSixes 42 = .ok (.goto (-34), 3) := by decide +kernel
theorem dX10_commonWithSixes_45 : decode cX10_commonWithSixes 45 = .ok (.iconst 0, 1) := by decide +kernel
theorem dX10_commonWithSixes_46 : decode cX10_commonWithSixes 46 = .ok (.istore 7, 2) := by decide +kernel
theorem dX10_commonWithSixes_48 : decode cX10_commonWithSixes 48 = .ok (.iload 7, 2) := by decide +kernel
theorem dX10_commonWithSixes_50 : decode cX10_commonWithSixes 50 = .ok (.iload_n 2, 1) := by decide +kernel
theorem dX10_commonWithSixes_51 : decode cX10_commonWithSixes 51 = .ok (.if_icmp .ge 34, 3) := by decide +kernel
theorem dX10_commonWithSixes_54 : decode cX10_commonWithSixes 54 = .ok (.lload 5, 2) := by decide +kernel
theorem dX10_commonWithSixes_56 : decode cX10_commonWithSixes 56 = .ok (.ldc2_w 272, 3) := by decide +kernel
theorem dX10_commonWithSixes_59 : decode cX10_commonWithSixes 59 = .ok (.lrem, 1) := by decide +kernel
theorem dX10_commonWithSixes_60 : decode cX10_commonWithSixes 60 = .ok (.lconst 0, 1) := by decide +kernel
theorem dX10_commonWithSixes_61 : decode cX10_commonWithSixes 61 = .ok (.lcmp, 1) := by decide +kernel
theorem dX10_commonWithSixes_62 : decode cX10_commonWithSixes 62 = .ok (.ifCond .ne 23, 3) := by decide +kernel
theorem dX10_commonWithSixes_65 : decode cX10_commonWithSixes 65 = .ok (.lload 5, 2) := by decide +kernel
theorem dX10_commonWithSixes_67 : decode cX10_commonWithSixes 67 = .ok (.ldc2_w 272, 3) := by decide +kernel
theorem dX10_commonWithSixes_70 : decode cX10_commonWithSixes 70 = .ok (.ldiv, 1) := by decide +kernel
theorem dX10_commonWithSixes_71 : decode cX10_commonWithSixes 71 = .ok (.lstore 5, 2) := by decide +kernel
theorem dX10_commonWithSixes_73 : decode cX10_commonWithSixes 73 = .ok (.lload_n 3, 1) := by decide +kernel
theorem dX10_commonWithSixes_74 : decode cX10_commonWithSixes 74 = .ok (.ldc2_w 272, 3) := by decide +kernel
theorem dX10_commonWithSixes_77 : decode cX10_commonWithSixes 77 = .ok (.lmul, 1) := by decide +kernel
theorem dX10_commonWithSixes_78 : decode cX10_commonWithSixes 78 = .ok (.lstore_n 3, 1) := by decide +kernel
theorem dX10_commonWithSixes_79 : decode cX10_commonWithSixes 79 = .ok (.iinc 7 1, 3) := by decide +kernel
theorem dX10_commonWithSixes_82 : decode cX10_commonWithSixes 82 = .ok (.goto (-34), 3) := by decide +kernel
theorem dX10_commonWithSixes_85 : decode cX10_commonWithSixes 85 = .ok (.lload_n 3, 1) := by decide +kernel
theorem dX10_commonWithSixes_86 : decode cX10_commonWithSixes 86 = .ok (.lreturn, 1) := by decide +kernel
