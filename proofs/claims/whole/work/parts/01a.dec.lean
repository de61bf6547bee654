theorem dX0_init_0 : decode cX0_init 0 = .ok (.aload_n 0, 1) := by decide +kernel
theorem dX0_init_1 : decode cX0_init 1 = .ok (.invokespecial 3, 3) := by decide +kernel
theorem dX0_init_4 : decode cX0_init 4 = .ok (.aload_n 0, 1) := by decide +kernel
theorem dX0_init_5 : decode cX0_init 5 = .ok (.bipush 40, 2) := by decide +kernel
theorem dX0_init_7 : decode cX0_init 7 = .ok (.newarray .int, 2) := by decide +kernel
theorem dX0_init_9 : decode cX0_init 9 = .ok (.putfield 9, 3) := by decide +kernel
theorem dX0_init_12 : decode cX0_init 12 = .ok (.aload_n 0, 1) := by decide +kernel
theorem dX0_init_13 : decode cX0_init 13 = .ok (.bipush 40, 2) := by decide +kernel
theorem dX0_init_15 : decode cX0_init 15 = .ok (.newarray .int, 2) := by decide +kernel
theorem dX0_init_17 : decode cX0_init 17 = .ok (.putfield 15, 3) := by decide +kernel
theorem dX0_init_20 : decode cX0_init 20 = .ok (.aload_n 0, 1) := by decide +kernel
theorem dX0_init_21 : decode cX0_init 21 = .ok (.bipush 40, 2) := by decide +kernel
theorem dX0_init_23 : decode cX0_init 23 = .ok (.newarray .int, 2) := by decide +kernel
theorem dX0_init_25 : decode cX0_init 25 = .ok (.putfield 18, 3) := by decide +kernel
theorem dX0_init_28 : decode cX0_init 28 = .ok (.return_, 1) := by decide +kernel
theorem dX0_gather_0 : decode cX0_gather 0 = .ok (.aload_n 0, 1) := by decide +kernel
theorem dX0_gather_1 : decode cX0_gather 1 = .ok (.iconst 0, 1) := by decide +kernel
theorem dX0_gather_2 : decode cX0_gather 2 = .ok (.putfield 21, 3) := by decide +kernel
theorem dX0_gather_5 : decode cX0_gather 5 = .ok (.iconst 0, 1) := by decide +kernel
theorem dX0_gather_6 : decode cX0_gather 6 = .ok (.istore 6, 2) := by decide +kernel
theorem dX0_gather_8 : decode cX0_gather 8 = .ok (.iload 6, 2) := by decide +kernel
theorem dX0_gather_10 : decode cX0_gather 10 = .ok (.aload_n 1, 1) := by decide +kernel
theorem dX0_gather_11 : decode cX0_gather 11 = .ok (.getfield 25, 3) := by decide +kernel
theorem dX0_gather_14 : decode cX0_gather 14 = .ok (.if_icmp .ge 42, 3) := by decide +kernel
theorem dX0_gather_17 : decode cX0_gather 17 = .ok (.aload_n 1, 1) := by decide +kernel
theorem dX0_gather_18 : decode cX0_gather 18 = .ok (.getfield 30, 3) := by decide +kernel
theorem dX0_gather_21 : decode cX0_gather 21 = .ok (.iload 6, 2) := by decide +kernel
theorem dX0_gather_23 : decode cX0_gather 23 = .ok (.iaload, 1) := by decide +kernel
theorem dX0_gather_24 : decode cX0_gather 24 = .ok (.iload_n 3, 1) := by decide +kernel
theorem dX0_gather_25 : decode cX0_gather 25 = .ok (.if_icmp .ne 25, 3) := by decide +kernel
theorem dX0_gather_28 : decode cX0_gather 28 = .ok (.aload_n 2, 1) := by decide +kernel
theorem dX0_gather_29 : decode cX0_gather 29 = .ok (.getfield 33, 3) := by decide +kernel
theorem dX0_gather_32 : decode cX0_gather 32 = .ok (.iload 6, 2) := by decide +kernel
theorem dX0_gather_34 : decode cX0_gather 34 = .ok (.baload, 1) := by decide +kernel
theorem dX0_gather_35 : decode cX0_gather 35 = .ok (.ifCond .eq 15, 3) := by decide +kernel
theorem dX0_gather_38 : decode cX0_gather 38 = .ok (.aload_n 0, 1) := by decide +kernel
theorem dX0_gather_39 : decode cX0_gather 39 = .ok (.iload 6, 2) := by decide +kernel
theorem dX0_gather_41 : decode cX0_gather 41 = .ok (.aload_n 1, 1) := by decide +kernel
theorem dX0_gather_42 : decode cX0_gather 42 = .ok (.aload_n 2, 1) := by decide +kernel
theorem dX0_gather_43 : decode cX0_gather 43 = .ok (.iload 4, 2) := by decide +kernel
theorem dX0_gather_45 : decode cX0_gather 45 = .ok (.iload 5, 2) := by decide +kernel
theorem dX0_gather_47 : decode cX0_gather 47 = .ok (.invokevirtual 39, 3) := by decide +kernel
theorem dX0_gather_50 : decode cX0_gather 50 = .ok (.iinc 6 1, 3) := by decide +kernel
theorem dX0_gather_53 : decode cX0_gather 53 = .ok (.goto (-45), 3) := by decide +kernel
theorem dX0_gather_56 : decode cX0_gather 56 = .ok (.return_, 1) := by decide +kernel
theorem dX0_gatherOf_0 : decode cX0_gatherOf 0 = .ok (.iconst 0, 1) := by decide +kernel
theorem dX0_gatherOf_1 : decode cX0_gatherOf 1 = .ok (.istore 6, 2) := by decide +kernel
theorem dX0_gatherOf_3 : decode cX0_gatherOf 3 = .ok (.iload 6, 2) := by decide +kernel
theorem dX0_gatherOf_5 : decode cX0_gatherOf 5 = .ok (.aload_n 2, 1) := by decide +kernel
theorem dX0_gatherOf_6 : decode cX0_gatherOf 6 = .ok (.getfield 43, 3) := by decide +kernel
theorem dX0_gatherOf_9 : decode cX0_gatherOf 9 = .ok (.if_icmp .ge 115, 3) := by decide +kernel
theorem dX0_gatherOf_12 : decode cX0_gatherOf 12 = .ok (.aload_n 2, 1) := by decide +kernel
theorem dX0_gatherOf_13 : decode cX0_gatherOf 13 = .ok (.getfield 45, 3) := by decide +kernel
theorem dX0_gatherOf_16 : decode cX0_gatherOf 16 = .ok (.iload 6, 2) := by decide +kernel
theorem dX0_gatherOf_18 : decode cX0_gatherOf 18 = .ok (.iaload, 1) := by decide +kernel
theorem dX0_gatherOf_19 : decode cX0_gatherOf 19 = .ok (.istore 7, 2) := by decide +kernel
theorem dX0_gatherOf_21 : decode cX0_gatherOf 21 = .ok (.aload_n 2, 1) := by decide +kernel
theorem dX0_gatherOf_22 : decode cX0_gatherOf 22 = .ok (.getfield 48, 3) := by decide +kernel
theorem dX0_gatherOf_25 : decode cX0_gatherOf 25 = .ok (.iload 6, 2) := by decide +kernel
theorem dX0_gatherOf_27 : decode cX0_gatherOf 27 = .ok (.iaload, 1) := by decide +kernel
theorem dX0_gatherOf_28 : decode cX0_gatherOf 28 = .ok (.iload_n 1, 1) := by decide +kernel
theorem dX0_gatherOf_29 : decode cX0_gatherOf 29 = .ok (.if_icmp .ne 89, 3) := by decide +kernel
theorem dX0_gatherOf_32 : decode cX0_gatherOf 32 = .ok (.aload_n 2, 1) := by decide +kernel
theorem dX0_gatherOf_33 : decode cX0_gatherOf 33 = .ok (.getfield 30, 3) := by decide +kernel
theorem dX0_gatherOf_36 : decode cX0_gatherOf 36 = .ok (.iload 7, 2) := by decide +kernel
theorem dX0_gatherOf_38 : decode cX0_gatherOf 38 = .ok (.iaload, 1) := by decide +kernel
theorem dX0_gatherOf_39 : decode cX0_gatherOf 39 = .ok (.iload 4, 2) := by decide +kernel
theorem dX0_gatherOf_41 : decode cX0_gatherOf 41 = .ok (.if_icmp .ne 77, 3) := by decide +kernel
theorem dX0_gatherOf_44 : decode cX0_gatherOf 44 = .ok (.aload_n 2, 1) := by decide +kernel
theorem dX0_gatherOf_45 : decode cX0_gatherOf 45 = .ok (.iload 6, 2) := by decide +kernel
theorem dX0_gatherOf_47 : decode cX0_gatherOf 47 = .ok (.aload_n 3, 1) := by decide +kernel
theorem dX0_gatherOf_48 : decode cX0_gatherOf 48 = .ok (.invokevirtual 51, 3) := by decide +kernel
theorem dX0_gatherOf_51 : decode cX0_gatherOf 51 = .ok (.istore 8, 2) := by decide +kernel
theorem dX0_gatherOf_53 : decode cX0_gatherOf 53 = .ok (.iload 5, 2) := by decide +kernel
theorem dX0_gatherOf_55 : decode cX0_gatherOf 55 = .ok (.ifCond .eq 12, 3) := by decide +kernel
theorem dX0_gatherOf_58 : decode cX0_gatherOf 58 = .ok (.aload_n 0, 1) := by decide +kernel
theorem dX0_gatherOf_59 : decode cX0_gatherOf 59 = .ok (.iload 7, 2) := by decide +kernel
theorem dX0_gatherOf_61 : decode cX0_gatherOf 61 = .ok (.invokevirtual 55, 3) := by decide +kernel
theorem dX0_gatherOf_64 : decode cX0_gatherOf 64 = .ok (.goto 7, 3) := by decide +kernel
theorem dX0_gatherOf_67 : decode cX0_gatherOf 67 = .ok (.aload_n 0, 1) := by decide +kernel
theorem dX0_gatherOf_68 : decode cX0_gatherOf 68 = .ok (.getfield 21, 3) := by decide +kernel
theorem dX0_gatherOf_71 : decode cX0_gatherOf 71 = .ok (.istore 9, 2) := by decide +kernel
theorem dX0_gatherOf_73 : decode cX0_gatherOf 73 = .ok (.iload 9, 2) := by decide +kernel
theorem dX0_gatherOf_75 : decode cX0_gatherOf 75 = .ok (.aload_n 0, 1) := by decide +kernel
theorem dX0_gatherOf_76 : decode cX0_gatherOf 76 = .ok (.getfield 21, 3) := by decide +kernel
theorem dX0_gatherOf_79 : decode cX0_gatherOf 79 = .ok (.if_icmp .ge 29, 3) := by decide +kernel
theorem dX0_gatherOf_82 : decode cX0_gatherOf 82 = .ok (.aload_n 0, 1) := by decide +kernel
theorem dX0_gatherOf_83 : decode cX0_gatherOf 83 = .ok (.getfield 15, 3) := by decide +kernel
theorem dX0_gatherOf_86 : decode cX0_gatherOf 86 = .ok (.iload 9, 2) := by decide +kernel
theorem dX0_gatherOf_88 : decode cX0_gatherOf 88 = .ok (.aload_n 2, 1) := by decide +kernel
theorem dX0_gatherOf_89 : decode cX0_gatherOf 89 = .ok (.getfield 59, 3) := by decide +kernel
theorem dX0_gatherOf_92 : decode cX0_gatherOf 92 = .ok (.aload_n 0, 1) := by decide +kernel
theorem dX0_gatherOf_93 : decode cX0_gatherOf 93 = .ok (.getfield 15, 3) := by decide +kernel
theorem dX0_gatherOf_96 : decode cX0_gatherOf 96 = .ok (.iload 9, 2) := by decide +kernel
theorem dX0_gatherOf_98 : decode cX0_gatherOf 98 = .ok (.iaload, 1) := by decide +kernel
theorem dX0_gatherOf_99 : decode cX0_gatherOf 99 = .ok (.iload 8, 2) := by decide +kernel
theorem dX0_gatherOf_101 : decode cX0_gatherOf 101 = .ok (.invokestatic 62, 3) := by decide +kernel
theorem dX0_gatherOf_104 : decode cX0_gatherOf 104 = .ok (.iastore, 1) := by decide +kernel
theorem dX0_gatherOf_105 : decode cX0_gatherOf 105 = .ok (.goto 13, 3) := by decide +kernel
theorem dX0_gatherOf_108 : decode cX0_gatherOf 108 = .ok (.aload_n 0, 1) := by decide +kernel
theorem dX0_gatherOf_109 : decode cX0_gatherOf 109 = .ok (.iload 7, 2) := by decide +kernel
theorem dX0_gatherOf_111 : decode cX0_gatherOf 111 = .ok (.iload 8, 2) := by decide +kernel
theorem dX0_gatherOf_113 : decode cX0_gatherOf 113 = .ok (.iload 6, 2) := by decide +kernel
theorem dX0_gatherOf_115 : decode cX0_gatherOf 115 = .ok (.invokevirtual 66, 3) := by decide +kernel
theorem dX0_gatherOf_118 : decode cX0_gatherOf 118 = .ok (.iinc 6 1, 3) := by decide +kernel
theorem dX0_gatherOf_121 : decode cX0_gatherOf 121 = .ok (.goto (-118), 3) := by decide +kernel
theorem dX0_gatherOf_124 : decode cX0_gatherOf 124 = .ok (.return_, 1) := by decide +kernel
theorem dX0_placeOf_0 : decode cX0_placeOf 0 = .ok (.iconst 0, 1) := by decide +kernel
theorem dX0_placeOf_1 : decode cX0_placeOf 1 = .ok (.istore_n 2, 1) := by decide +kernel
theorem dX0_placeOf_2 : decode cX0_placeOf 2 = .ok (.iload_n 2, 1) := by decide +kernel
theorem dX0_placeOf_3 : decode cX0_placeOf 3 = .ok (.aload_n 0, 1) := by decide +kernel
theorem dX0_placeOf_4 : decode cX0_placeOf 4 = .ok (.getfield 21, 3) := by decide +kernel
theorem dX0_placeOf_7 : decode cX0_placeOf 7 = .ok (.if_icmp .ge 21, 3) := by decide +kernel
theorem dX0_placeOf_10 : decode cX0_placeOf 10 = .ok (.aload_n 0, 1) := by decide +kernel
theorem dX0_placeOf_11 : decode cX0_placeOf 11 = .ok (.getfield 9, 3) := by decide +kernel
theorem dX0_placeOf_14 : decode cX0_placeOf 14 = .ok (.iload_n 2, 1) := by decide +kernel
theorem dX0_placeOf_15 : decode cX0_placeOf 15 = .ok (.iaload, 1) := by decide +kernel
theorem dX0_placeOf_16 : decode cX0_placeOf 16 = .ok (.iload_n 1, 1) := by decide +kernel
theorem dX0_placeOf_17 : decode cX0_placeOf 17 = .ok (.if_icmp .ne 5, 3) := by decide +kernel
theorem dX0_placeOf_20 : decode cX0_placeOf 20 = .ok (.iload_n 2, 1) := by decide +kernel
theorem dX0_placeOf_21 : decode cX0_placeOf 21 = .ok (.ireturn, 1) := by decide +kernel
theorem dX0_placeOf_22 : decode cX0_placeOf 22 = .ok (.iinc 2 1, 3) := by decide +kernel
theorem dX0_placeOf_25 : decode cX0_placeOf 25 = .ok (.goto (-23), 3) := by decide +kernel
theorem dX0_placeOf_28 : decode cX0_placeOf 28 = .ok (.aload_n 0, 1) := by decide +kernel
theorem dX0_placeOf_29 : decode cX0_placeOf 29 = .ok (.getfield 21, 3) := by decide +kernel
theorem dX0_placeOf_32 : decode cX0_placeOf 32 = .ok (.ireturn, 1) := by decide +kernel
theorem dX0_append_0 : decode cX0_append 0 = .ok (.aload_n 0, 1) := by decide +kernel
theorem dX0_append_1 : decode cX0_append 1 = .ok (.getfield 9, 3) := by decide +kernel
theorem dX0_append_4 : decode cX0_append 4 = .ok (.aload_n 0, 1) := by decide +kernel
theorem dX0_append_5 : decode cX0_append 5 = .ok (.getfield 21, 3) := by decide +kernel
theorem dX0_append_8 : decode cX0_append 8 = .ok (.iload_n 1, 1) := by decide +kernel
theorem dX0_append_9 : decode cX0_append 9 = .ok (.iastore, 1) := by decide +kernel
theorem dX0_append_10 : decode cX0_append 10 = .ok (.aload_n 0, 1) := by decide +kernel
theorem dX0_append_11 : decode cX0_append 11 = .ok (.getfield 15, 3) := by decide +kernel
theorem dX0_append_14 : decode cX0_append 14 = .ok (.aload_n 0, 1) := by decide +kernel
theorem dX0_append_15 : decode cX0_append 15 = .ok (.getfield 21, 3) := by decide +kernel
theorem dX0_append_18 : decode cX0_append 18 = .ok (.iload_n 2, 1) := by decide +kernel
theorem dX0_append_19 : decode cX0_append 19 = .ok (.iastore, 1) := by decide +kernel
theorem dX0_append_20 : decode cX0_append 20 = .ok (.aload_n 0, 1) := by decide +kernel
theorem dX0_append_21 : decode cX0_append 21 = .ok (.getfield 18, 3) := by decide +kernel
theorem dX0_append_24 : decode cX0_append 24 = .ok (.aload_n 0, 1) := by decide +kernel
theorem dX0_append_25 : decode cX0_append 25 = .ok (.getfield 21, 3) := by decide +kernel
theorem dX0_append_28 : decode cX0_append 28 = .ok (.iload_n 3, 1) := by decide +kernel
theorem dX0_append_29 : decode cX0_append 29 = .ok (.iastore, 1) := by decide +kernel
theorem dX0_append_30 : decode cX0_append 30 = .ok (.aload_n 0, 1) := by decide +kernel
theorem dX0_append_31 : decode cX0_append 31 = .ok (.dup, 1) := by decide +kernel
theorem dX0_append_32 : decode cX0_append 32 = .ok (.getfield 21, 3) := by decide +kernel
theorem dX0_append_35 : decode cX0_append 35 = .ok (.iconst 1, 1) := by decide +kernel
theorem dX0_append_36 : decode cX0_append 36 = .ok (.iadd, 1) := by decide +kernel
theorem dX0_append_37 : decode cX0_append 37 = .ok (.putfield 21, 3) := by decide +kernel
theorem dX0_append_40 : decode cX0_append 40 = .ok (.return_, 1) := by decide +kernel
theorem dX1_init_0 : decode cX1_init 0 = .ok (.aload_n 0, 1) := by decide +kernel
theorem dX1_init_1 : decode cX1_init 1 = .ok (.invokespecial 3, 3) := by decide +kernel
theorem dX1_init_4 : decode cX1_init 4 = .ok (.aload_n 0, 1) := by decide +kernel
theorem dX1_init_5 : decode cX1_init 5 = .ok (.bipush 16, 2) := by decide +kernel
theorem dX1_init_7 : decode cX1_init 7 = .ok (.newarray .int, 2) := by decide +kernel
theorem dX1_init_9 : decode cX1_init 9 = .ok (.putfield 9, 3) := by decide +kernel
theorem dX1_init_12 : decode cX1_init 12 = .ok (.aload_n 0, 1) := by decide +kernel
theorem dX1_init_13 : decode cX1_init 13 = .ok (.bipush 16, 2) := by decide +kernel
theorem dX1_init_15 : decode cX1_init 15 = .ok (.newarray .int, 2) := by decide +kernel
theorem dX1_init_17 : decode cX1_init 17 = .ok (.putfield 15, 3) := by decide +kernel
theorem dX1_init_20 : decode cX1_init 20 = .ok (.aload_n 0, 1) := by decide +kernel
theorem dX1_init_21 : decode cX1_init 21 = .ok (.bipush 40, 2) := by decide +kernel
theorem dX1_init_23 : decode cX1_init 23 = .ok (.newarray .int, 2) := by decide +kernel
theorem dX1_init_25 : decode cX1_init 25 = .ok (.putfield 18, 3) := by decide +kernel
theorem dX1_init_28 : decode cX1_init 28 = .ok (.aload_n 0, 1) := by decide +kernel
theorem dX1_init_29 : decode cX1_init 29 = .ok (.bipush 40, 2) := by decide +kernel
theorem dX1_init_31 : decode cX1_init 31 = .ok (.newarray .int, 2) := by decide +kernel
theorem dX1_init_33 : decode cX1_init 33 = .ok (.putfield 21, 3) := by decide +kernel
theorem dX1_init_36 : decode cX1_init 36 = .ok (.aload_n 0, 1) := by decide +kernel
theorem dX1_init_37 : decode cX1_init 37 = .ok (.bipush 40, 2) := by decide +kernel
theorem dX1_init_39 : decode cX1_init 39 = .ok (.newarray .int, 2) := by decide +kernel
theorem dX1_init_41 : decode cX1_init 41 = .ok (.putfield 24, 3) := by decide +kernel
theorem dX1_init_44 : decode cX1_init 44 = .ok (.return_, 1) := by decide +kernel
theorem dX1_clear_0 : decode cX1_clear 0 = .ok (.aload_n 0, 1) := by decide +kernel
theorem dX1_clear_1 : decode cX1_clear 1 = .ok (.iconst 0, 1) := by decide +kernel
theorem dX1_clear_2 : decode cX1_clear 2 = .ok (.putfield 27, 3) := by decide +kernel
theorem dX1_clear_5 : decode cX1_clear 5 = .ok (.aload_n 0, 1) := by decide +kernel
theorem dX1_clear_6 : decode cX1_clear 6 = .ok (.iconst 0, 1) := by decide +kernel
theorem dX1_clear_7 : decode cX1_clear 7 = .ok (.putfield 31, 3) := by decide +kernel
theorem dX1_clear_10 : decode cX1_clear 10 = .ok (.aload_n 0, 1) := by decide +kernel
theorem dX1_clear_11 : decode cX1_clear 11 = .ok (.iconst 0, 1) := by decide +kernel
theorem dX1_clear_12 : decode cX1_clear 12 = .ok (.putfield 34, 3) := by decide +kernel
theorem dX1_clear_15 : decode cX1_clear 15 = .ok (.return_, 1) := by decide +kernel
theorem dX1_addVertex_0 : decode cX1_addVertex 0 = .ok (.aload_n 0, 1) := by decide +kernel
theorem dX1_addVertex_1 : decode cX1_addVertex 1 = .ok (.getfield 9, 3) := by decide +kernel
theorem dX1_addVertex_4 : decode cX1_addVertex 4 = .ok (.aload_n 0, 1) := by decide +kernel
theorem dX1_addVertex_5 : decode cX1_addVertex 5 = .ok (.getfield 27, 3) := by decide +kernel
theorem dX1_addVertex_8 : decode cX1_addVertex 8 = .ok (.iload_n 1, 1) := by decide +kernel
theorem dX1_addVertex_9 : decode cX1_addVertex 9 = .ok (.iastore, 1) := by decide +kernel
theorem dX1_addVertex_10 : decode cX1_addVertex 10 = .ok (.aload_n 0, 1) := by decide +kernel
theorem dX1_addVertex_11 : decode cX1_addVertex 11 = .ok (.getfield 15, 3) := by decide +kernel
theorem dX1_addVertex_14 : decode cX1_addVertex 14 = .ok (.aload_n 0, 1) := by decide +kernel
theorem dX1_addVertex_15 : decode cX1_addVertex 15 = .ok (.getfield 27, 3) := by decide +kernel
theorem dX1_addVertex_18 : decode cX1_addVertex 18 = .ok (.iload_n 2, 1) := by decide +kernel
theorem dX1_addVertex_19 : decode cX1_addVertex 19 = .ok (.iastore, 1) := by decide +kernel
theorem dX1_addVertex_20 : decode cX1_addVertex 20 = .ok (.aload_n 0, 1) := by decide +kernel
theorem dX1_addVertex_21 : decode cX1_addVertex 21 = .ok (.dup, 1) := by decide +kernel
theorem dX1_addVertex_22 : decode cX1_addVertex 22 = .ok (.getfield 27, 3) := by decide +kernel
theorem dX1_addVertex_25 : decode cX1_addVertex 25 = .ok (.dup_x1, 1) := by decide +kernel
theorem dX1_addVertex_26 : decode cX1_addVertex 26 = .ok (.iconst 1, 1) := by decide +kernel
theorem dX1_addVertex_27 : decode cX1_addVertex 27 = .ok (.iadd, 1) := by decide +kernel
theorem dX1_addVertex_28 : decode cX1_addVertex 28 = .ok (.putfield 27, 3) := by decide +kernel
theorem dX1_addVertex_31 : decode cX1_addVertex 31 = .ok (.ireturn, 1) := by decide +kernel
theorem dX1_addArc_0 : decode cX1_addArc 0 = .ok (.aload_n 0, 1) := by decide +kernel
theorem dX1_addArc_1 : decode cX1_addArc 1 = .ok (.getfield 18, 3) := by decide +kernel
theorem dX1_addArc_4 : decode cX1_addArc 4 = .ok (.aload_n 0, 1) := by decide +kernel
theorem dX1_addArc_5 : decode cX1_addArc 5 = .ok (.getfield 31, 3) := by decide +kernel
theorem dX1_addArc_8 : decode cX1_addArc 8 = .ok (.iload_n 1, 1) := by decide +kernel
theorem dX1_addArc_9 : decode cX1_addArc 9 = .ok (.iastore, 1) := by decide +kernel
theorem dX1_addArc_10 : decode cX1_addArc 10 = .ok (.aload_n 0, 1) := by decide +kernel
theorem dX1_addArc_11 : decode cX1_addArc 11 = .ok (.getfield 21, 3) := by decide +kernel
theorem dX1_addArc_14 : decode cX1_addArc 14 = .ok (.aload_n 0, 1) := by decide +kernel
theorem dX1_addArc_15 : decode cX1_addArc 15 = .ok (.getfield 31, 3) := by decide +kernel
theorem dX1_addArc_18 : decode cX1_addArc 18 = .ok (.iload_n 2, 1) := by decide +kernel
theorem dX1_addArc_19 : decode cX1_addArc 19 = .ok (.iastore, 1) := by decide +kernel
theorem dX1_addArc_20 : decode cX1_addArc 20 = .ok (.aload_n 0, 1) := by decide +kernel
theorem dX1_addArc_21 : decode cX1_addArc 21 = .ok (.getfield 24, 3) := by decide +kernel
theorem dX1_addArc_24 : decode cX1_addArc 24 = .ok (.aload_n 0, 1) := by decide +kernel
theorem dX1_addArc_25 : decode cX1_addArc 25 = .ok (.getfield 31, 3) := by decide +kernel
theorem dX1_addArc_28 : decode cX1_addArc 28 = .ok (.iload_n 3, 1) := by decide +kernel
theorem dX1_addArc_29 : decode cX1_addArc 29 = .ok (.iastore, 1) := by decide +kernel
theorem dX1_addArc_30 : decode cX1_addArc 30 = .ok (.aload_n 0, 1) := by decide +kernel
theorem dX1_addArc_31 : decode cX1_addArc 31 = .ok (.dup, 1) := by decide +kernel
theorem dX1_addArc_32 : decode cX1_addArc 32 = .ok (.getfield 31, 3) := by decide +kernel
theorem dX1_addArc_35 : decode cX1_addArc 35 = .ok (.dup_x1, 1) := by decide +kernel
theorem dX1_addArc_36 : decode cX1_addArc 36 = .ok (.iconst 1, 1) := by decide +kernel
theorem dX1_addArc_37 : decode cX1_addArc 37 = .ok (.iadd, 1) := by decide +kernel
theorem dX1_addArc_38 : decode cX1_addArc 38 = .ok (.putfield 31, 3) := by decide +kernel
theorem dX1_addArc_41 : decode cX1_addArc 41 = .ok (.ireturn, 1) := by decide +kernel
theorem dX1_leads_0 : decode cX1_leads 0 = .ok (.aload_n 0, 1) := by decide +kernel
theorem dX1_leads_1 : decode cX1_leads 1 = .ok (.getfield 9, 3) := by decide +kernel
theorem dX1_leads_4 : decode cX1_leads 4 = .ok (.aload_n 0, 1) := by decide +kernel
theorem dX1_leads_5 : decode cX1_leads 5 = .ok (.getfield 18, 3) := by decide +kernel
theorem dX1_leads_8 : decode cX1_leads 8 = .ok (.iload_n 1, 1) := by decide +kernel
theorem dX1_leads_9 : decode cX1_leads 9 = .ok (.iaload, 1) := by decide +kernel
theorem dX1_leads_10 : decode cX1_leads 10 = .ok (.iaload, 1) := by decide +kernel
theorem dX1_leads_11 : decode cX1_leads 11 = .ok (.iload_n 2, 1) := by decide +kernel
theorem dX1_leads_12 : decode cX1_leads 12 = .ok (.if_icmp .ne 22, 3) := by decide +kernel
theorem dX1_leads_15 : decode cX1_leads 15 = .ok (.aload_n 0, 1) := by decide +kernel
theorem dX1_leads_16 : decode cX1_leads 16 = .ok (.getfield 9, 3) := by decide +kernel
theorem dX1_leads_19 : decode cX1_leads 19 = .ok (.aload_n 0, 1) := by decide +kernel
theorem dX1_leads_20 : decode cX1_leads 20 = .ok (.getfield 21, 3) := by decide +kernel
theorem dX1_leads_23 : decode cX1_leads 23 = .ok (.iload_n 1, 1) := by decide +kernel
theorem dX1_leads_24 : decode cX1_leads 24 = .ok (.iaload, 1) := by decide +kernel
theorem dX1_leads_25 : decode cX1_leads 25 = .ok (.iaload, 1) := by decide +kernel
theorem dX1_leads_26 : decode cX1_leads 26 = .ok (.iload_n 3, 1) := by decide +kernel
theorem dX1_leads_27 : decode cX1_leads 27 = .ok (.if_icmp .ne 7, 3) := by decide +kernel
theorem dX1_leads_30 : decode cX1_leads 30 = .ok (.iconst 1, 1) := by decide +kernel
theorem dX1_leads_31 : decode cX1_leads 31 = .ok (.goto 4, 3) := by decide +kernel
theorem dX1_leads_34 : decode cX1_leads 34 = .ok (.iconst 0, 1) := by decide +kernel
theorem dX1_leads_35 : decode cX1_leads 35 = .ok (.ireturn, 1) := by decide +kernel
theorem dX1_message_0 : decode cX1_message 0 = .ok (.aload_n 2, 1) := by decide +kernel
theorem dX1_message_1 : decode cX1_message 1 = .ok (.getfield 37, 3) := by decide +kernel
theorem dX1_message_4 : decode cX1_message 4 = .ok (.aload_n 0, 1) := by decide +kernel
theorem dX1_message_5 : decode cX1_message 5 = .ok (.getfield 18, 3) := by decide +kernel
theorem dX1_message_8 : decode cX1_message 8 = .ok (.iload_n 1, 1) := by decide +kernel
theorem dX1_message_9 : decode cX1_message 9 = .ok (.iaload, 1) := by decide +kernel
theorem dX1_message_10 : decode cX1_message 10 = .ok (.iaload, 1) := by decide +kernel
theorem dX1_message_11 : decode cX1_message 11 = .ok (.istore_n 3, 1) := by decide +kernel
theorem dX1_message_12 : decode cX1_message 12 = .ok (.aload_n 0, 1) := by decide +kernel
theorem dX1_message_13 : decode cX1_message 13 = .ok (.getfield 24, 3) := by decide +kernel
theorem dX1_message_16 : decode cX1_message 16 = .ok (.iload_n 1, 1) := by decide +kernel
theorem dX1_message_17 : decode cX1_message 17 = .ok (.iaload, 1) := by decide +kernel
theorem dX1_message_18 : decode cX1_message 18 = .ok (.istore 4, 2) := by decide +kernel
theorem dX1_message_20 : decode cX1_message 20 = .ok (.aload_n 0, 1) := by decide +kernel
theorem dX1_message_21 : decode cX1_message 21 = .ok (.getfield 34, 3) := by decide +kernel
theorem dX1_message_24 : decode cX1_message 24 = .ok (.lookupswitch 40 #[(1, 28), (2, 35)], 28) := by decide +kernel
theorem dX1_message_52 : decode cX1_message 52 = .ok (.iload_n 3, 1) := by decide +kernel
theorem dX1_message_53 : decode cX1_message 53 = .ok (.iload 4, 2) := by decide +kernel
theorem dX1_message_55 : decode cX1_message 55 = .ok (.invokestatic 42, 3) := by decide +kernel
theorem dX1_message_58 : decode cX1_message 58 = .ok (.ireturn, 1) := by decide +kernel
theorem dX1_message_59 : decode cX1_message 59 = .ok (.iload_n 3, 1) := by decide +kernel
theorem dX1_message_60 : decode cX1_message 60 = .ok (.iload 4, 2) := by decide +kernel
theorem dX1_message_62 : decode cX1_message 62 = .ok (.imul, 1) := by decide +kernel
theorem dX1_message_63 : decode cX1_message 63 = .ok (.ireturn, 1) := by decide +kernel
theorem dX1_message_64 : decode cX1_message 64 = .ok (.iload_n 3, 1) := by decide +kernel
theorem dX1_message_65 : decode cX1_message 65 = .ok (.iload 4, 2) := by decide +kernel
theorem dX1_message_67 : decode cX1_message 67 = .ok (.iadd, 1) := by decide +kernel
theorem dX1_message_68 : decode cX1_message 68 = .ok (.ireturn, 1) := by decide +kernel
theorem dX1_verticesAt_0 : decode cX1_verticesAt 0 = .ok (.iconst 0, 1) := by decide +kernel
theorem dX1_verticesAt_1 : decode cX1_verticesAt 1 = .ok (.istore_n 2, 1) := by decide +kernel
theorem dX1_verticesAt_2 : decode cX1_verticesAt 2 = .ok (.iconst 0, 1) := by decide +kernel
theorem dX1_verticesAt_3 : decode cX1_verticesAt 3 = .ok (.istore_n 3, 1) := by decide +kernel
theorem dX1_verticesAt_4 : decode cX1_verticesAt 4 = .ok (.iload_n 3, 1) := by decide +kernel
theorem dX1_verticesAt_5 : decode cX1_verticesAt 5 = .ok (.aload_n 0, 1) := by decide +kernel
theorem dX1_verticesAt_6 : decode cX1_verticesAt 6 = .ok (.getfield 27, 3) := by decide +kernel
theorem dX1_verticesAt_9 : decode cX1_verticesAt 9 = .ok (.if_icmp .ge 22, 3) := by decide +kernel
theorem dX1_verticesAt_12 : decode cX1_verticesAt 12 = .ok (.aload_n 0, 1) := by decide +kernel
theorem dX1_verticesAt_13 : decode cX1_verticesAt 13 = .ok (.getfield 9, 3) := by decide +kernel
theorem dX1_verticesAt_16 : decode cX1_verticesAt 16 = .ok (.iload_n 3, 1) := by decide +kernel
theorem dX1_verticesAt_17 : decode cX1_verticesAt 17 = .ok (.iaload, 1) := by decide +kernel
theorem dX1_verticesAt_18 : decode cX1_verticesAt 18 = .ok (.iload_n 1, 1) := by decide +kernel
theorem dX1_verticesAt_19 : decode cX1_verticesAt 19 = .ok (.if_icmp .ne 6, 3) := by decide +kernel
theorem dX1_verticesAt_22 : decode cX1_verticesAt 22 = .ok (.iinc 2 1, 3) := by decide +kernel
theorem dX1_verticesAt_25 : decode cX1_verticesAt 25 = .ok (.iinc 3 1, 3) := by decide +kernel
theorem dX1_verticesAt_28 : decode cX1_verticesAt 28 = .ok (.goto (-24), 3) := by decide +kernel
theorem dX1_verticesAt_31 : decode cX1_verticesAt 31 = .ok (.iload_n 2, 1) := by decide +kernel
theorem dX1_verticesAt_32 : decode cX1_verticesAt 32 = .ok (.ireturn, 1) := by decide +kernel
theorem dX1_activeAt_0 : decode cX1_activeAt 0 = .ok (.iconst 0, 1) := by decide +kernel
theorem dX1_activeAt_1 : decode cX1_activeAt 1 = .ok (.istore_n 3, 1) := by decide +kernel
theorem dX1_activeAt_2 : decode cX1_activeAt 2 = .ok (.iconst 0, 1) := by decide +kernel
theorem dX1_activeAt_3 : decode cX1_activeAt 3 = .ok (.istore 4, 2) := by decide +kernel
theorem dX1_activeAt_5 : decode cX1_activeAt 5 = .ok (.iload 4, 2) := by decide +kernel
theorem dX1_activeAt_7 : decode cX1_activeAt 7 = .ok (.aload_n 0, 1) := by decide +kernel
theorem dX1_activeAt_8 : decode cX1_activeAt 8 = .ok (.getfield 27, 3) := by decide +kernel
theorem dX1_activeAt_11 : decode cX1_activeAt 11 = .ok (.if_icmp .ge 33, 3) := by decide +kernel
theorem dX1_activeAt_14 : decode cX1_activeAt 14 = .ok (.aload_n 0, 1) := by decide +kernel
theorem dX1_activeAt_15 : decode cX1_activeAt 15 = .ok (.getfield 9, 3) := by decide +kernel
theorem dX1_activeAt_18 : decode cX1_activeAt 18 = .ok (.iload 4, 2) := by decide +kernel
theorem dX1_activeAt_20 : decode cX1_activeAt 20 = .ok (.iaload, 1) := by decide +kernel
theorem dX1_activeAt_21 : decode cX1_activeAt 21 = .ok (.iload_n 1, 1) := by decide +kernel
theorem dX1_activeAt_22 : decode cX1_activeAt 22 = .ok (.if_icmp .ne 16, 3) := by decide +kernel
theorem dX1_activeAt_25 : decode cX1_activeAt 25 = .ok (.aload_n 2, 1) := by decide +kernel
theorem dX1_activeAt_26 : decode cX1_activeAt 26 = .ok (.getfield 48, 3) := by decide +kernel
theorem dX1_activeAt_29 : decode cX1_activeAt 29 = .ok (.iload 4, 2) := by decide +kernel
theorem dX1_activeAt_31 : decode cX1_activeAt 31 = .ok (.baload, 1) := by decide +kernel
theorem dX1_activeAt_32 : decode cX1_activeAt 32 = .ok (.ifCond .eq 6, 3) := by decide +kernel
theorem dX1_activeAt_35 : decode cX1_activeAt 35 = .ok (.iinc 3 1, 3) := by decide +kernel
theorem dX1_activeAt_38 : decode cX1_activeAt 38 = .ok (.iinc 4 1, 3) := by decide +kernel
theorem dX1_activeAt_41 : decode cX1_activeAt 41 = .ok (.goto (-36), 3) := by decide +kernel
theorem dX1_activeAt_44 : decode cX1_activeAt 44 = .ok (.iload_n 3, 1) := by decide +kernel
theorem dX1_activeAt_45 : decode cX1_activeAt 45 = .ok (.ireturn, 1) := by decide +kernel
theorem dX2_init_0 : decode cX2_init 0 = .ok (.aload_n 0, 1) := by decide +kernel
theorem dX2_init_1 : decode cX2_init 1 = .ok (.invokespecial 3, 3) := by decide +kernel
theorem dX2_init_4 : decode cX2_init 4 = .ok (.aload_n 0, 1) := by decide +kernel
theorem dX2_init_5 : decode cX2_init 5 = .ok (.bipush 16, 2) := by decide +kernel
theorem dX2_init_7 : decode cX2_init 7 = .ok (.newarray .boolean, 2) := by decide +kernel
theorem dX2_init_9 : decode cX2_init 9 = .ok (.putfield 9, 3) := by decide +kernel
theorem dX2_init_12 : decode cX2_init 12 = .ok (.aload_n 0, 1) := by decide +kernel
theorem dX2_init_13 : decode cX2_init 13 = .ok (.bipush 16, 2) := by decide +kernel
theorem dX2_init_15 : decode cX2_init 15 = .ok (.newarray .int, 2) := by decide +kernel
theorem dX2_init_17 : decode cX2_init 17 = .ok (.putfield 15, 3) := by decide +kernel
theorem dX2_init_20 : decode cX2_init 20 = .ok (.aload_n 0, 1) := by decide +kernel
theorem dX2_init_21 : decode cX2_init 21 = .ok (.bipush 16, 2) := by decide +kernel
theorem dX2_init_23 : decode cX2_init 23 = .ok (.newarray .int, 2) := by decide +kernel
theorem dX2_init_25 : decode cX2_init 25 = .ok (.putfield 19, 3) := by decide +kernel
theorem dX2_init_28 : decode cX2_init 28 = .ok (.return_, 1) := by decide +kernel
theorem dX2_clear_0 : decode cX2_clear 0 = .ok (.iconst 0, 1) := by decide +kernel
theorem dX2_clear_1 : decode cX2_clear 1 = .ok (.istore_n 1, 1) := by decide +kernel
theorem dX2_clear_2 : decode cX2_clear 2 = .ok (.iload_n 1, 1) := by decide +kernel
theorem dX2_clear_3 : decode cX2_clear 3 = .ok (.bipush 16, 2) := by decide +kernel
theorem dX2_clear_5 : decode cX2_clear 5 = .ok (.if_icmp .ge 16, 3) := by decide +kernel
theorem dX2_clear_8 : decode cX2_clear 8 = .ok (.aload_n 0, 1) := by decide +kernel
theorem dX2_clear_9 : decode cX2_clear 9 = .ok (.getfield 9, 3) := by decide +kernel
theorem dX2_clear_12 : decode cX2_clear 12 = .ok (.iload_n 1, 1) := by decide +kernel
theorem dX2_clear_13 : decode cX2_clear 13 = .ok (.iconst 0, 1) := by decide +kernel
theorem dX2_clear_14 : decode cX2_clear 14 = .ok (.bastore, 1) := by decide +kernel
theorem dX2_clear_15 : decode cX2_clear 15 = .ok (.iinc 1 1, 3) := by decide +kernel
theorem dX2_clear_18 : decode cX2_clear 18 = .ok (.goto (-16), 3) := by decide +kernel
theorem dX2_clear_21 : decode cX2_clear 21 = .ok (.return_, 1) := by decide +kernel
theorem dX2_put_0 : decode cX2_put 0 = .ok (.aload_n 0, 1) := by decide +kernel
theorem dX2_put_1 : decode cX2_put 1 = .ok (.getfield 9, 3) := by decide +kernel
theorem dX2_put_4 : decode cX2_put 4 = .ok (.iload_n 2, 1) := by decide +kernel
theorem dX2_put_5 : decode cX2_put 5 = .ok (.baload, 1) := by decide +kernel
theorem dX2_put_6 : decode cX2_put 6 = .ok (.ifCond .eq 19, 3) := by decide +kernel
theorem dX2_put_9 : decode cX2_put 9 = .ok (.iload_n 1, 1) := by decide +kernel
theorem dX2_put_10 : decode cX2_put 10 = .ok (.iconst 3, 1) := by decide +kernel
theorem dX2_put_11 : decode cX2_put 11 = .ok (.if_icmp .ne 39, 3) := by decide +kernel
theorem dX2_put_14 : decode cX2_put 14 = .ok (.iload 4, 2) := by decide +kernel
theorem dX2_put_16 : decode cX2_put 16 = .ok (.aload_n 0, 1) := by decide +kernel
theorem dX2_put_17 : decode cX2_put 17 = .ok (.getfield 19, 3) := by decide +kernel
theorem dX2_put_20 : decode cX2_put 20 = .ok (.iload_n 2, 1) := by decide +kernel
theorem dX2_put_21 : decode cX2_put 21 = .ok (.iaload, 1) := by decide +kernel
theorem dX2_put_22 : decode cX2_put 22 = .ok (.if_icmp .le 28, 3) := by decide +kernel
theorem dX2_put_25 : decode cX2_put 25 = .ok (.aload_n 0, 1) := by decide +kernel
theorem dX2_put_26 : decode cX2_put 26 = .ok (.getfield 9, 3) := by decide +kernel
theorem dX2_put_29 : decode cX2_put 29 = .ok (.iload_n 2, 1) := by decide +kernel
theorem dX2_put_30 : decode cX2_put 30 = .ok (.iconst 1, 1) := by decide +kernel
theorem dX2_put_31 : decode cX2_put 31 = .ok (.bastore, 1) := by decide +kernel
theorem dX2_put_32 : decode cX2_put 32 = .ok (.aload_n 0, 1) := by decide +kernel
theorem dX2_put_33 : decode cX2_put 33 = .ok (.getfield 15, 3) := by decide +kernel
theorem dX2_put_36 : decode cX2_put 36 = .ok (.iload_n 2, 1) := by decide +kernel
theorem dX2_put_37 : decode cX2_put 37 = .ok (.iload_n 3, 1) := by decide +kernel
theorem dX2_put_38 : decode cX2_put 38 = .ok (.iastore, 1) := by decide +kernel
theorem dX2_put_39 : decode cX2_put 39 = .ok (.aload_n 0, 1) := by decide +kernel
theorem dX2_put_40 : decode cX2_put 40 = .ok (.getfield 19, 3) := by decide +kernel
theorem dX2_put_43 : decode cX2_put 43 = .ok (.iload_n 2, 1) := by decide +kernel
theorem dX2_put_44 : decode cX2_put 44 = .ok (.iload 4, 2) := by decide +kernel
theorem dX2_put_46 : decode cX2_put 46 = .ok (.iastore, 1) := by decide +kernel
theorem dX2_put_47 : decode cX2_put 47 = .ok (.goto 25, 3) := by decide +kernel
theorem dX2_put_50 : decode cX2_put 50 = .ok (.iload_n 1, 1) := by decide +kernel
theorem dX2_put_51 : decode cX2_put 51 = .ok (.iconst 3, 1) := by decide +kernel
theorem dX2_put_52 : decode cX2_put 52 = .ok (.if_icmp .eq 20, 3) := by decide +kernel
theorem dX2_put_55 : decode cX2_put 55 = .ok (.aload_n 0, 1) := by decide +kernel
theorem dX2_put_56 : decode cX2_put 56 = .ok (.getfield 15, 3) := by decide +kernel
theorem dX2_put_59 : decode cX2_put 59 = .ok (.iload_n 2, 1) := by decide +kernel
theorem dX2_put_60 : decode cX2_put 60 = .ok (.iload_n 1, 1) := by decide +kernel
theorem dX2_put_61 : decode cX2_put 61 = .ok (.aload_n 0, 1) := by decide +kernel
theorem dX2_put_62 : decode cX2_put 62 = .ok (.getfield 15, 3) := by decide +kernel
theorem dX2_put_65 : decode cX2_put 65 = .ok (.iload_n 2, 1) := by decide +kernel
theorem dX2_put_66 : decode cX2_put 66 = .ok (.iaload, 1) := by decide +kernel
theorem dX2_put_67 : decode cX2_put 67 = .ok (.iload_n 3, 1) := by decide +kernel
theorem dX2_put_68 : decode cX2_put 68 = .ok (.invokestatic 22, 3) := by decide +kernel
theorem dX2_put_71 : decode cX2_put 71 = .ok (.iastore, 1) := by decide +kernel
theorem dX2_put_72 : decode cX2_put 72 = .ok (.return_, 1) := by decide +kernel
theorem dX2_putAll_0 : decode cX2_putAll 0 = .ok (.iconst 0, 1) := by decide +kernel
theorem dX2_putAll_1 : decode cX2_putAll 1 = .ok (.istore_n 3, 1) := by decide +kernel
theorem dX2_putAll_2 : decode cX2_putAll 2 = .ok (.iload_n 3, 1) := by decide +kernel
theorem dX2_putAll_3 : decode cX2_putAll 3 = .ok (.aload_n 2, 1) := by decide +kernel
theorem dX2_putAll_4 : decode cX2_putAll 4 = .ok (.getfield 26, 3) := by decide +kernel
theorem dX2_putAll_7 : decode cX2_putAll 7 = .ok (.arraylength, 1) := by decide +kernel
theorem dX2_putAll_8 : decode cX2_putAll 8 = .ok (.if_icmp .ge 32, 3) := by decide +kernel
theorem dX2_putAll_11 : decode cX2_putAll 11 = .ok (.aload_n 0, 1) := by decide +kernel
theorem dX2_putAll_12 : decode cX2_putAll 12 = .ok (.iload_n 1, 1) := by decide +kernel
theorem dX2_putAll_13 : decode cX2_putAll 13 = .ok (.aload_n 2, 1) := by decide +kernel
theorem dX2_putAll_14 : decode cX2_putAll 14 = .ok (.getfield 26, 3) := by decide +kernel
theorem dX2_putAll_17 : decode cX2_putAll 17 = .ok (.iload_n 3, 1) := by decide +kernel
theorem dX2_putAll_18 : decode cX2_putAll 18 = .ok (.iaload, 1) := by decide +kernel
theorem dX2_putAll_19 : decode cX2_putAll 19 = .ok (.aload_n 2, 1) := by decide +kernel
theorem dX2_putAll_20 : decode cX2_putAll 20 = .ok (.getfield 31, 3) := by decide +kernel
theorem dX2_putAll_23 : decode cX2_putAll 23 = .ok (.iload_n 3, 1) := by decide +kernel
theorem dX2_putAll_24 : decode cX2_putAll 24 = .ok (.iaload, 1) := by decide +kernel
theorem dX2_putAll_25 : decode cX2_putAll 25 = .ok (.aload_n 2, 1) := by decide +kernel
theorem dX2_putAll_26 : decode cX2_putAll 26 = .ok (.getfield 34, 3) := by decide +kernel
theorem dX2_putAll_29 : decode cX2_putAll 29 = .ok (.iload_n 3, 1) := by decide +kernel
theorem dX2_putAll_30 : decode cX2_putAll 30 = .ok (.iaload, 1) := by decide +kernel
theorem dX2_putAll_31 : decode cX2_putAll 31 = .ok (.invokevirtual 37, 3) := by decide +kernel
theorem dX2_putAll_34 : decode cX2_putAll 34 = .ok (.iinc 3 1, 3) := by decide +kernel
theorem dX2_putAll_37 : decode cX2_putAll 37 = .ok (.goto (-35), 3) := by decide +kernel
theorem dX2_putAll_40 : decode cX2_putAll 40 = .ok (.return_, 1) := by decide +kernel
theorem dX2_settle_0 : decode cX2_settle 0 = .ok (.aload_n 3, 1) := by decide +kernel
theorem dX2_settle_1 : decode cX2_settle 1 = .ok (.getfield 41, 3) := by decide +kernel
theorem dX2_settle_4 : decode cX2_settle 4 = .ok (.iload_n 2, 1) := by decide +kernel
theorem dX2_settle_5 : decode cX2_settle 5 = .ok (.iaload, 1) := by decide +kernel
theorem dX2_settle_6 : decode cX2_settle 6 = .ok (.istore 4, 2) := by decide +kernel
theorem dX2_settle_8 : decode cX2_settle 8 = .ok (.aload_n 0, 1) := by decide +kernel
theorem dX2_settle_9 : decode cX2_settle 9 = .ok (.iload_n 1, 1) := by decide +kernel
theorem dX2_settle_10 : decode cX2_settle 10 = .ok (.iload_n 2, 1) := by decide +kernel
theorem dX2_settle_11 : decode cX2_settle 11 = .ok (.iload 4, 2) := by decide +kernel
theorem dX2_settle_13 : decode cX2_settle 13 = .ok (.invokevirtual 46, 3) := by decide +kernel
theorem dX2_settle_16 : decode cX2_settle 16 = .ok (.istore 5, 2) := by decide +kernel
theorem dX2_settle_18 : decode cX2_settle 18 = .ok (.aload_n 3, 1) := by decide +kernel
theorem dX2_settle_19 : decode cX2_settle 19 = .ok (.getfield 41, 3) := by decide +kernel
theorem dX2_settle_22 : decode cX2_settle 22 = .ok (.iload_n 2, 1) := by decide +kernel
theorem dX2_settle_23 : decode cX2_settle 23 = .ok (.iload 5, 2) := by decide +kernel
theorem dX2_settle_25 : decode cX2_settle 25 = .ok (.iastore, 1) := by decide +kernel
theorem dX2_settle_26 : decode cX2_settle 26 = .ok (.iload_n 1, 1) := by decide +kernel
theorem dX2_settle_27 : decode cX2_settle 27 = .ok (.iconst 2, 1) := by decide +kernel
theorem dX2_settle_28 : decode cX2_settle 28 = .ok (.if_icmp .ne 33, 3) := by decide +kernel
theorem dX2_settle_31 : decode cX2_settle 31 = .ok (.aload_n 3, 1) := by decide +kernel
theorem dX2_settle_32 : decode cX2_settle 32 = .ok (.getfield 49, 3) := by decide +kernel
theorem dX2_settle_35 : decode cX2_settle 35 = .ok (.iload_n 2, 1) := by decide +kernel
theorem dX2_settle_36 : decode cX2_settle 36 = .ok (.dup2, 1) := by decide +kernel
theorem dX2_settle_37 : decode cX2_settle 37 = .ok (.iaload, 1) := by decide +kernel
theorem dX2_settle_38 : decode cX2_settle 38 = .ok (.iload 5, 2) := by decide +kernel
theorem dX2_settle_40 : decode cX2_settle 40 = .ok (.iadd, 1) := by decide +kernel
theorem dX2_settle_41 : decode cX2_settle 41 = .ok (.iastore, 1) := by decide +kernel
theorem dX2_settle_42 : decode cX2_settle 42 = .ok (.aload_n 3, 1) := by decide +kernel
theorem dX2_settle_43 : decode cX2_settle 43 = .ok (.getfield 52, 3) := by decide +kernel
theorem dX2_settle_46 : decode cX2_settle 46 = .ok (.iload_n 2, 1) := by decide +kernel
theorem dX2_settle_47 : decode cX2_settle 47 = .ok (.iload 5, 2) := by decide +kernel
theorem dX2_settle_49 : decode cX2_settle 49 = .ok (.ifCond .eq 7, 3) := by decide +kernel
theorem dX2_settle_52 : decode cX2_settle 52 = .ok (.iconst 1, 1) := by decide +kernel
theorem dX2_settle_53 : decode cX2_settle 53 = .ok (.goto 4, 3) := by decide +kernel
theorem dX2_settle_56 : decode cX2_settle 56 = .ok (.iconst 0, 1) := by decide +kernel
theorem dX2_settle_57 : decode cX2_settle 57 = .ok (.bastore, 1) := by decide +kernel
theorem dX2_settle_58 : decode cX2_settle 58 = .ok (.goto 21, 3) := by decide +kernel
theorem dX2_settle_61 : decode cX2_settle 61 = .ok (.aload_n 3, 1) := by decide +kernel
theorem dX2_settle_62 : decode cX2_settle 62 = .ok (.getfield 52, 3) := by decide +kernel
theorem dX2_settle_65 : decode cX2_settle 65 = .ok (.iload_n 2, 1) := by decide +kernel
theorem dX2_settle_66 : decode cX2_settle 66 = .ok (.iload 5, 2) := by decide +kernel
theorem dX2_settle_68 : decode cX2_settle 68 = .ok (.iload 4, 2) := by decide +kernel
theorem dX2_settle_70 : decode cX2_settle 70 = .ok (.if_icmp .eq 7, 3) := by decide +kernel
theorem dX2_settle_73 : decode cX2_settle 73 = .ok (.iconst 1, 1) := by decide +kernel
theorem dX2_settle_74 : decode cX2_settle 74 = .ok (.goto 4, 3) := by decide +kernel
theorem dX2_settle_77 : decode cX2_settle 77 = .ok (.iconst 0, 1) := by decide +kernel
theorem dX2_settle_78 : decode cX2_settle 78 = .ok (.bastore, 1) := by decide +kernel
theorem dX2_settle_79 : decode cX2_settle 79 = .ok (.return_, 1) := by decide +kernel
theorem dX2_valueAfter_0 : decode cX2_valueAfter 0 = .ok (.aload_n 0, 1) := by decide +kernel
theorem dX2_valueAfter_1 : decode cX2_valueAfter 1 = .ok (.getfield 9, 3) := by decide +kernel
theorem dX2_valueAfter_4 : decode cX2_valueAfter 4 = .ok (.iload_n 2, 1) := by decide +kernel
theorem dX2_valueAfter_5 : decode cX2_valueAfter 5 = .ok (.baload, 1) := by decide +kernel
theorem dX2_valueAfter_6 : decode cX2_valueAfter 6 = .ok (.ifCond .ne 14, 3) := by decide +kernel
theorem dX2_valueAfter_9 : decode cX2_valueAfter 9 = .ok (.iload_n 1, 1) := by decide +kernel
theorem dX2_valueAfter_10 : decode cX2_valueAfter 10 = .ok (.iconst 2, 1) := by decide +kernel
theorem dX2_valueAfter_11 : decode cX2_valueAfter 11 = .ok (.if_icmp .ne 7, 3) := by decide +kernel
theorem dX2_valueAfter_14 : decode cX2_valueAfter 14 = .ok (.iconst 0, 1) := by decide +kernel
theorem dX2_valueAfter_15 : decode cX2_valueAfter 15 = .ok (.goto 4, 3) := by decide +kernel
theorem dX2_valueAfter_18 : decode cX2_valueAfter 18 = .ok (.iload_n 3, 1) := by decide +kernel
theorem dX2_valueAfter_19 : decode cX2_valueAfter 19 = .ok (.ireturn, 1) := by decide +kernel
theorem dX2_valueAfter_20 : decode cX2_valueAfter 20 = .ok (.iload_n 1, 1) := by decide +kernel
theorem dX2_valueAfter_21 : decode cX2_valueAfter 21 = .ok (.ifCond .eq 8, 3) := by decide +kernel
theorem dX2_valueAfter_24 : decode cX2_valueAfter 24 = .ok (.iload_n 1, 1) := by decide +kernel
theorem dX2_valueAfter_25 : decode cX2_valueAfter 25 = .ok (.iconst 1, 1) := by decide +kernel
theorem dX2_valueAfter_26 : decode cX2_valueAfter 26 = .ok (.if_icmp .ne 7, 3) := by decide +kernel
theorem dX2_valueAfter_29 : decode cX2_valueAfter 29 = .ok (.iconst 1, 1) := by decide +kernel
theorem dX2_valueAfter_30 : decode cX2_valueAfter 30 = .ok (.goto 4, 3) := by decide +kernel
theorem dX2_valueAfter_33 : decode cX2_valueAfter 33 = .ok (.iconst 0, 1) := by decide +kernel
theorem dX2_valueAfter_34 : decode cX2_valueAfter 34 = .ok (.istore 4, 2) := by decide +kernel
theorem dX2_valueAfter_36 : decode cX2_valueAfter 36 = .ok (.iload 4, 2) := by decide +kernel
theorem dX2_valueAfter_38 : decode cX2_valueAfter 38 = .ok (.ifCond .eq 17, 3) := by decide +kernel
theorem dX2_valueAfter_41 : decode cX2_valueAfter 41 = .ok (.iload_n 1, 1) := by decide +kernel
theorem dX2_valueAfter_42 : decode cX2_valueAfter 42 = .ok (.iload_n 3, 1) := by decide +kernel
theorem dX2_valueAfter_43 : decode cX2_valueAfter 43 = .ok (.aload_n 0, 1) := by decide +kernel
theorem dX2_valueAfter_44 : decode cX2_valueAfter 44 = .ok (.getfield 15, 3) := by decide +kernel
theorem dX2_valueAfter_47 : decode cX2_valueAfter 47 = .ok (.iload_n 2, 1) := by decide +kernel
theorem dX2_valueAfter_48 : decode cX2_valueAfter 48 = .ok (.iaload, 1) := by decide +kernel
theorem dX2_valueAfter_49 : decode cX2_valueAfter 49 = .ok (.invokestatic 22, 3) := by decide +kernel
theorem dX2_valueAfter_52 : decode cX2_valueAfter 52 = .ok (.goto 9, 3) := by decide +kernel
theorem dX2_valueAfter_55 : decode cX2_valueAfter 55 = .ok (.aload_n 0, 1) := by decide +kernel
theorem dX2_valueAfter_56 : decode cX2_valueAfter 56 = .ok (.getfield 15, 3) := by decide +kernel
theorem dX2_valueAfter_59 : decode cX2_valueAfter 59 = .ok (.iload_n 2, 1) := by decide +kernel
theorem dX2_valueAfter_60 : decode cX2_valueAfter 60 = .ok (.iaload, 1) := by decide +kernel
theorem dX2_valueAfter_61 : decode cX2_valueAfter 61 = .ok (.ireturn, 1) := by decide +kernel
theorem dX3_init_0 : decode cX3_init 0 = .ok (.aload_n 0, 1) := by decide +kernel
theorem dX3_init_1 : decode cX3_init 1 = .ok (.invokespecial 1, 3) := by decide +kernel
theorem dX3_init_4 : decode cX3_init 4 = .ok (.aload_n 0, 1) := by decide +kernel
theorem dX3_init_5 : decode cX3_init 5 = .ok (.iload_n 1, 1) := by decide +kernel
theorem dX3_init_6 : decode cX3_init 6 = .ok (.putfield 7, 3) := by decide +kernel
theorem dX3_init_9 : decode cX3_init 9 = .ok (.aload_n 0, 1) := by decide +kernel
theorem dX3_init_10 : decode cX3_init 10 = .ok (.iload_n 2, 1) := by decide +kernel
theorem dX3_init_11 : decode cX3_init 11 = .ok (.putfield 13, 3) := by decide +kernel
theorem dX3_init_14 : decode cX3_init 14 = .ok (.aload_n 0, 1) := by decide +kernel
theorem dX3_init_15 : decode cX3_init 15 = .ok (.iload_n 3, 1) := by decide +kernel
theorem dX3_init_16 : decode cX3_init 16 = .ok (.putfield 16, 3) := by decide +kernel
theorem dX3_init_19 : decode cX3_init 19 = .ok (.aload_n 0, 1) := by decide +kernel
theorem dX3_init_20 : decode cX3_init 20 = .ok (.iload 4, 2) := by decide +kernel
theorem dX3_init_22 : decode cX3_init 22 = .ok (.putfield 19, 3) := by decide +kernel
theorem dX3_init_25 : decode cX3_init 25 = .ok (.aload_n 0, 1) := by decide +kernel
theorem dX3_init_26 : decode cX3_init 26 = .ok (.iload 5, 2) := by decide +kernel
theorem dX3_init_28 : decode cX3_init 28 = .ok (.putfield 22, 3) := by decide +kernel
theorem dX3_init_31 : decode cX3_init 31 = .ok (.aload_n 0, 1) := by decide +kernel
theorem dX3_init_32 : decode cX3_init 32 = .ok (.aload 6, 2) := by decide +kernel
theorem dX3_init_34 : decode cX3_init 34 = .ok (.getfield 25, 3) := by decide +kernel
theorem dX3_init_37 : decode cX3_init 37 = .ok (.aload 6, 2) := by decide +kernel
theorem dX3_init_39 : decode cX3_init 39 = .ok (.getfield 31, 3) := by decide +kernel
theorem dX3_init_42 : decode cX3_init 42 = .ok (.invokestatic 34, 3) := by decide +kernel
theorem dX3_init_45 : decode cX3_init 45 = .ok (.putfield 40, 3) := by decide +kernel
theorem dX3_init_48 : decode cX3_init 48 = .ok (.aload_n 0, 1) := by decide +kernel
theorem dX3_init_49 : decode cX3_init 49 = .ok (.aload 6, 2) := by decide +kernel
theorem dX3_init_51 : decode cX3_init 51 = .ok (.getfield 41, 3) := by decide +kernel
theorem dX3_init_54 : decode cX3_init 54 = .ok (.aload 6, 2) := by decide +kernel
theorem dX3_init_56 : decode cX3_init 56 = .ok (.getfield 31, 3) := by decide +kernel
theorem dX3_init_59 : decode cX3_init 59 = .ok (.invokestatic 34, 3) := by decide +kernel
theorem dX3_init_62 : decode cX3_init 62 = .ok (.putfield 44, 3) := by decide +kernel
theorem dX3_init_65 : decode cX3_init 65 = .ok (.aload_n 0, 1) := by decide +kernel
theorem dX3_init_66 : decode cX3_init 66 = .ok (.aload 6, 2) := by decide +kernel
theorem dX3_init_68 : decode cX3_init 68 = .ok (.getfield 45, 3) := by decide +kernel
theorem dX3_init_71 : decode cX3_init 71 = .ok (.aload 6, 2) := by decide +kernel
theorem dX3_init_73 : decode cX3_init 73 = .ok (.getfield 31, 3) := by decide +kernel
theorem dX3_init_76 : decode cX3_init 76 = .ok (.invokestatic 34, 3) := by decide +kernel
theorem dX3_init_79 : decode cX3_init 79 = .ok (.putfield 48, 3) := by decide +kernel
theorem dX3_init_82 : decode cX3_init 82 = .ok (.return_, 1) := by decide +kernel
theorem dX4_init_0 : decode cX4_init 0 = .ok (.aload_n 0, 1) := by decide +kernel
theorem dX4_init_1 : decode cX4_init 1 = .ok (.invokespecial 3, 3) := by decide +kernel
theorem dX4_init_4 : decode cX4_init 4 = .ok (.aload_n 0, 1) := by decide +kernel
theorem dX4_init_5 : decode cX4_init 5 = .ok (.new 9, 3) := by decide +kernel
theorem dX4_init_8 : decode cX4_init 8 = .ok (.dup, 1) := by decide +kernel
theorem dX4_init_9 : decode cX4_init 9 = .ok (.invokespecial 11, 3) := by decide +kernel
theorem dX4_init_12 : decode cX4_init 12 = .ok (.putfield 12, 3) := by decide +kernel
theorem dX4_init_15 : decode cX4_init 15 = .ok (.aload_n 0, 1) := by decide +kernel
theorem dX4_init_16 : decode cX4_init 16 = .ok (.iconst (-1), 1) := by decide +kernel
theorem dX4_init_17 : decode cX4_init 17 = .ok (.putfield 18, 3) := by decide +kernel
theorem dX4_init_20 : decode cX4_init 20 = .ok (.return_, 1) := by decide +kernel
theorem dX5_init_0 : decode cX5_init 0 = .ok (.aload_n 0, 1) := by decide +kernel
theorem dX5_init_1 : decode cX5_init 1 = .ok (.invokespecial 3, 3) := by decide +kernel
theorem dX5_init_4 : decode cX5_init 4 = .ok (.aload_n 0, 1) := by decide +kernel
theorem dX5_init_5 : decode cX5_init 5 = .ok (.bipush 60, 2) := by decide +kernel
theorem dX5_init_7 : decode cX5_init 7 = .ok (.anewarray 9, 3) := by decide +kernel
theorem dX5_init_10 : decode cX5_init 10 = .ok (.putfield 11, 3) := by decide +kernel
theorem dX5_init_13 : decode cX5_init 13 = .ok (.return_, 1) := by decide +kernel
theorem dX5_clear_0 : decode cX5_clear 0 = .ok (.iconst 0, 1) := by decide +kernel
theorem dX5_clear_1 : decode cX5_clear 1 = .ok (.istore_n 1, 1) := by decide +kernel
theorem dX5_clear_2 : decode cX5_clear 2 = .ok (.iload_n 1, 1) := by decide +kernel
theorem dX5_clear_3 : decode cX5_clear 3 = .ok (.bipush 60, 2) := by decide +kernel
theorem dX5_clear_5 : decode cX5_clear 5 = .ok (.if_icmp .ge 16, 3) := by decide +kernel
theorem dX5_clear_8 : decode cX5_clear 8 = .ok (.aload_n 0, 1) := by decide +kernel
theorem dX5_clear_9 : decode cX5_clear 9 = .ok (.getfield 11, 3) := by decide +kernel
theorem dX5_clear_12 : decode cX5_clear 12 = .ok (.iload_n 1, 1) := by decide +kernel
theorem dX5_clear_13 : decode cX5_clear 13 = .ok (.aconst_null, 1) := by decide +kernel
theorem dX5_clear_14 : decode cX5_clear 14 = .ok (.aastore, 1) := by decide +kernel
theorem dX5_clear_15 : decode cX5_clear 15 = .ok (.iinc 1 1, 3) := by decide +kernel
theorem dX5_clear_18 : decode cX5_clear 18 = .ok (.goto (-16), 3) := by decide +kernel
theorem dX5_clear_21 : decode cX5_clear 21 = .ok (.aload_n 0, 1) := by decide +kernel
theorem dX5_clear_22 : decode cX5_clear 22 = .ok (.iconst 0, 1) := by decide +kernel
theorem dX5_clear_23 : decode cX5_clear 23 = .ok (.putfield 17, 3) := by decide +kernel
theorem dX5_clear_26 : decode cX5_clear 26 = .ok (.return_, 1) := by decide +kernel
theorem dX5_at_0 : decode cX5_at 0 = .ok (.iload_n 1, 1) := by decide +kernel
theorem dX5_at_1 : decode cX5_at 1 = .ok (.ifCond .lt 20, 3) := by decide +kernel
theorem dX5_at_4 : decode cX5_at 4 = .ok (.iload_n 1, 1) := by decide +kernel
theorem dX5_at_5 : decode cX5_at 5 = .ok (.aload_n 0, 1) := by decide +kernel
theorem dX5_at_6 : decode cX5_at 6 = .ok (.getfield 17, 3) := by decide +kernel
theorem dX5_at_9 : decode cX5_at 9 = .ok (.if_icmp .ge 12, 3) := by decide +kernel
theorem dX5_at_12 : decode cX5_at 12 = .ok (.aload_n 0, 1) := by decide +kernel
theorem dX5_at_13 : decode cX5_at 13 = .ok (.getfield 11, 3) := by decide +kernel
theorem dX5_at_16 : decode cX5_at 16 = .ok (.iload_n 1, 1) := by decide +kernel
theorem dX5_at_17 : decode cX5_at 17 = .ok (.aaload, 1) := by decide +kernel
theorem dX5_at_18 : decode cX5_at 18 = .ok (.goto 4, 3) := by decide +kernel
theorem dX5_at_21 : decode cX5_at 21 = .ok (.aconst_null, 1) := by decide +kernel
theorem dX5_at_22 : decode cX5_at 22 = .ok (.areturn, 1) := by decide +kernel
theorem dX5_add_0 : decode cX5_add 0 = .ok (.aload_n 0, 1) := by decide +kernel
theorem dX5_add_1 : decode cX5_add 1 = .ok (.getfield 17, 3) := by decide +kernel
theorem dX5_add_4 : decode cX5_add 4 = .ok (.bipush 60, 2) := by decide +kernel
theorem dX5_add_6 : decode cX5_add 6 = .ok (.if_icmp .lt 5, 3) := by decide +kernel
theorem dX5_add_9 : decode cX5_add 9 = .ok (.iconst 0, 1) := by decide +kernel
theorem dX5_add_10 : decode cX5_add 10 = .ok (.ireturn, 1) := by decide +kernel
theorem dX5_add_11 : decode cX5_add 11 = .ok (.aload_n 0, 1) := by decide +kernel
theorem dX5_add_12 : decode cX5_add 12 = .ok (.getfield 11, 3) := by decide +kernel
theorem dX5_add_15 : decode cX5_add 15 = .ok (.aload_n 0, 1) := by decide +kernel
theorem dX5_add_16 : decode cX5_add 16 = .ok (.getfield 17, 3) := by decide +kernel
theorem dX5_add_19 : decode cX5_add 19 = .ok (.aload_n 1, 1) := by decide +kernel
theorem dX5_add_20 : decode cX5_add 20 = .ok (.aastore, 1) := by decide +kernel
theorem dX5_add_21 : decode cX5_add 21 = .ok (.aload_n 0, 1) := by decide +kernel
theorem dX5_add_22 : decode cX5_add 22 = .ok (.dup, 1) := by decide +kernel
theorem dX5_add_23 : decode cX5_add 23 = .ok (.getfield 17, 3) := by decide +kernel
theorem dX5_add_26 : decode cX5_add 26 = .ok (.iconst 1, 1) := by decide +kernel
theorem dX5_add_27 : decode cX5_add 27 = .ok (.iadd, 1) := by decide +kernel
theorem dX5_add_28 : decode cX5_add 28 = .ok (.putfield 17, 3) := by decide +kernel
theorem dX5_add_31 : decode cX5_add 31 = .ok (.iconst 1, 1) := by decide +kernel
theorem dX5_add_32 : decode cX5_add 32 = .ok (.ireturn, 1) := by decide +kernel
theorem dX5_remove_0 : decode cX5_remove 0 = .ok (.iload_n 1, 1) := by decide +kernel
theorem dX5_remove_1 : decode cX5_remove 1 = .ok (.iconst 1, 1) := by decide +kernel
theorem dX5_remove_2 : decode cX5_remove 2 = .ok (.iadd, 1) := by decide +kernel
theorem dX5_remove_3 : decode cX5_remove 3 = .ok (.istore_n 2, 1) := by decide +kernel
theorem dX5_remove_4 : decode cX5_remove 4 = .ok (.iload_n 2, 1) := by decide +kernel
theorem dX5_remove_5 : decode cX5_remove 5 = .ok (.aload_n 0, 1) := by decide +kernel
theorem dX5_remove_6 : decode cX5_remove 6 = .ok (.getfield 17, 3) := by decide +kernel
theorem dX5_remove_9 : decode cX5_remove 9 = .ok (.if_icmp .ge 23, 3) := by decide +kernel
theorem dX5_remove_12 : decode cX5_remove 12 = .ok (.aload_n 0, 1) := by decide +kernel
theorem dX5_remove_13 : decode cX5_remove 13 = .ok (.getfield 11, 3) := by decide +kernel
theorem dX5_remove_16 : decode cX5_remove 16 = .ok (.iload_n 2, 1) := by decide +kernel
theorem dX5_remove_17 : decode cX5_remove 17 = .ok (.iconst 1, 1) := by decide +kernel
theorem dX5_remove_18 : decode cX5_remove 18 = .ok (.isub, 1) := by decide +kernel
theorem dX5_remove_19 : decode cX5_remove 19 = .ok (.aload_n 0, 1) := by decide +kernel
theorem dX5_remove_20 : decode cX5_remove 20 = .ok (.getfield 11, 3) := by decide +kernel
theorem dX5_remove_23 : decode cX5_remove 23 = .ok (.iload_n 2, 1) := by decide +kernel
theorem dX5_remove_24 : decode cX5_remove 24 = .ok (.aaload, 1) := by decide +kernel
theorem dX5_remove_25 : decode cX5_remove 25 = .ok (.aastore, 1) := by decide +kernel
theorem dX5_remove_26 : decode cX5_remove 26 = .ok (.iinc 2 1, 3) := by decide +kernel
theorem dX5_remove_29 : decode cX5_remove 29 = .ok (.goto (-25), 3) := by decide +kernel
theorem dX5_remove_32 : decode cX5_remove 32 = .ok (.aload_n 0, 1) := by decide +kernel
theorem dX5_remove_33 : decode cX5_remove 33 = .ok (.dup, 1) := by decide +kernel
theorem dX5_remove_34 : decode cX5_remove 34 = .ok (.getfield 17, 3) := by decide +kernel
theorem dX5_remove_37 : decode cX5_remove 37 = .ok (.iconst 1, 1) := by decide +kernel
theorem dX5_remove_38 : decode cX5_remove 38 = .ok (.isub, 1) := by decide +kernel
theorem dX5_remove_39 : decode cX5_remove 39 = .ok (.putfield 17, 3) := by decide +kernel
theorem dX5_remove_42 : decode cX5_remove 42 = .ok (.aload_n 0, 1) := by decide +kernel
theorem dX5_remove_43 : decode cX5_remove 43 = .ok (.getfield 11, 3) := by decide +kernel
theorem dX5_remove_46 : decode cX5_remove 46 = .ok (.aload_n 0, 1) := by decide +kernel
theorem dX5_remove_47 : decode cX5_remove 47 = .ok (.getfield 17, 3) := by decide +kernel
theorem dX5_remove_50 : decode cX5_remove 50 = .ok (.aconst_null, 1) := by decide +kernel
theorem dX5_remove_51 : decode cX5_remove 51 = .ok (.aastore, 1) := by decide +kernel
theorem dX5_remove_52 : decode cX5_remove 52 = .ok (.return_, 1) := by decide +kernel
theorem dX6_init_0 : decode cX6_init 0 = .ok (.aload_n 0, 1) := by decide +kernel
theorem dX6_init_1 : decode cX6_init 1 = .ok (.invokespecial 3, 3) := by decide +kernel
theorem dX6_init_4 : decode cX6_init 4 = .ok (.aload_n 0, 1) := by decide +kernel
theorem dX6_init_5 : decode cX6_init 5 = .ok (.bipush 10, 2) := by decide +kernel
theorem dX6_init_7 : decode cX6_init 7 = .ok (.anewarray 9, 3) := by decide +kernel
theorem dX6_init_10 : decode cX6_init 10 = .ok (.putfield 11, 3) := by decide +kernel
theorem dX6_init_13 : decode cX6_init 13 = .ok (.aload_n 0, 1) := by decide +kernel
theorem dX6_init_14 : decode cX6_init 14 = .ok (.bipush 10, 2) := by decide +kernel
theorem dX6_init_16 : decode cX6_init 16 = .ok (.anewarray 9, 3) := by decide +kernel
theorem dX6_init_19 : decode cX6_init 19 = .ok (.putfield 17, 3) := by decide +kernel
theorem dX6_init_22 : decode cX6_init 22 = .ok (.aload_n 0, 1) := by decide +kernel
theorem dX6_init_23 : decode cX6_init 23 = .ok (.new 20, 3) := by decide +kernel
theorem dX6_init_26 : decode cX6_init 26 = .ok (.dup, 1) := by decide +kernel
theorem dX6_init_27 : decode cX6_init 27 = .ok (.invokespecial 22, 3) := by decide +kernel
theorem dX6_init_30 : decode cX6_init 30 = .ok (.putfield 23, 3) := by decide +kernel
theorem dX6_init_33 : decode cX6_init 33 = .ok (.aload_n 0, 1) := by decide +kernel
theorem dX6_init_34 : decode cX6_init 34 = .ok (.new 20, 3) := by decide +kernel
theorem dX6_init_37 : decode cX6_init 37 = .ok (.dup, 1) := by decide +kernel
theorem dX6_init_38 : decode cX6_init 38 = .ok (.invokespecial 22, 3) := by decide +kernel
theorem dX6_init_41 : decode cX6_init 41 = .ok (.putfield 27, 3) := by decide +kernel
theorem dX6_init_44 : decode cX6_init 44 = .ok (.return_, 1) := by decide +kernel
theorem dX6_slot_0 : decode cX6_slot 0 = .ok (.iload_n 0, 1) := by decide +kernel
theorem dX6_slot_1 : decode cX6_slot 1 = .ok (.iconst 1, 1) := by decide +kernel
theorem dX6_slot_2 : decode cX6_slot 2 = .ok (.iand, 1) := by decide +kernel
theorem dX6_slot_3 : decode cX6_slot 3 = .ok (.iconst 5, 1) := by decide +kernel
theorem dX6_slot_4 : decode cX6_slot 4 = .ok (.imul, 1) := by decide +kernel
theorem dX6_slot_5 : decode cX6_slot 5 = .ok (.iload_n 1, 1) := by decide +kernel
theorem dX6_slot_6 : decode cX6_slot 6 = .ok (.iadd, 1) := by decide +kernel
theorem dX6_slot_7 : decode cX6_slot 7 = .ok (.ireturn, 1) := by decide +kernel
theorem dX6_clear_0 : decode cX6_clear 0 = .ok (.aload_n 0, 1) := by decide +kernel
theorem dX6_clear_1 : decode cX6_clear 1 = .ok (.invokevirtual 30, 3) := by decide +kernel
theorem dX6_clear_4 : decode cX6_clear 4 = .ok (.aload_n 0, 1) := by decide +kernel
theorem dX6_clear_5 : decode cX6_clear 5 = .ok (.invokevirtual 33, 3) := by decide +kernel
theorem dX6_clear_8 : decode cX6_clear 8 = .ok (.aload_n 0, 1) := by decide +kernel
theorem dX6_clear_9 : decode cX6_clear 9 = .ok (.iconst 0, 1) := by decide +kernel
theorem dX6_clear_10 : decode cX6_clear 10 = .ok (.putfield 36, 3) := by decide +kernel
theorem dX6_clear_13 : decode cX6_clear 13 = .ok (.aload_n 0, 1) := by decide +kernel
theorem dX6_clear_14 : decode cX6_clear 14 = .ok (.iconst 0, 1) := by decide +kernel
theorem dX6_clear_15 : decode cX6_clear 15 = .ok (.putfield 40, 3) := by decide +kernel
theorem dX6_clear_18 : decode cX6_clear 18 = .ok (.aload_n 0, 1) := by decide +kernel
theorem dX6_clear_19 : decode cX6_clear 19 = .ok (.iconst 0, 1) := by decide +kernel
theorem dX6_clear_20 : decode cX6_clear 20 = .ok (.putfield 44, 3) := by decide +kernel
theorem dX6_clear_23 : decode cX6_clear 23 = .ok (.return_, 1) := by decide +kernel
theorem dX6_forgetLetters_0 : decode cX6_forgetLetters 0 = .ok (.iconst 0, 1) := by decide +kernel
theorem dX6_forgetLetters_1 : decode cX6_forgetLetters 1 = .ok (.istore_n 1, 1) := by decide +kernel
theorem dX6_forgetLetters_2 : decode cX6_forgetLetters 2 = .ok (.iload_n 1, 1) := by decide +kernel
theorem dX6_forgetLetters_3 : decode cX6_forgetLetters 3 = .ok (.bipush 10, 2) := by decide +kernel
theorem dX6_forgetLetters_5 : decode cX6_forgetLetters 5 = .ok (.if_icmp .ge 23, 3) := by decide +kernel
theorem dX6_forgetLetters_8 : decode cX6_forgetLetters 8 = .ok (.aload_n 0, 1) := by decide +kernel
theorem dX6_forgetLetters_9 : decode cX6_forgetLetters 9 = .ok (.getfield 11, 3) := by decide +kernel
theorem dX6_forgetLetters_12 : decode cX6_forgetLetters 12 = .ok (.iload_n 1, 1) := by decide +kernel
theorem dX6_forgetLetters_13 : decode cX6_forgetLetters 13 = .ok (.aconst_null, 1) := by decide +kernel
theorem dX6_forgetLetters_14 : decode cX6_forgetLetters 14 = .ok (.aastore, 1) := by decide +kernel
theorem dX6_forgetLetters_15 : decode cX6_forgetLetters 15 = .ok (.aload_n 0, 1) := by decide +kernel
theorem dX6_forgetLetters_16 : decode cX6_forgetLetters 16 = .ok (.getfield 17, 3) := by decide +kernel
theorem dX6_forgetLetters_19 : decode cX6_forgetLetters 19 = .ok (.iload_n 1, 1) := by decide +kernel
theorem dX6_forgetLetters_20 : decode cX6_forgetLetters 20 = .ok (.aconst_null, 1) := by decide +kernel
theorem dX6_forgetLetters_21 : decode cX6_forgetLetters 21 = .ok (.aastore, 1) := by decide +kernel
theorem dX6_forgetLetters_22 : decode cX6_forgetLetters 22 = .ok (.iinc 1 1, 3) := by decide +kernel
theorem dX6_forgetLetters_25 : decode cX6_forgetLetters 25 = .ok (.goto (-23), 3) := by decide +kernel
theorem dX6_forgetLetters_28 : decode cX6_forgetLetters 28 = .ok (.return_, 1) := by decide +kernel
theorem dX6_forgetMarks_0 : decode cX6_forgetMarks 0 = .ok (.aload_n 0, 1) := by decide +kernel
theorem dX6_forgetMarks_1 : decode cX6_forgetMarks 1 = .ok (.getfield 23, 3) := by decide +kernel
theorem dX6_forgetMarks_4 : decode cX6_forgetMarks 4 = .ok (.iconst (-1), 1) := by decide +kernel
theorem dX6_forgetMarks_5 : decode cX6_forgetMarks 5 = .ok (.putfield 47, 3) := by decide +kernel
theorem dX6_forgetMarks_8 : decode cX6_forgetMarks 8 = .ok (.aload_n 0, 1) := by decide +kernel
theorem dX6_forgetMarks_9 : decode cX6_forgetMarks 9 = .ok (.getfield 27, 3) := by decide +kernel
theorem dX6_forgetMarks_12 : decode cX6_forgetMarks 12 = .ok (.iconst (-1), 1) := by decide +kernel
theorem dX6_forgetMarks_13 : decode cX6_forgetMarks 13 = .ok (.putfield 47, 3) := by decide +kernel
theorem dX6_forgetMarks_16 : decode cX6_forgetMarks 16 = .ok (.return_, 1) := by decide +kernel
theorem dX6_enter_0 : decode cX6_enter 0 = .ok (.iconst 0, 1) := by decide +kernel
theorem dX6_enter_1 : decode cX6_enter 1 = .ok (.istore_n 2, 1) := by decide +kernel
theorem dX6_enter_2 : decode cX6_enter 2 = .ok (.iload_n 2, 1) := by decide +kernel
theorem dX6_enter_3 : decode cX6_enter 3 = .ok (.iconst 5, 1) := by decide +kernel
theorem dX6_enter_4 : decode cX6_enter 4 = .ok (.if_icmp .ge 34, 3) := by decide +kernel
theorem dX6_enter_7 : decode cX6_enter 7 = .ok (.aload_n 0, 1) := by decide +kernel
theorem dX6_enter_8 : decode cX6_enter 8 = .ok (.getfield 11, 3) := by decide +kernel
theorem dX6_enter_11 : decode cX6_enter 11 = .ok (.aload_n 0, 1) := by decide +kernel
theorem dX6_enter_12 : decode cX6_enter 12 = .ok (.getfield 36, 3) := by decide +kernel
theorem dX6_enter_15 : decode cX6_enter 15 = .ok (.iload_n 2, 1) := by decide +kernel
theorem dX6_enter_16 : decode cX6_enter 16 = .ok (.invokestatic 48, 3) := by decide +kernel
theorem dX6_enter_19 : decode cX6_enter 19 = .ok (.aconst_null, 1) := by decide +kernel
theorem dX6_enter_20 : decode cX6_enter 20 = .ok (.aastore, 1) := by decide +kernel
theorem dX6_enter_21 : decode cX6_enter 21 = .ok (.aload_n 0, 1) := by decide +kernel
theorem dX6_enter_22 : decode cX6_enter 22 = .ok (.getfield 17, 3) := by decide +kernel
theorem dX6_enter_25 : decode cX6_enter 25 = .ok (.iload_n 1, 1) := by decide +kernel
theorem dX6_enter_26 : decode cX6_enter 26 = .ok (.iload_n 2, 1) := by decide +kernel
theorem dX6_enter_27 : decode cX6_enter 27 = .ok (.invokestatic 48, 3) := by decide +kernel
theorem dX6_enter_30 : decode cX6_enter 30 = .ok (.aconst_null, 1) := by decide +kernel
theorem dX6_enter_31 : decode cX6_enter 31 = .ok (.aastore, 1) := by decide +kernel
theorem dX6_enter_32 : decode cX6_enter 32 = .ok (.iinc 2 1, 3) := by decide +kernel
theorem dX6_enter_35 : decode cX6_enter 35 = .ok (.goto (-33), 3) := by decide +kernel
theorem dX6_enter_38 : decode cX6_enter 38 = .ok (.aload_n 0, 1) := by decide +kernel
theorem dX6_enter_39 : decode cX6_enter 39 = .ok (.iload_n 1, 1) := by decide +kernel
theorem dX6_enter_40 : decode cX6_enter 40 = .ok (.putfield 36, 3) := by decide +kernel
theorem dX6_enter_43 : decode cX6_enter 43 = .ok (.return_, 1) := by decide +kernel
theorem dX6_hold_0 : decode cX6_hold 0 = .ok (.aload_n 0, 1) := by decide +kernel
theorem dX6_hold_1 : decode cX6_hold 1 = .ok (.getfield 11, 3) := by decide +kernel
theorem dX6_hold_4 : decode cX6_hold 4 = .ok (.aload_n 1, 1) := by decide +kernel
theorem dX6_hold_5 : decode cX6_hold 5 = .ok (.getfield 52, 3) := by decide +kernel
theorem dX6_hold_8 : decode cX6_hold 8 = .ok (.aload_n 1, 1) := by decide +kernel
theorem dX6_hold_9 : decode cX6_hold 9 = .ok (.getfield 53, 3) := by decide +kernel
theorem dX6_hold_12 : decode cX6_hold 12 = .ok (.invokestatic 48, 3) := by decide +kernel
theorem dX6_hold_15 : decode cX6_hold 15 = .ok (.aload_n 1, 1) := by decide +kernel
theorem dX6_hold_16 : decode cX6_hold 16 = .ok (.aastore, 1) := by decide +kernel
theorem dX6_hold_17 : decode cX6_hold 17 = .ok (.return_, 1) := by decide +kernel
theorem dX6_holds_0 : decode cX6_holds 0 = .ok (.aload_n 0, 1) := by decide +kernel
theorem dX6_holds_1 : decode cX6_holds 1 = .ok (.getfield 11, 3) := by decide +kernel
theorem dX6_holds_4 : decode cX6_holds 4 = .ok (.aload_n 1, 1) := by decide +kernel
theorem dX6_holds_5 : decode cX6_holds 5 = .ok (.getfield 52, 3) := by decide +kernel
theorem dX6_holds_8 : decode cX6_holds 8 = .ok (.aload_n 1, 1) := by decide +kernel
theorem dX6_holds_9 : decode cX6_holds 9 = .ok (.getfield 53, 3) := by decide +kernel
theorem dX6_holds_12 : decode cX6_holds 12 = .ok (.invokestatic 48, 3) := by decide +kernel
theorem dX6_holds_15 : decode cX6_holds 15 = .ok (.aaload, 1) := by decide +kernel
theorem dX6_holds_16 : decode cX6_holds 16 = .ok (.ifnull 7, 3) := by decide +kernel
theorem dX6_holds_19 : decode cX6_holds 19 = .ok (.iconst 1, 1) := by decide +kernel
theorem dX6_holds_20 : decode cX6_holds 20 = .ok (.goto 4, 3) := by decide +kernel
theorem dX6_holds_23 : decode cX6_holds 23 = .ok (.iconst 0, 1) := by decide +kernel
theorem dX6_holds_24 : decode cX6_holds 24 = .ok (.ireturn, 1) := by decide +kernel
theorem dX6_heldFrom_0 : decode cX6_heldFrom 0 = .ok (.aload_n 0, 1) := by decide +kernel
theorem dX6_heldFrom_1 : decode cX6_heldFrom 1 = .ok (.getfield 11, 3) := by decide +kernel
theorem dX6_heldFrom_4 : decode cX6_heldFrom 4 = .ok (.aload_n 0, 1) := by decide +kernel
theorem dX6_heldFrom_5 : decode cX6_heldFrom 5 = .ok (.getfield 36, 3) := by decide +kernel
theorem dX6_heldFrom_8 : decode cX6_heldFrom 8 = .ok (.iload_n 1, 1) := by decide +kernel
theorem dX6_heldFrom_9 : decode cX6_heldFrom 9 = .ok (.invokestatic 48, 3) := by decide +kernel
theorem dX6_heldFrom_12 : decode cX6_heldFrom 12 = .ok (.aaload, 1) := by decide +kernel
theorem dX6_heldFrom_13 : decode cX6_heldFrom 13 = .ok (.areturn, 1) := by decide +kernel
theorem dX6_lettersHeld_0 : decode cX6_lettersHeld 0 = .ok (.iconst 0, 1) := by decide +kernel
theorem dX6_lettersHeld_1 : decode cX6_lettersHeld 1 = .ok (.istore_n 1, 1) := by decide +kernel
theorem dX6_lettersHeld_2 : decode cX6_lettersHeld 2 = .ok (.iconst 0, 1) := by decide +kernel
theorem dX6_lettersHeld_3 : decode cX6_lettersHeld 3 = .ok (.istore_n 2, 1) := by decide +kernel
theorem dX6_lettersHeld_4 : decode cX6_lettersHeld 4 = .ok (.iload_n 2, 1) := by decide +kernel
theorem dX6_lettersHeld_5 : decode cX6_lettersHeld 5 = .ok (.iconst 5, 1) := by decide +kernel
theorem dX6_lettersHeld_6 : decode cX6_lettersHeld 6 = .ok (.if_icmp .ge 20, 3) := by decide +kernel
theorem dX6_lettersHeld_9 : decode cX6_lettersHeld 9 = .ok (.aload_n 0, 1) := by decide +kernel
theorem dX6_lettersHeld_10 : decode cX6_lettersHeld 10 = .ok (.iload_n 2, 1) := by decide +kernel
theorem dX6_lettersHeld_11 : decode cX6_lettersHeld 11 = .ok (.invokevirtual 56, 3) := by decide +kernel
theorem dX6_lettersHeld_14 : decode cX6_lettersHeld 14 = .ok (.ifnull 6, 3) := by decide +kernel
theorem dX6_lettersHeld_17 : decode cX6_lettersHeld 17 = .ok (.iinc 1 1, 3) := by decide +kernel
theorem dX6_lettersHeld_20 : decode cX6_lettersHeld 20 = .ok (.iinc 2 1, 3) := by decide +kernel
theorem dX6_lettersHeld_23 : decode cX6_lettersHeld 23 = .ok (.goto (-19), 3) := by decide +kernel
theorem dX6_lettersHeld_26 : decode cX6_lettersHeld 26 = .ok (.iload_n 1, 1) := by decide +kernel
theorem dX6_lettersHeld_27 : decode cX6_lettersHeld 27 = .ok (.ireturn, 1) := by decide +kernel
theorem dX6_isToldActive_0 : decode cX6_isToldActive 0 = .ok (.iconst 0, 1) := by decide +kernel
theorem dX6_isToldActive_1 : decode cX6_isToldActive 1 = .ok (.istore_n 1, 1) := by decide +kernel
theorem dX6_isToldActive_2 : decode cX6_isToldActive 2 = .ok (.iload_n 1, 1) := by decide +kernel
theorem dX6_isToldActive_3 : decode cX6_isToldActive 3 = .ok (.iconst 5, 1) := by decide +kernel
theorem dX6_isToldActive_4 : decode cX6_isToldActive 4 = .ok (.if_icmp .ge 28, 3) := by decide +kernel
theorem dX6_isToldActive_7 : decode cX6_isToldActive 7 = .ok (.aload_n 0, 1) := by decide +kernel
theorem dX6_isToldActive_8 : decode cX6_isToldActive 8 = .ok (.iload_n 1, 1) := by decide +kernel
theorem dX6_isToldActive_9 : decode cX6_isToldActive 9 = .ok (.invokevirtual 56, 3) := by decide +kernel
theorem dX6_isToldActive_12 : decode cX6_isToldActive 12 = .ok (.astore_n 2, 1) := by decide +kernel
theorem dX6_isToldActive_13 : decode cX6_isToldActive 13 = .ok (.aload_n 2, 1) := by decide +kernel
theorem dX6_isToldActive_14 : decode cX6_isToldActive 14 = .ok (.ifnull 12, 3) := by decide +kernel
theorem dX6_isToldActive_17 : decode cX6_isToldActive 17 = .ok (.aload_n 2, 1) := by decide +kernel
theorem dX6_isToldActive_18 : decode cX6_isToldActive 18 = .ok (.getfield 60, 3) := by decide +kernel
theorem dX6_isToldActive_21 : decode cX6_isToldActive 21 = .ok (.ifCond .le 5, 3) := by decide +kernel
theorem dX6_isToldActive_24 : decode cX6_isToldActive 24 = .ok (.iconst 1, 1) := by decide +kernel
theorem dX6_isToldActive_25 : decode cX6_isToldActive 25 = .ok (.ireturn, 1) := by decide +kernel
theorem dX6_isToldActive_26 : decode cX6_isToldActive 26 = .ok (.iinc 1 1, 3) := by decide +kernel
theorem dX6_isToldActive_29 : decode cX6_isToldActive 29 = .ok (.goto (-27), 3) := by decide +kernel
theorem dX6_isToldActive_32 : decode cX6_isToldActive 32 = .ok (.iconst 0, 1) := by decide +kernel
theorem dX6_isToldActive_33 : decode cX6_isToldActive 33 = .ok (.ireturn, 1) := by decide +kernel
theorem dX6_keep_0 : decode cX6_keep 0 = .ok (.aload_n 0, 1) := by decide +kernel
theorem dX6_keep_1 : decode cX6_keep 1 = .ok (.getfield 17, 3) := by decide +kernel
theorem dX6_keep_4 : decode cX6_keep 4 = .ok (.aload_n 1, 1) := by decide +kernel
theorem dX6_keep_5 : decode cX6_keep 5 = .ok (.getfield 52, 3) := by decide +kernel
theorem dX6_keep_8 : decode cX6_keep 8 = .ok (.aload_n 1, 1) := by decide +kernel
theorem dX6_keep_9 : decode cX6_keep 9 = .ok (.getfield 63, 3) := by decide +kernel
theorem dX6_keep_12 : decode cX6_keep 12 = .ok (.invokestatic 48, 3) := by decide +kernel
theorem dX6_keep_15 : decode cX6_keep 15 = .ok (.aload_n 1, 1) := by decide +kernel
theorem dX6_keep_16 : decode cX6_keep 16 = .ok (.aastore, 1) := by decide +kernel
theorem dX6_keep_17 : decode cX6_keep 17 = .ok (.return_, 1) := by decide +kernel
theorem dX6_keptFor_0 : decode cX6_keptFor 0 = .ok (.aload_n 0, 1) := by decide +kernel
theorem dX6_keptFor_1 : decode cX6_keptFor 1 = .ok (.getfield 17, 3) := by decide +kernel
theorem dX6_keptFor_4 : decode cX6_keptFor 4 = .ok (.iload_n 2, 1) := by decide +kernel
theorem dX6_keptFor_5 : decode cX6_keptFor 5 = .ok (.iload_n 1, 1) := by decide +kernel
theorem dX6_keptFor_6 : decode cX6_keptFor 6 = .ok (.invokestatic 48, 3) := by decide +kernel
theorem dX6_keptFor_9 : decode cX6_keptFor 9 = .ok (.aaload, 1) := by decide +kernel
theorem dX6_keptFor_10 : decode cX6_keptFor 10 = .ok (.areturn, 1) := by decide +kernel
theorem dX6_nextMark_0 : decode cX6_nextMark 0 = .ok (.aload_n 0, 1) := by decide +kernel
theorem dX6_nextMark_1 : decode cX6_nextMark 1 = .ok (.invokevirtual 66, 3) := by decide +kernel
theorem dX6_nextMark_4 : decode cX6_nextMark 4 = .ok (.aload_n 0, 1) := by decide +kernel
theorem dX6_nextMark_5 : decode cX6_nextMark 5 = .ok (.getfield 23, 3) := by decide +kernel
theorem dX6_nextMark_8 : decode cX6_nextMark 8 = .ok (.aload_n 0, 1) := by decide +kernel
theorem dX6_nextMark_9 : decode cX6_nextMark 9 = .ok (.getfield 36, 3) := by decide +kernel
theorem dX6_nextMark_12 : decode cX6_nextMark 12 = .ok (.putfield 47, 3) := by decide +kernel
theorem dX6_nextMark_15 : decode cX6_nextMark 15 = .ok (.aload_n 0, 1) := by decide +kernel
theorem dX6_nextMark_16 : decode cX6_nextMark 16 = .ok (.getfield 23, 3) := by decide +kernel
theorem dX6_nextMark_19 : decode cX6_nextMark 19 = .ok (.areturn, 1) := by decide +kernel
theorem dX6_swapMarks_0 : decode cX6_swapMarks 0 = .ok (.aload_n 0, 1) := by decide +kernel
theorem dX6_swapMarks_1 : decode cX6_swapMarks 1 = .ok (.getfield 27, 3) := by decide +kernel
theorem dX6_swapMarks_4 : decode cX6_swapMarks 4 = .ok (.astore_n 1, 1) := by decide +kernel
theorem dX6_swapMarks_5 : decode cX6_swapMarks 5 = .ok (.aload_n 0, 1) := by decide +kernel
theorem dX6_swapMarks_6 : decode cX6_swapMarks 6 = .ok (.aload_n 0, 1) := by decide +kernel
theorem dX6_swapMarks_7 : decode cX6_swapMarks 7 = .ok (.getfield 23, 3) := by decide +kernel
theorem dX6_swapMarks_10 : decode cX6_swapMarks 10 = .ok (.putfield 27, 3) := by decide +kernel
theorem dX6_swapMarks_13 : decode cX6_swapMarks 13 = .ok (.aload_n 0, 1) := by decide +kernel
theorem dX6_swapMarks_14 : decode cX6_swapMarks 14 = .ok (.aload_n 1, 1) := by decide +kernel
theorem dX6_swapMarks_15 : decode cX6_swapMarks 15 = .ok (.putfield 23, 3) := by decide +kernel
theorem dX6_swapMarks_18 : decode cX6_swapMarks 18 = .ok (.return_, 1) := by decide +kernel
theorem dX6_fail_0 : decode cX6_fail 0 = .ok (.aload_n 0, 1) := by decide +kernel
theorem dX6_fail_1 : decode cX6_fail 1 = .ok (.invokevirtual 30, 3) := by decide +kernel
theorem dX6_fail_4 : decode cX6_fail 4 = .ok (.aload_n 0, 1) := by decide +kernel
theorem dX6_fail_5 : decode cX6_fail 5 = .ok (.iconst 0, 1) := by decide +kernel
theorem dX6_fail_6 : decode cX6_fail 6 = .ok (.putfield 40, 3) := by decide +kernel
theorem dX6_fail_9 : decode cX6_fail 9 = .ok (.aload_n 0, 1) := by decide +kernel
theorem dX6_fail_10 : decode cX6_fail 10 = .ok (.iconst 1, 1) := by decide +kernel
theorem dX6_fail_11 : decode cX6_fail 11 = .ok (.putfield 44, 3) := by decide +kernel
theorem dX6_fail_14 : decode cX6_fail 14 = .ok (.return_, 1) := by decide +kernel
theorem dX6_goBack_0 : decode cX6_goBack 0 = .ok (.aload_n 0, 1) := by decide +kernel
theorem dX6_goBack_1 : decode cX6_goBack 1 = .ok (.getfield 23, 3) := by decide +kernel
theorem dX6_goBack_4 : decode cX6_goBack 4 = .ok (.getfield 47, 3) := by decide +kernel
theorem dX6_goBack_7 : decode cX6_goBack 7 = .ok (.iload_n 1, 1) := by decide +kernel
theorem dX6_goBack_8 : decode cX6_goBack 8 = .ok (.if_icmp .eq 15, 3) := by decide +kernel
theorem dX6_goBack_11 : decode cX6_goBack 11 = .ok (.aload_n 0, 1) := by decide +kernel
theorem dX6_goBack_12 : decode cX6_goBack 12 = .ok (.invokevirtual 66, 3) := by decide +kernel
theorem dX6_goBack_15 : decode cX6_goBack 15 = .ok (.aload_n 0, 1) := by decide +kernel
theorem dX6_goBack_16 : decode cX6_goBack 16 = .ok (.getfield 27, 3) := by decide +kernel
theorem dX6_goBack_19 : decode cX6_goBack 19 = .ok (.iconst (-1), 1) := by decide +kernel
theorem dX6_goBack_20 : decode cX6_goBack 20 = .ok (.putfield 47, 3) := by decide +kernel
theorem dX6_goBack_23 : decode cX6_goBack 23 = .ok (.aload_n 0, 1) := by decide +kernel
theorem dX6_goBack_24 : decode cX6_goBack 24 = .ok (.invokevirtual 30, 3) := by decide +kernel
theorem dX6_goBack_27 : decode cX6_goBack 27 = .ok (.aload_n 0, 1) := by decide +kernel
theorem dX6_goBack_28 : decode cX6_goBack 28 = .ok (.iload_n 1, 1) := by decide +kernel
theorem dX6_goBack_29 : decode cX6_goBack 29 = .ok (.putfield 36, 3) := by decide +kernel
theorem dX6_goBack_32 : decode cX6_goBack 32 = .ok (.aload_n 0, 1) := by decide +kernel
theorem dX6_goBack_33 : decode cX6_goBack 33 = .ok (.iconst 0, 1) := by decide +kernel
theorem dX6_goBack_34 : decode cX6_goBack 34 = .ok (.putfield 40, 3) := by decide +kernel
theorem dX6_goBack_37 : decode cX6_goBack 37 = .ok (.aload_n 0, 1) := by decide +kernel
theorem dX6_goBack_38 : decode cX6_goBack 38 = .ok (.iconst 0, 1) := by decide +kernel
theorem dX6_goBack_39 : decode cX6_goBack 39 = .ok (.putfield 44, 3) := by decide +kernel
theorem dX6_goBack_42 : decode cX6_goBack 42 = .ok (.return_, 1) := by decide +kernel
theorem dX7_init_0 : decode cX7_init 0 = .ok (.aload_n 0, 1) := by decide +kernel
theorem dX7_init_1 : decode cX7_init 1 = .ok (.invokespecial 3, 3) := by decide +kernel
theorem dX7_init_4 : decode cX7_init 4 = .ok (.aload_n 0, 1) := by decide +kernel
theorem dX7_init_5 : decode cX7_init 5 = .ok (.bipush 16, 2) := by decide +kernel
theorem dX7_init_7 : decode cX7_init 7 = .ok (.newarray .int, 2) := by decide +kernel
theorem dX7_init_9 : decode cX7_init 9 = .ok (.putfield 9, 3) := by decide +kernel
theorem dX7_init_12 : decode cX7_init 12 = .ok (.aload_n 0, 1) := by decide +kernel
theorem dX7_init_13 : decode cX7_init 13 = .ok (.bipush 16, 2) := by decide +kernel
theorem dX7_init_15 : decode cX7_init 15 = .ok (.newarray .int, 2) := by decide +kernel
theorem dX7_init_17 : decode cX7_init 17 = .ok (.putfield 15, 3) := by decide +kernel
theorem dX7_init_20 : decode cX7_init 20 = .ok (.aload_n 0, 1) := by decide +kernel
theorem dX7_init_21 : decode cX7_init 21 = .ok (.bipush 16, 2) := by decide +kernel
theorem dX7_init_23 : decode cX7_init 23 = .ok (.newarray .boolean, 2) := by decide +kernel
theorem dX7_init_25 : decode cX7_init 25 = .ok (.putfield 18, 3) := by decide +kernel
theorem dX7_init_28 : decode cX7_init 28 = .ok (.return_, 1) := by decide +kernel
theorem dX7_begin_0 : decode cX7_begin 0 = .ok (.aload_n 0, 1) := by decide +kernel
theorem dX7_begin_1 : decode cX7_begin 1 = .ok (.getfield 9, 3) := by decide +kernel
theorem dX7_begin_4 : decode cX7_begin 4 = .ok (.iload_n 1, 1) := by decide +kernel
theorem dX7_begin_5 : decode cX7_begin 5 = .ok (.iload_n 2, 1) := by decide +kernel
theorem dX7_begin_6 : decode cX7_begin 6 = .ok (.iastore, 1) := by decide +kernel
theorem dX7_begin_7 : decode cX7_begin 7 = .ok (.aload_n 0, 1) := by decide +kernel
theorem dX7_begin_8 : decode cX7_begin 8 = .ok (.getfield 15, 3) := by decide +kernel
theorem dX7_begin_11 : decode cX7_begin 11 = .ok (.iload_n 1, 1) := by decide +kernel
theorem dX7_begin_12 : decode cX7_begin 12 = .ok (.iconst 0, 1) := by decide +kernel
theorem dX7_begin_13 : decode cX7_begin 13 = .ok (.iastore, 1) := by decide +kernel
theorem dX7_begin_14 : decode cX7_begin 14 = .ok (.aload_n 0, 1) := by decide +kernel
theorem dX7_begin_15 : decode cX7_begin 15 = .ok (.getfield 18, 3) := by decide +kernel
theorem dX7_begin_18 : decode cX7_begin 18 = .ok (.iload_n 1, 1) := by decide +kernel
theorem dX7_begin_19 : decode cX7_begin 19 = .ok (.iconst 1, 1) := by decide +kernel
theorem dX7_begin_20 : decode cX7_begin 20 = .ok (.bastore, 1) := by decide +kernel
theorem dX7_begin_21 : decode cX7_begin 21 = .ok (.return_, 1) := by decide +kernel
theorem dX7_copyVertex_0 : decode cX7_copyVertex 0 = .ok (.aload_n 0, 1) := by decide +kernel
theorem dX7_copyVertex_1 : decode cX7_copyVertex 1 = .ok (.getfield 9, 3) := by decide +kernel
theorem dX7_copyVertex_4 : decode cX7_copyVertex 4 = .ok (.iload_n 1, 1) := by decide +kernel
theorem dX7_copyVertex_5 : decode cX7_copyVertex 5 = .ok (.aload_n 2, 1) := by decide +kernel
theorem dX7_copyVertex_6 : decode cX7_copyVertex 6 = .ok (.getfield 9, 3) := by decide +kernel
theorem dX7_copyVertex_9 : decode cX7_copyVertex 9 = .ok (.iload_n 1, 1) := by decide +kernel
theorem dX7_copyVertex_10 : decode cX7_copyVertex 10 = .ok (.iaload, 1) := by decide +kernel
theorem dX7_copyVertex_11 : decode cX7_copyVertex 11 = .ok (.iastore, 1) := by decide +kernel
theorem dX7_copyVertex_12 : decode cX7_copyVertex 12 = .ok (.aload_n 0, 1) := by decide +kernel
theorem dX7_copyVertex_13 : decode cX7_copyVertex 13 = .ok (.getfield 15, 3) := by decide +kernel
theorem dX7_copyVertex_16 : decode cX7_copyVertex 16 = .ok (.iload_n 1, 1) := by decide +kernel
theorem dX7_copyVertex_17 : decode cX7_copyVertex 17 = .ok (.aload_n 2, 1) := by decide +kernel
theorem dX7_copyVertex_18 : decode cX7_copyVertex 18 = .ok (.getfield 15, 3) := by decide +kernel
theorem dX7_copyVertex_21 : decode cX7_copyVertex 21 = .ok (.iload_n 1, 1) := by decide +kernel
theorem dX7_copyVertex_22 : decode cX7_copyVertex 22 = .ok (.iaload, 1) := by decide +kernel
theorem dX7_copyVertex_23 : decode cX7_copyVertex 23 = .ok (.iastore, 1) := by decide +kernel
theorem dX7_copyVertex_24 : decode cX7_copyVertex 24 = .ok (.aload_n 0, 1) := by decide +kernel
theorem dX7_copyVertex_25 : decode cX7_copyVertex 25 = .ok (.getfield 18, 3) := by decide +kernel
theorem dX7_copyVertex_28 : decode cX7_copyVertex 28 = .ok (.iload_n 1, 1) := by decide +kernel
theorem dX7_copyVertex_29 : decode cX7_copyVertex 29 = .ok (.aload_n 2, 1) := by decide +kernel
theorem dX7_copyVertex_30 : decode cX7_copyVertex 30 = .ok (.getfield 18, 3) := by decide +kernel
theorem dX7_copyVertex_33 : decode cX7_copyVertex 33 = .ok (.iload_n 1, 1) := by decide +kernel
theorem dX7_copyVertex_34 : decode cX7_copyVertex 34 = .ok (.baload, 1) := by decide +kernel
theorem dX7_copyVertex_35 : decode cX7_copyVertex 35 = .ok (.bastore, 1) := by decide +kernel
theorem dX7_copyVertex_36 : decode cX7_copyVertex 36 = .ok (.return_, 1) := by decide +kernel
theorem dX7_tell_0 : decode cX7_tell 0 = .ok (.iload_n 2, 1) := by decide +kernel
theorem dX7_tell_1 : decode cX7_tell 1 = .ok (.tableswitch 58 0 2 #[27, 35, 43], 27) := by decide +kernel
theorem dX7_tell_28 : decode cX7_tell 28 = .ok (.aload_n 0, 1) := by decide +kernel
theorem dX7_tell_29 : decode cX7_tell 29 = .ok (.getfield 9, 3) := by decide +kernel
theorem dX7_tell_32 : decode cX7_tell 32 = .ok (.iload_n 1, 1) := by decide +kernel
theorem dX7_tell_33 : decode cX7_tell 33 = .ok (.iaload, 1) := by decide +kernel
theorem dX7_tell_34 : decode cX7_tell 34 = .ok (.i2l, 1) := by decide +kernel
theorem dX7_tell_35 : decode cX7_tell 35 = .ok (.lreturn, 1) := by decide +kernel
theorem dX7_tell_36 : decode cX7_tell 36 = .ok (.aload_n 0, 1) := by decide +kernel
theorem dX7_tell_37 : decode cX7_tell 37 = .ok (.getfield 15, 3) := by decide +kernel
theorem dX7_tell_40 : decode cX7_tell 40 = .ok (.iload_n 1, 1) := by decide +kernel
theorem dX7_tell_41 : decode cX7_tell 41 = .ok (.iaload, 1) := by decide +kernel
theorem dX7_tell_42 : decode cX7_tell 42 = .ok (.i2l, 1) := by decide +kernel
theorem dX7_tell_43 : decode cX7_tell 43 = .ok (.lreturn, 1) := by decide +kernel
theorem dX7_tell_44 : decode cX7_tell 44 = .ok (.aload_n 0, 1) := by decide +kernel
theorem dX7_tell_45 : decode cX7_tell 45 = .ok (.getfield 18, 3) := by decide +kernel
theorem dX7_tell_48 : decode cX7_tell 48 = .ok (.iload_n 1, 1) := by decide +kernel
theorem dX7_tell_49 : decode cX7_tell 49 = .ok (.baload, 1) := by decide +kernel
theorem dX7_tell_50 : decode cX7_tell 50 = .ok (.ifCond .eq 7, 3) := by decide +kernel
theorem dX7_tell_53 : decode cX7_tell 53 = .ok (.lconst 1, 1) := by decide +kernel
theorem dX7_tell_54 : decode cX7_tell 54 = .ok (.goto 4, 3) := by decide +kernel
theorem dX7_tell_57 : decode cX7_tell 57 = .ok (.lconst 0, 1) := by decide +kernel
theorem dX7_tell_58 : decode cX7_tell 58 = .ok (.lreturn, 1) := by decide +kernel
theorem dX7_tell_59 : decode cX7_tell 59 = .ok (.ldc2_w 22, 3) := by decide +kernel
theorem dX7_tell_62 : decode cX7_tell 62 = .ok (.lreturn, 1) := by decide +kernel
theorem dX8_init_0 : decode cX8_init 0 = .ok (.aload_n 0, 1) := by decide +kernel
theorem dX8_init_1 : decode cX8_init 1 = .ok (.invokespecial 3, 3) := by decide +kernel
theorem dX8_init_4 : decode cX8_init 4 = .ok (.aload_n 0, 1) := by decide +kernel
theorem dX8_init_5 : decode cX8_init 5 = .ok (.new 9, 3) := by decide +kernel
theorem dX8_init_8 : decode cX8_init 8 = .ok (.dup, 1) := by decide +kernel
theorem dX8_init_9 : decode cX8_init 9 = .ok (.invokespecial 11, 3) := by decide +kernel
theorem dX8_init_12 : decode cX8_init 12 = .ok (.putfield 12, 3) := by decide +kernel
theorem dX8_init_15 : decode cX8_init 15 = .ok (.aload_n 0, 1) := by decide +kernel
theorem dX8_init_16 : decode cX8_init 16 = .ok (.new 18, 3) := by decide +kernel
theorem dX8_init_19 : decode cX8_init 19 = .ok (.dup, 1) := by decide +kernel
theorem dX8_init_20 : decode cX8_init 20 = .ok (.invokespecial 20, 3) := by decide +kernel
theorem dX8_init_23 : decode cX8_init 23 = .ok (.putfield 21, 3) := by decide +kernel
theorem dX8_init_26 : decode cX8_init 26 = .ok (.aload_n 0, 1) := by decide +kernel
theorem dX8_init_27 : decode cX8_init 27 = .ok (.new 18, 3) := by decide +kernel
theorem dX8_init_30 : decode cX8_init 30 = .ok (.dup, 1) := by decide +kernel
theorem dX8_init_31 : decode cX8_init 31 = .ok (.invokespecial 20, 3) := by decide +kernel
theorem dX8_init_34 : decode cX8_init 34 = .ok (.putfield 25, 3) := by decide +kernel
theorem dX8_init_37 : decode cX8_init 37 = .ok (.aload_n 0, 1) := by decide +kernel
theorem dX8_init_38 : decode cX8_init 38 = .ok (.new 28, 3) := by decide +kernel
theorem dX8_init_41 : decode cX8_init 41 = .ok (.dup, 1) := by decide +kernel
theorem dX8_init_42 : decode cX8_init 42 = .ok (.invokespecial 30, 3) := by decide +kernel
theorem dX8_init_45 : decode cX8_init 45 = .ok (.putfield 31, 3) := by decide +kernel
theorem dX8_init_48 : decode cX8_init 48 = .ok (.aload_n 0, 1) := by decide +kernel
theorem dX8_init_49 : decode cX8_init 49 = .ok (.new 35, 3) := by decide +kernel
theorem dX8_init_52 : decode cX8_init 52 = .ok (.dup, 1) := by decide +kernel
theorem dX8_init_53 : decode cX8_init 53 = .ok (.invokespecial 37, 3) := by decide +kernel
theorem dX8_init_56 : decode cX8_init 56 = .ok (.putfield 38, 3) := by decide +kernel
theorem dX8_init_59 : decode cX8_init 59 = .ok (.aload_n 0, 1) := by decide +kernel
theorem dX8_init_60 : decode cX8_init 60 = .ok (.new 42, 3) := by decide +kernel
theorem dX8_init_63 : decode cX8_init 63 = .ok (.dup, 1) := by decide +kernel
theorem dX8_init_64 : decode cX8_init 64 = .ok (.invokespecial 44, 3) := by decide +kernel
theorem dX8_init_67 : decode cX8_init 67 = .ok (.putfield 45, 3) := by decide +kernel
theorem dX8_init_70 : decode cX8_init 70 = .ok (.aload_n 0, 1) := by decide +kernel
theorem dX8_init_71 : decode cX8_init 71 = .ok (.iconst 5, 1) := by decide +kernel
theorem dX8_init_72 : decode cX8_init 72 = .ok (.anewarray 49, 3) := by decide +kernel
theorem dX8_init_75 : decode cX8_init 75 = .ok (.putfield 51, 3) := by decide +kernel
theorem dX8_init_78 : decode cX8_init 78 = .ok (.aload_n 0, 1) := by decide +kernel
theorem dX8_init_79 : decode cX8_init 79 = .ok (.iconst 4, 1) := by decide +kernel
theorem dX8_init_80 : decode cX8_init 80 = .ok (.newarray .int, 2) := by decide +kernel
theorem dX8_init_82 : decode cX8_init 82 = .ok (.putfield 55, 3) := by decide +kernel
theorem dX8_init_85 : decode cX8_init 85 = .ok (.iconst 0, 1) := by decide +kernel
theorem dX8_init_86 : decode cX8_init 86 = .ok (.istore_n 1, 1) := by decide +kernel
theorem dX8_init_87 : decode cX8_init 87 = .ok (.iload_n 1, 1) := by decide +kernel
theorem dX8_init_88 : decode cX8_init 88 = .ok (.iconst 5, 1) := by decide +kernel
theorem dX8_init_89 : decode cX8_init 89 = .ok (.if_icmp .ge 22, 3) := by decide +kernel
theorem dX8_init_92 : decode cX8_init 92 = .ok (.aload_n 0, 1) := by decide +kernel
theorem dX8_init_93 : decode cX8_init 93 = .ok (.getfield 51, 3) := by decide +kernel
theorem dX8_init_96 : decode cX8_init 96 = .ok (.iload_n 1, 1) := by decide +kernel
theorem dX8_init_97 : decode cX8_init 97 = .ok (.new 49, 3) := by decide +kernel
theorem dX8_init_100 : decode cX8_init 100 = .ok (.dup, 1) := by decide +kernel
theorem dX8_init_101 : decode cX8_init 101 = .ok (.invokespecial 59, 3) := by decide +kernel
theorem dX8_init_104 : decode cX8_init 104 = .ok (.aastore, 1) := by decide +kernel
theorem dX8_init_105 : decode cX8_init 105 = .ok (.iinc 1 1, 3) := by decide +kernel
theorem dX8_init_108 : decode cX8_init 108 = .ok (.goto (-21), 3) := by decide +kernel
theorem dX8_init_111 : decode cX8_init 111 = .ok (.aload_n 0, 1) := by decide +kernel
theorem dX8_init_112 : decode cX8_init 112 = .ok (.iconst 2, 1) := by decide +kernel
theorem dX8_init_113 : decode cX8_init 113 = .ok (.putfield 60, 3) := by decide +kernel
theorem dX8_init_116 : decode cX8_init 116 = .ok (.return_, 1) := by decide +kernel
theorem dX8_nodes_0 : decode cX8_nodes 0 = .ok (.iload_n 1, 1) := by decide +kernel
theorem dX8_nodes_1 : decode cX8_nodes 1 = .ok (.iconst 2, 1) := by decide +kernel
theorem dX8_nodes_2 : decode cX8_nodes 2 = .ok (.if_icmp .lt 8, 3) := by decide +kernel
theorem dX8_nodes_5 : decode cX8_nodes 5 = .ok (.iload_n 1, 1) := by decide +kernel
theorem dX8_nodes_6 : decode cX8_nodes 6 = .ok (.iconst 5, 1) := by decide +kernel
theorem dX8_nodes_7 : decode cX8_nodes 7 = .ok (.if_icmp .le 5, 3) := by decide +kernel
theorem dX8_nodes_10 : decode cX8_nodes 10 = .ok (.iconst (-1), 1) := by decide +kernel
theorem dX8_nodes_11 : decode cX8_nodes 11 = .ok (.ireturn, 1) := by decide +kernel
theorem dX8_nodes_12 : decode cX8_nodes 12 = .ok (.aload_n 0, 1) := by decide +kernel
theorem dX8_nodes_13 : decode cX8_nodes 13 = .ok (.getfield 12, 3) := by decide +kernel
theorem dX8_nodes_16 : decode cX8_nodes 16 = .ok (.getfield 64, 3) := by decide +kernel
theorem dX8_nodes_19 : decode cX8_nodes 19 = .ok (.istore_n 2, 1) := by decide +kernel
theorem dX8_nodes_20 : decode cX8_nodes 20 = .ok (.aload_n 0, 1) := by decide +kernel
theorem dX8_nodes_21 : decode cX8_nodes 21 = .ok (.getfield 12, 3) := by decide +kernel
theorem dX8_nodes_24 : decode cX8_nodes 24 = .ok (.invokevirtual 67, 3) := by decide +kernel
theorem dX8_nodes_27 : decode cX8_nodes 27 = .ok (.aload_n 0, 1) := by decide +kernel
theorem dX8_nodes_28 : decode cX8_nodes 28 = .ok (.getfield 45, 3) := by decide +kernel
theorem dX8_nodes_31 : decode cX8_nodes 31 = .ok (.invokevirtual 70, 3) := by decide +kernel
theorem dX8_nodes_34 : decode cX8_nodes 34 = .ok (.iconst 0, 1) := by decide +kernel
theorem dX8_nodes_35 : decode cX8_nodes 35 = .ok (.istore_n 3, 1) := by decide +kernel
theorem dX8_nodes_36 : decode cX8_nodes 36 = .ok (.iload_n 3, 1) := by decide +kernel
theorem dX8_nodes_37 : decode cX8_nodes 37 = .ok (.iconst 5, 1) := by decide +kernel
theorem dX8_nodes_38 : decode cX8_nodes 38 = .ok (.if_icmp .ge 18, 3) := by decide +kernel
theorem dX8_nodes_41 : decode cX8_nodes 41 = .ok (.aload_n 0, 1) := by decide +kernel
theorem dX8_nodes_42 : decode cX8_nodes 42 = .ok (.getfield 51, 3) := by decide +kernel
theorem dX8_nodes_45 : decode cX8_nodes 45 = .ok (.iload_n 3, 1) := by decide +kernel
theorem dX8_nodes_46 : decode cX8_nodes 46 = .ok (.aaload, 1) := by decide +kernel
theorem dX8_nodes_47 : decode cX8_nodes 47 = .ok (.invokevirtual 71, 3) := by decide +kernel
theorem dX8_nodes_50 : decode cX8_nodes 50 = .ok (.iinc 3 1, 3) := by decide +kernel
theorem dX8_nodes_53 : decode cX8_nodes 53 = .ok (.goto (-17), 3) := by decide +kernel
theorem dX8_nodes_56 : decode cX8_nodes 56 = .ok (.aload_n 0, 1) := by decide +kernel
theorem dX8_nodes_57 : decode cX8_nodes 57 = .ok (.getfield 55, 3) := by decide +kernel
theorem dX8_nodes_60 : decode cX8_nodes 60 = .ok (.iconst 0, 1) := by decide +kernel
theorem dX8_nodes_61 : decode cX8_nodes 61 = .ok (.invokestatic 72, 3) := by decide +kernel
theorem dX8_nodes_64 : decode cX8_nodes 64 = .ok (.aload_n 0, 1) := by decide +kernel
theorem dX8_nodes_65 : decode cX8_nodes 65 = .ok (.iload_n 1, 1) := by decide +kernel
theorem dX8_nodes_66 : decode cX8_nodes 66 = .ok (.putfield 60, 3) := by decide +kernel
theorem dX8_nodes_69 : decode cX8_nodes 69 = .ok (.aload_n 0, 1) := by decide +kernel
theorem dX8_nodes_70 : decode cX8_nodes 70 = .ok (.iconst 0, 1) := by decide +kernel
theorem dX8_nodes_71 : decode cX8_nodes 71 = .ok (.putfield 78, 3) := by decide +kernel
theorem dX8_nodes_74 : decode cX8_nodes 74 = .ok (.aload_n 0, 1) := by decide +kernel
theorem dX8_nodes_75 : decode cX8_nodes 75 = .ok (.iconst 0, 1) := by decide +kernel
theorem dX8_nodes_76 : decode cX8_nodes 76 = .ok (.putfield 81, 3) := by decide +kernel
theorem dX8_nodes_79 : decode cX8_nodes 79 = .ok (.aload_n 0, 1) := by decide +kernel
theorem dX8_nodes_80 : decode cX8_nodes 80 = .ok (.iconst 0, 1) := by decide +kernel
theorem dX8_nodes_81 : decode cX8_nodes 81 = .ok (.putfield 85, 3) := by decide +kernel
theorem dX8_nodes_84 : decode cX8_nodes 84 = .ok (.aload_n 0, 1) := by decide +kernel
theorem dX8_nodes_85 : decode cX8_nodes 85 = .ok (.iconst 0, 1) := by decide +kernel
theorem dX8_nodes_86 : decode cX8_nodes 86 = .ok (.putfield 88, 3) := by decide +kernel
theorem dX8_nodes_89 : decode cX8_nodes 89 = .ok (.aload_n 0, 1) := by decide +kernel
theorem dX8_nodes_90 : decode cX8_nodes 90 = .ok (.iconst 0, 1) := by decide +kernel
theorem dX8_nodes_91 : decode cX8_nodes 91 = .ok (.putfield 91, 3) := by decide +kernel
theorem dX8_nodes_94 : decode cX8_nodes 94 = .ok (.iload_n 2, 1) := by decide +kernel
theorem dX8_nodes_95 : decode cX8_nodes 95 = .ok (.ireturn, 1) := by decide +kernel
theorem dX8_vertex_0 : decode cX8_vertex 0 = .ok (.aload_n 0, 1) := by decide +kernel
theorem dX8_vertex_1 : decode cX8_vertex 1 = .ok (.iload_n 1, 1) := by decide +kernel
theorem dX8_vertex_2 : decode cX8_vertex 2 = .ok (.invokevirtual 94, 3) := by decide +kernel
theorem dX8_vertex_5 : decode cX8_vertex 5 = .ok (.ifCond .ne 5, 3) := by decide +kernel
theorem dX8_vertex_8 : decode cX8_vertex 8 = .ok (.iconst (-1), 1) := by decide +kernel
theorem dX8_vertex_9 : decode cX8_vertex 9 = .ok (.ireturn, 1) := by decide +kernel
theorem dX8_vertex_10 : decode cX8_vertex 10 = .ok (.aload_n 0, 1) := by decide +kernel
theorem dX8_vertex_11 : decode cX8_vertex 11 = .ok (.getfield 85, 3) := by decide +kernel
theorem dX8_vertex_14 : decode cX8_vertex 14 = .ok (.ifCond .eq 6, 3) := by decide +kernel
theorem dX8_vertex_17 : decode cX8_vertex 17 = .ok (.bipush (-2), 2) := by decide +kernel
theorem dX8_vertex_19 : decode cX8_vertex 19 = .ok (.ireturn, 1) := by decide +kernel
theorem dX8_vertex_20 : decode cX8_vertex 20 = .ok (.aload_n 0, 1) := by decide +kernel
theorem dX8_vertex_21 : decode cX8_vertex 21 = .ok (.getfield 12, 3) := by decide +kernel
theorem dX8_vertex_24 : decode cX8_vertex 24 = .ok (.getfield 64, 3) := by decide +kernel
theorem dX8_vertex_27 : decode cX8_vertex 27 = .ok (.bipush 16, 2) := by decide +kernel
theorem dX8_vertex_29 : decode cX8_vertex 29 = .ok (.if_icmp .lt 6, 3) := by decide +kernel
theorem dX8_vertex_32 : decode cX8_vertex 32 = .ok (.bipush (-3), 2) := by decide +kernel
theorem dX8_vertex_34 : decode cX8_vertex 34 = .ok (.ireturn, 1) := by decide +kernel
theorem dX8_vertex_35 : decode cX8_vertex 35 = .ok (.aload_n 0, 1) := by decide +kernel
theorem dX8_vertex_36 : decode cX8_vertex 36 = .ok (.getfield 12, 3) := by decide +kernel
theorem dX8_vertex_39 : decode cX8_vertex 39 = .ok (.iload_n 1, 1) := by decide +kernel
theorem dX8_vertex_40 : decode cX8_vertex 40 = .ok (.iload_n 2, 1) := by decide +kernel
theorem dX8_vertex_41 : decode cX8_vertex 41 = .ok (.invokevirtual 98, 3) := by decide +kernel
theorem dX8_vertex_44 : decode cX8_vertex 44 = .ok (.istore_n 3, 1) := by decide +kernel
theorem dX8_vertex_45 : decode cX8_vertex 45 = .ok (.aload_n 0, 1) := by decide +kernel
theorem dX8_vertex_46 : decode cX8_vertex 46 = .ok (.getfield 21, 3) := by decide +kernel
theorem dX8_vertex_49 : decode cX8_vertex 49 = .ok (.iload_n 3, 1) := by decide +kernel
theorem dX8_vertex_50 : decode cX8_vertex 50 = .ok (.iload_n 2, 1) := by decide +kernel
theorem dX8_vertex_51 : decode cX8_vertex 51 = .ok (.invokevirtual 102, 3) := by decide +kernel
theorem dX8_vertex_54 : decode cX8_vertex 54 = .ok (.iload_n 3, 1) := by decide +kernel
theorem dX8_vertex_55 : decode cX8_vertex 55 = .ok (.ireturn, 1) := by decide +kernel
theorem dX8_arc_0 : decode cX8_arc 0 = .ok (.aload_n 0, 1) := by decide +kernel
theorem dX8_arc_1 : decode cX8_arc 1 = .ok (.iload_n 1, 1) := by decide +kernel
theorem dX8_arc_2 : decode cX8_arc 2 = .ok (.invokevirtual 106, 3) := by decide +kernel
theorem dX8_arc_5 : decode cX8_arc 5 = .ok (.ifCond .eq 25, 3) := by decide +kernel
theorem dX8_arc_8 : decode cX8_arc 8 = .ok (.aload_n 0, 1) := by decide +kernel
theorem dX8_arc_9 : decode cX8_arc 9 = .ok (.iload_n 2, 1) := by decide +kernel
theorem dX8_arc_10 : decode cX8_arc 10 = .ok (.invokevirtual 106, 3) := by decide +kernel
theorem dX8_arc_13 : decode cX8_arc 13 = .ok (.ifCond .eq 17, 3) := by decide +kernel
theorem dX8_arc_16 : decode cX8_arc 16 = .ok (.iload_n 3, 1) := by decide +kernel
theorem dX8_arc_17 : decode cX8_arc 17 = .ok (.sipush (-1000), 3) := by decide +kernel
theorem dX8_arc_20 : decode cX8_arc 20 = .ok (.if_icmp .lt 10, 3) := by decide +kernel
theorem dX8_arc_23 : decode cX8_arc 23 = .ok (.iload_n 3, 1) := by decide +kernel
theorem dX8_arc_24 : decode cX8_arc 24 = .ok (.sipush 1000, 3) := by decide +kernel
theorem dX8_arc_27 : decode cX8_arc 27 = .ok (.if_icmp .le 5, 3) := by decide +kernel
theorem dX8_arc_30 : decode cX8_arc 30 = .ok (.iconst (-1), 1) := by decide +kernel
theorem dX8_arc_31 : decode cX8_arc 31 = .ok (.ireturn, 1) := by decide +kernel
theorem dX8_arc_32 : decode cX8_arc 32 = .ok (.aload_n 0, 1) := by decide +kernel
theorem dX8_arc_33 : decode cX8_arc 33 = .ok (.getfield 85, 3) := by decide +kernel
theorem dX8_arc_36 : decode cX8_arc 36 = .ok (.ifCond .eq 6, 3) := by decide +kernel
theorem dX8_arc_39 : decode cX8_arc 39 = .ok (.bipush (-2), 2) := by decide +kernel
theorem dX8_arc_41 : decode cX8_arc 41 = .ok (.ireturn, 1) := by decide +kernel
theorem dX8_arc_42 : decode cX8_arc 42 = .ok (.aload_n 0, 1) := by decide +kernel
theorem dX8_arc_43 : decode cX8_arc 43 = .ok (.getfield 12, 3) := by decide +kernel
theorem dX8_arc_46 : decode cX8_arc 46 = .ok (.getfield 109, 3) := by decide +kernel
theorem dX8_arc_49 : decode cX8_arc 49 = .ok (.bipush 40, 2) := by decide +kernel
theorem dX8_arc_51 : decode cX8_arc 51 = .ok (.if_icmp .lt 6, 3) := by decide +kernel
theorem dX8_arc_54 : decode cX8_arc 54 = .ok (.bipush (-3), 2) := by decide +kernel
theorem dX8_arc_56 : decode cX8_arc 56 = .ok (.ireturn, 1) := by decide +kernel
theorem dX8_arc_57 : decode cX8_arc 57 = .ok (.aload_n 0, 1) := by decide +kernel
theorem dX8_arc_58 : decode cX8_arc 58 = .ok (.getfield 12, 3) := by decide +kernel
theorem dX8_arc_61 : decode cX8_arc 61 = .ok (.iload_n 1, 1) := by decide +kernel
theorem dX8_arc_62 : decode cX8_arc 62 = .ok (.iload_n 2, 1) := by decide +kernel
theorem dX8_arc_63 : decode cX8_arc 63 = .ok (.iload_n 3, 1) := by decide +kernel
theorem dX8_arc_64 : decode cX8_arc 64 = .ok (.invokevirtual 112, 3) := by decide +kernel
theorem dX8_arc_67 : decode cX8_arc 67 = .ok (.ireturn, 1) := by decide +kernel
theorem dX8_kind_0 : decode cX8_kind 0 = .ok (.iload_n 1, 1) := by decide +kernel
theorem dX8_kind_1 : decode cX8_kind 1 = .ok (.ifCond .lt 8, 3) := by decide +kernel
theorem dX8_kind_4 : decode cX8_kind 4 = .ok (.iload_n 1, 1) := by decide +kernel
theorem dX8_kind_5 : decode cX8_kind 5 = .ok (.iconst 3, 1) := by decide +kernel
theorem dX8_kind_6 : decode cX8_kind 6 = .ok (.if_icmp .le 5, 3) := by decide +kernel
theorem dX8_kind_9 : decode cX8_kind 9 = .ok (.iconst (-1), 1) := by decide +kernel
theorem dX8_kind_10 : decode cX8_kind 10 = .ok (.ireturn, 1) := by decide +kernel
theorem dX8_kind_11 : decode cX8_kind 11 = .ok (.aload_n 0, 1) := by decide +kernel
theorem dX8_kind_12 : decode cX8_kind 12 = .ok (.getfield 85, 3) := by decide +kernel
theorem dX8_kind_15 : decode cX8_kind 15 = .ok (.ifCond .eq 6, 3) := by decide +kernel
theorem dX8_kind_18 : decode cX8_kind 18 = .ok (.bipush (-2), 2) := by decide +kernel
theorem dX8_kind_20 : decode cX8_kind 20 = .ok (.ireturn, 1) := by decide +kernel
theorem dX8_kind_21 : decode cX8_kind 21 = .ok (.aload_n 0, 1) := by decide +kernel
theorem dX8_kind_22 : decode cX8_kind 22 = .ok (.getfield 12, 3) := by decide +kernel
theorem dX8_kind_25 : decode cX8_kind 25 = .ok (.getfield 116, 3) := by decide +kernel
theorem dX8_kind_28 : decode cX8_kind 28 = .ok (.istore_n 2, 1) := by decide +kernel
theorem dX8_kind_29 : decode cX8_kind 29 = .ok (.aload_n 0, 1) := by decide +kernel
theorem dX8_kind_30 : decode cX8_kind 30 = .ok (.getfield 12, 3) := by decide +kernel
theorem dX8_kind_33 : decode cX8_kind 33 = .ok (.iload_n 1, 1) := by decide +kernel
theorem dX8_kind_34 : decode cX8_kind 34 = .ok (.putfield 116, 3) := by decide +kernel
theorem dX8_kind_37 : decode cX8_kind 37 = .ok (.aload_n 0, 1) := by decide +kernel
theorem dX8_kind_38 : decode cX8_kind 38 = .ok (.iconst 0, 1) := by decide +kernel
theorem dX8_kind_39 : decode cX8_kind 39 = .ok (.putfield 81, 3) := by decide +kernel
theorem dX8_kind_42 : decode cX8_kind 42 = .ok (.iload_n 2, 1) := by decide +kernel
theorem dX8_kind_43 : decode cX8_kind 43 = .ok (.ireturn, 1) := by decide +kernel
theorem dX8_joined_0 : decode cX8_joined 0 = .ok (.iload_n 1, 1) := by decide +kernel
theorem dX8_joined_1 : decode cX8_joined 1 = .ok (.ifCond .eq 17, 3) := by decide +kernel
theorem dX8_joined_4 : decode cX8_joined 4 = .ok (.aload_n 0, 1) := by decide +kernel
theorem dX8_joined_5 : decode cX8_joined 5 = .ok (.getfield 12, 3) := by decide +kernel
theorem dX8_joined_8 : decode cX8_joined 8 = .ok (.getfield 116, 3) := by decide +kernel
theorem dX8_joined_11 : decode cX8_joined 11 = .ok (.iconst 3, 1) := by decide +kernel
theorem dX8_joined_12 : decode cX8_joined 12 = .ok (.if_icmp .ne 6, 3) := by decide +kernel
theorem dX8_joined_15 : decode cX8_joined 15 = .ok (.bipush (-2), 2) := by decide +kernel
theorem dX8_joined_17 : decode cX8_joined 17 = .ok (.ireturn, 1) := by decide +kernel
theorem dX8_joined_18 : decode cX8_joined 18 = .ok (.aload_n 0, 1) := by decide +kernel
theorem dX8_joined_19 : decode cX8_joined 19 = .ok (.getfield 81, 3) := by decide +kernel
theorem dX8_joined_22 : decode cX8_joined 22 = .ok (.ifCond .eq 7, 3) := by decide +kernel
theorem dX8_joined_25 : decode cX8_joined 25 = .ok (.iconst 1, 1) := by decide +kernel
theorem dX8_joined_26 : decode cX8_joined 26 = .ok (.goto 4, 3) := by decide +kernel
theorem dX8_joined_29 : decode cX8_joined 29 = .ok (.iconst 0, 1) := by decide +kernel
theorem dX8_joined_30 : decode cX8_joined 30 = .ok (.istore_n 2, 1) := by decide +kernel
theorem dX8_joined_31 : decode cX8_joined 31 = .ok (.aload_n 0, 1) := by decide +kernel
theorem dX8_joined_32 : decode cX8_joined 32 = .ok (.iload_n 1, 1) := by decide +kernel
theorem dX8_joined_33 : decode cX8_joined 33 = .ok (.putfield 81, 3) := by decide +kernel
theorem dX8_joined_36 : decode cX8_joined 36 = .ok (.iload_n 2, 1) := by decide +kernel
theorem dX8_joined_37 : decode cX8_joined 37 = .ok (.ireturn, 1) := by decide +kernel
theorem dX8_every_0 : decode cX8_every 0 = .ok (.iload_n 1, 1) := by decide +kernel
theorem dX8_every_1 : decode cX8_every 1 = .ok (.ifCond .lt 9, 3) := by decide +kernel
theorem dX8_every_4 : decode cX8_every 4 = .ok (.iload_n 1, 1) := by decide +kernel
theorem dX8_every_5 : decode cX8_every 5 = .ok (.bipush 50, 2) := by decide +kernel
theorem dX8_every_7 : decode cX8_every 7 = .ok (.if_icmp .le 5, 3) := by decide +kernel
theorem dX8_every_10 : decode cX8_every 10 = .ok (.iconst (-1), 1) := by decide +kernel
theorem dX8_every_11 : decode cX8_every 11 = .ok (.ireturn, 1) := by decide +kernel
theorem dX8_every_12 : decode cX8_every 12 = .ok (.aload_n 0, 1) := by decide +kernel
theorem dX8_every_13 : decode cX8_every 13 = .ok (.getfield 85, 3) := by decide +kernel
theorem dX8_every_16 : decode cX8_every 16 = .ok (.ifCond .eq 6, 3) := by decide +kernel
theorem dX8_every_19 : decode cX8_every 19 = .ok (.bipush (-2), 2) := by decide +kernel
theorem dX8_every_21 : decode cX8_every 21 = .ok (.ireturn, 1) := by decide +kernel
theorem dX8_every_22 : decode cX8_every 22 = .ok (.aload_n 0, 1) := by decide +kernel
theorem dX8_every_23 : decode cX8_every 23 = .ok (.getfield 78, 3) := by decide +kernel
theorem dX8_every_26 : decode cX8_every 26 = .ok (.istore_n 2, 1) := by decide +kernel
theorem dX8_every_27 : decode cX8_every 27 = .ok (.aload_n 0, 1) := by decide +kernel
theorem dX8_every_28 : decode cX8_every 28 = .ok (.iload_n 1, 1) := by decide +kernel
theorem dX8_every_29 : decode cX8_every 29 = .ok (.putfield 78, 3) := by decide +kernel
theorem dX8_every_32 : decode cX8_every 32 = .ok (.iload_n 2, 1) := by decide +kernel
theorem dX8_every_33 : decode cX8_every 33 = .ok (.ireturn, 1) := by decide +kernel
theorem dX8_start_0 : decode cX8_start 0 = .ok (.aload_n 0, 1) := by decide +kernel
theorem dX8_start_1 : decode cX8_start 1 = .ok (.getfield 85, 3) := by decide +kernel
theorem dX8_start_4 : decode cX8_start 4 = .ok (.ifCond .eq 6, 3) := by decide +kernel
theorem dX8_start_7 : decode cX8_start 7 = .ok (.bipush (-2), 2) := by decide +kernel
theorem dX8_start_9 : decode cX8_start 9 = .ok (.ireturn, 1) := by decide +kernel
theorem dX8_start_10 : decode cX8_start 10 = .ok (.aload_n 0, 1) := by decide +kernel
theorem dX8_start_11 : decode cX8_start 11 = .ok (.iconst 1, 1) := by decide +kernel
theorem dX8_start_12 : decode cX8_start 12 = .ok (.putfield 85, 3) := by decide +kernel
theorem dX8_start_15 : decode cX8_start 15 = .ok (.iconst 0, 1) := by decide +kernel
theorem dX8_start_16 : decode cX8_start 16 = .ok (.istore_n 1, 1) := by decide +kernel
theorem dX8_start_17 : decode cX8_start 17 = .ok (.iload_n 1, 1) := by decide +kernel
theorem dX8_start_18 : decode cX8_start 18 = .ok (.aload_n 0, 1) := by decide +kernel
theorem dX8_start_19 : decode cX8_start 19 = .ok (.getfield 60, 3) := by decide +kernel
theorem dX8_start_22 : decode cX8_start 22 = .ok (.if_icmp .ge 15, 3) := by decide +kernel
theorem dX8_start_25 : decode cX8_start 25 = .ok (.aload_n 0, 1) := by decide +kernel
theorem dX8_start_26 : decode cX8_start 26 = .ok (.iload_n 1, 1) := by decide +kernel
theorem dX8_start_27 : decode cX8_start 27 = .ok (.iconst 0, 1) := by decide +kernel
theorem dX8_start_28 : decode cX8_start 28 = .ok (.invokevirtual 119, 3) := by decide +kernel
theorem dX8_start_31 : decode cX8_start 31 = .ok (.iinc 1 1, 3) := by decide +kernel
theorem dX8_start_34 : decode cX8_start 34 = .ok (.goto (-17), 3) := by decide +kernel
theorem dX8_start_37 : decode cX8_start 37 = .ok (.aload_n 0, 1) := by decide +kernel
theorem dX8_start_38 : decode cX8_start 38 = .ok (.getfield 45, 3) := by decide +kernel
theorem dX8_start_41 : decode cX8_start 41 = .ok (.getfield 122, 3) := by decide +kernel
theorem dX8_start_44 : decode cX8_start 44 = .ok (.ireturn, 1) := by decide +kernel
theorem dX8_letter_0 : decode cX8_letter 0 = .ok (.aload_n 0, 1) := by decide +kernel
theorem dX8_letter_1 : decode cX8_letter 1 = .ok (.getfield 45, 3) := by decide +kernel
theorem dX8_letter_4 : decode cX8_letter 4 = .ok (.iload_n 1, 1) := by decide +kernel
theorem dX8_letter_5 : decode cX8_letter 5 = .ok (.invokevirtual 125, 3) := by decide +kernel
theorem dX8_letter_8 : decode cX8_letter 8 = .ok (.astore_n 3, 1) := by decide +kernel
theorem dX8_letter_9 : decode cX8_letter 9 = .ok (.aload_n 3, 1) := by decide +kernel
theorem dX8_letter_10 : decode cX8_letter 10 = .ok (.ifnonnull 5, 3) := by decide +kernel
theorem dX8_letter_13 : decode cX8_letter 13 = .ok (.iconst (-1), 1) := by decide +kernel
theorem dX8_letter_14 : decode cX8_letter 14 = .ok (.ireturn, 1) := by decide +kernel
theorem dX8_letter_15 : decode cX8_letter 15 = .ok (.iload_n 2, 1) := by decide +kernel
theorem dX8_letter_16 : decode cX8_letter 16 = .ok (.tableswitch 71 0 5 #[40, 45, 50, 55, 60, 66], 40) := by decide +kernel
theorem dX8_letter_56 : decode cX8_letter 56 = .ok (.aload_n 3, 1) := by decide +kernel
theorem dX8_letter_57 : decode cX8_letter 57 = .ok (.getfield 129, 3) := by decide +kernel
theorem dX8_letter_60 : decode cX8_letter 60 = .ok (.ireturn, 1) := by decide +kernel
theorem dX8_letter_61 : decode cX8_letter 61 = .ok (.aload_n 3, 1) := by decide +kernel
theorem dX8_letter_62 : decode cX8_letter 62 = .ok (.getfield 134, 3) := by decide +kernel
theorem dX8_letter_65 : decode cX8_letter 65 = .ok (.ireturn, 1) := by decide +kernel
theorem dX8_letter_66 : decode cX8_letter 66 = .ok (.aload_n 3, 1) := by decide +kernel
theorem dX8_letter_67 : decode cX8_letter 67 = .ok (.getfield 137, 3) := by decide +kernel
theorem dX8_letter_70 : decode cX8_letter 70 = .ok (.ireturn, 1) := by decide +kernel
theorem dX8_letter_71 : decode cX8_letter 71 = .ok (.aload_n 3, 1) := by decide +kernel
theorem dX8_letter_72 : decode cX8_letter 72 = .ok (.getfield 140, 3) := by decide +kernel
theorem dX8_letter_75 : decode cX8_letter 75 = .ok (.ireturn, 1) := by decide +kernel
theorem dX8_letter_76 : decode cX8_letter 76 = .ok (.aload_n 3, 1) := by decide +kernel
theorem dX8_letter_77 : decode cX8_letter 77 = .ok (.getfield 141, 3) := by decide +kernel
theorem dX8_letter_80 : decode cX8_letter 80 = .ok (.arraylength, 1) := by decide +kernel
theorem dX8_letter_81 : decode cX8_letter 81 = .ok (.ireturn, 1) := by decide +kernel
theorem dX8_letter_82 : decode cX8_letter 82 = .ok (.aload_n 3, 1) := by decide +kernel
theorem dX8_letter_83 : decode cX8_letter 83 = .ok (.getfield 144, 3) := by decide +kernel
theorem dX8_letter_86 : decode cX8_letter 86 = .ok (.ireturn, 1) := by decide +kernel
theorem dX8_letter_87 : decode cX8_letter 87 = .ok (.iconst (-1), 1) := by decide +kernel
theorem dX8_letter_88 : decode cX8_letter 88 = .ok (.ireturn, 1) := by decide +kernel
theorem dX8_entry_0 : decode cX8_entry 0 = .ok (.aload_n 0, 1) := by decide +kernel
theorem dX8_entry_1 : decode cX8_entry 1 = .ok (.getfield 45, 3) := by decide +kernel
theorem dX8_entry_4 : decode cX8_entry 4 = .ok (.iload_n 1, 1) := by decide +kernel
theorem dX8_entry_5 : decode cX8_entry 5 = .ok (.invokevirtual 125, 3) := by decide +kernel
theorem dX8_entry_8 : decode cX8_entry 8 = .ok (.astore 4, 2) := by decide +kernel
theorem dX8_entry_10 : decode cX8_entry 10 = .ok (.aload 4, 2) := by decide +kernel
theorem dX8_entry_12 : decode cX8_entry 12 = .ok (.ifnull 17, 3) := by decide +kernel
theorem dX8_entry_15 : decode cX8_entry 15 = .ok (.iload_n 2, 1) := by decide +kernel
theorem dX8_entry_16 : decode cX8_entry 16 = .ok (.ifCond .lt 13, 3) := by decide +kernel
theorem dX8_entry_19 : decode cX8_entry 19 = .ok (.iload_n 2, 1) := by decide +kernel
theorem dX8_entry_20 : decode cX8_entry 20 = .ok (.aload 4, 2) := by decide +kernel
theorem dX8_entry_22 : decode cX8_entry 22 = .ok (.getfield 141, 3) := by decide +kernel
theorem dX8_entry_25 : decode cX8_entry 25 = .ok (.arraylength, 1) := by decide +kernel
theorem dX8_entry_26 : decode cX8_entry 26 = .ok (.if_icmp .lt 7, 3) := by decide +kernel
theorem dX8_entry_29 : decode cX8_entry 29 = .ok (.ldc2_w 147, 3) := by decide +kernel
theorem dX8_entry_32 : decode cX8_entry 32 = .ok (.lreturn, 1) := by decide +kernel
theorem dX8_entry_33 : decode cX8_entry 33 = .ok (.iload_n 3, 1) := by decide +kernel
theorem dX8_entry_34 : decode cX8_entry 34 = .ok (.lookupswitch 44 #[(0, 26), (1, 35)], 26) := by decide +kernel
theorem dX8_entry_60 : decode cX8_entry 60 = .ok (.aload 4, 2) := by decide +kernel
theorem dX8_entry_62 : decode cX8_entry 62 = .ok (.getfield 141, 3) := by decide +kernel
theorem dX8_entry_65 : decode cX8_entry 65 = .ok (.iload_n 2, 1) := by decide +kernel
theorem dX8_entry_66 : decode cX8_entry 66 = .ok (.iaload, 1) := by decide +kernel
theorem dX8_entry_67 : decode cX8_entry 67 = .ok (.i2l, 1) := by decide +kernel
theorem dX8_entry_68 : decode cX8_entry 68 = .ok (.lreturn, 1) := by decide +kernel
theorem dX8_entry_69 : decode cX8_entry 69 = .ok (.aload 4, 2) := by decide +kernel
theorem dX8_entry_71 : decode cX8_entry 71 = .ok (.getfield 149, 3) := by decide +kernel
theorem dX8_entry_74 : decode cX8_entry 74 = .ok (.iload_n 2, 1) := by decide +kernel
theorem dX8_entry_75 : decode cX8_entry 75 = .ok (.iaload, 1) := by decide +kernel
theorem dX8_entry_76 : decode cX8_entry 76 = .ok (.i2l, 1) := by decide +kernel
theorem dX8_entry_77 : decode cX8_entry 77 = .ok (.lreturn, 1) := by decide +kernel
theorem dX8_entry_78 : decode cX8_entry 78 = .ok (.ldc2_w 147, 3) := by decide +kernel
theorem dX8_entry_81 : decode cX8_entry 81 = .ok (.lreturn, 1) := by decide +kernel
theorem dX8_deliver_0 : decode cX8_deliver 0 = .ok (.aload_n 0, 1) := by decide +kernel
theorem dX8_deliver_1 : decode cX8_deliver 1 = .ok (.getfield 45, 3) := by decide +kernel
theorem dX8_deliver_4 : decode cX8_deliver 4 = .ok (.iload_n 1, 1) := by decide +kernel
theorem dX8_deliver_5 : decode cX8_deliver 5 = .ok (.invokevirtual 125, 3) := by decide +kernel
theorem dX8_deliver_8 : decode cX8_deliver 8 = .ok (.astore_n 2, 1) := by decide +kernel
theorem dX8_deliver_9 : decode cX8_deliver 9 = .ok (.aload_n 2, 1) := by decide +kernel
theorem dX8_deliver_10 : decode cX8_deliver 10 = .ok (.ifnonnull 5, 3) := by decide +kernel
theorem dX8_deliver_13 : decode cX8_deliver 13 = .ok (.iconst (-1), 1) := by decide +kernel
theorem dX8_deliver_14 : decode cX8_deliver 14 = .ok (.ireturn, 1) := by decide +kernel
theorem dX8_deliver_15 : decode cX8_deliver 15 = .ok (.aload_n 0, 1) := by decide +kernel
theorem dX8_deliver_16 : decode cX8_deliver 16 = .ok (.getfield 45, 3) := by decide +kernel
theorem dX8_deliver_19 : decode cX8_deliver 19 = .ok (.iload_n 1, 1) := by decide +kernel
theorem dX8_deliver_20 : decode cX8_deliver 20 = .ok (.invokevirtual 152, 3) := by decide +kernel
theorem dX8_deliver_23 : decode cX8_deliver 23 = .ok (.aload_n 0, 1) := by decide +kernel
theorem dX8_deliver_24 : decode cX8_deliver 24 = .ok (.aload_n 2, 1) := by decide +kernel
theorem dX8_deliver_25 : decode cX8_deliver 25 = .ok (.invokevirtual 156, 3) := by decide +kernel
theorem dX8_deliver_28 : decode cX8_deliver 28 = .ok (.istore_n 3, 1) := by decide +kernel
theorem dX8_deliver_29 : decode cX8_deliver 29 = .ok (.aload_n 0, 1) := by decide +kernel
theorem dX8_deliver_30 : decode cX8_deliver 30 = .ok (.getfield 55, 3) := by decide +kernel
theorem dX8_deliver_33 : decode cX8_deliver 33 = .ok (.iload_n 3, 1) := by decide +kernel
theorem dX8_deliver_34 : decode cX8_deliver 34 = .ok (.dup2, 1) := by decide +kernel
theorem dX8_deliver_35 : decode cX8_deliver 35 = .ok (.iaload, 1) := by decide +kernel
theorem dX8_deliver_36 : decode cX8_deliver 36 = .ok (.iconst 1, 1) := by decide +kernel
theorem dX8_deliver_37 : decode cX8_deliver 37 = .ok (.iadd, 1) := by decide +kernel
theorem dX8_deliver_38 : decode cX8_deliver 38 = .ok (.iastore, 1) := by decide +kernel
theorem dX8_deliver_39 : decode cX8_deliver 39 = .ok (.iload_n 3, 1) := by decide +kernel
theorem dX8_deliver_40 : decode cX8_deliver 40 = .ok (.ifCond .ne 54, 3) := by decide +kernel
theorem dX8_deliver_43 : decode cX8_deliver 43 = .ok (.aload_n 0, 1) := by decide +kernel
theorem dX8_deliver_44 : decode cX8_deliver 44 = .ok (.getfield 51, 3) := by decide +kernel
theorem dX8_deliver_47 : decode cX8_deliver 47 = .ok (.aload_n 2, 1) := by decide +kernel
theorem dX8_deliver_48 : decode cX8_deliver 48 = .ok (.getfield 134, 3) := by decide +kernel
theorem dX8_deliver_51 : decode cX8_deliver 51 = .ok (.aaload, 1) := by decide +kernel
theorem dX8_deliver_52 : decode cX8_deliver 52 = .ok (.astore 4, 2) := by decide +kernel
theorem dX8_deliver_54 : decode cX8_deliver 54 = .ok (.aload 4, 2) := by decide +kernel
theorem dX8_deliver_56 : decode cX8_deliver 56 = .ok (.aload_n 2, 1) := by decide +kernel
theorem dX8_deliver_57 : decode cX8_deliver 57 = .ok (.invokevirtual 160, 3) := by decide +kernel
theorem dX8_deliver_60 : decode cX8_deliver 60 = .ok (.iconst 0, 1) := by decide +kernel
theorem dX8_deliver_61 : decode cX8_deliver 61 = .ok (.istore 5, 2) := by decide +kernel
theorem dX8_deliver_63 : decode cX8_deliver 63 = .ok (.iload 5, 2) := by decide +kernel
theorem dX8_deliver_65 : decode cX8_deliver 65 = .ok (.sipush 200, 3) := by decide +kernel
theorem dX8_deliver_68 : decode cX8_deliver 68 = .ok (.if_icmp .gt 26, 3) := by decide +kernel
theorem dX8_deliver_71 : decode cX8_deliver 71 = .ok (.aload_n 0, 1) := by decide +kernel
theorem dX8_deliver_72 : decode cX8_deliver 72 = .ok (.aload 4, 2) := by decide +kernel
theorem dX8_deliver_74 : decode cX8_deliver 74 = .ok (.invokevirtual 164, 3) := by decide +kernel
theorem dX8_deliver_77 : decode cX8_deliver 77 = .ok (.ifCond .eq 17, 3) := by decide +kernel
theorem dX8_deliver_80 : decode cX8_deliver 80 = .ok (.aload_n 0, 1) := by decide +kernel
theorem dX8_deliver_81 : decode cX8_deliver 81 = .ok (.aload_n 2, 1) := by decide +kernel
theorem dX8_deliver_82 : decode cX8_deliver 82 = .ok (.getfield 134, 3) := by decide +kernel
theorem dX8_deliver_85 : decode cX8_deliver 85 = .ok (.invokevirtual 168, 3) := by decide +kernel
theorem dX8_deliver_88 : decode cX8_deliver 88 = .ok (.iinc 5 1, 3) := by decide +kernel
theorem dX8_deliver_91 : decode cX8_deliver 91 = .ok (.goto (-28), 3) := by decide +kernel
theorem dX8_deliver_94 : decode cX8_deliver 94 = .ok (.iload_n 3, 1) := by decide +kernel
theorem dX8_deliver_95 : decode cX8_deliver 95 = .ok (.ireturn, 1) := by decide +kernel
theorem dX8_lose_0 : decode cX8_lose 0 = .ok (.aload_n 0, 1) := by decide +kernel
theorem dX8_lose_1 : decode cX8_lose 1 = .ok (.getfield 45, 3) := by decide +kernel
theorem dX8_lose_4 : decode cX8_lose 4 = .ok (.iload_n 1, 1) := by decide +kernel
theorem dX8_lose_5 : decode cX8_lose 5 = .ok (.invokevirtual 125, 3) := by decide +kernel
theorem dX8_lose_8 : decode cX8_lose 8 = .ok (.ifnonnull 5, 3) := by decide +kernel
theorem dX8_lose_11 : decode cX8_lose 11 = .ok (.iconst (-1), 1) := by decide +kernel
theorem dX8_lose_12 : decode cX8_lose 12 = .ok (.ireturn, 1) := by decide +kernel
theorem dX8_lose_13 : decode cX8_lose 13 = .ok (.aload_n 0, 1) := by decide +kernel
theorem dX8_lose_14 : decode cX8_lose 14 = .ok (.getfield 45, 3) := by decide +kernel
theorem dX8_lose_17 : decode cX8_lose 17 = .ok (.iload_n 1, 1) := by decide +kernel
theorem dX8_lose_18 : decode cX8_lose 18 = .ok (.invokevirtual 152, 3) := by decide +kernel
theorem dX8_lose_21 : decode cX8_lose 21 = .ok (.aload_n 0, 1) := by decide +kernel
theorem dX8_lose_22 : decode cX8_lose 22 = .ok (.getfield 45, 3) := by decide +kernel
theorem dX8_lose_25 : decode cX8_lose 25 = .ok (.getfield 122, 3) := by decide +kernel
theorem dX8_lose_28 : decode cX8_lose 28 = .ok (.ireturn, 1) := by decide +kernel
theorem dX8_copy_0 : decode cX8_copy 0 = .ok (.aload_n 0, 1) := by decide +kernel
theorem dX8_copy_1 : decode cX8_copy 1 = .ok (.getfield 45, 3) := by decide +kernel
theorem dX8_copy_4 : decode cX8_copy 4 = .ok (.iload_n 1, 1) := by decide +kernel
theorem dX8_copy_5 : decode cX8_copy 5 = .ok (.invokevirtual 125, 3) := by decide +kernel
theorem dX8_copy_8 : decode cX8_copy 8 = .ok (.astore_n 2, 1) := by decide +kernel
theorem dX8_copy_9 : decode cX8_copy 9 = .ok (.aload_n 2, 1) := by decide +kernel
theorem dX8_copy_10 : decode cX8_copy 10 = .ok (.ifnonnull 5, 3) := by decide +kernel
theorem dX8_copy_13 : decode cX8_copy 13 = .ok (.iconst (-1), 1) := by decide +kernel
theorem dX8_copy_14 : decode cX8_copy 14 = .ok (.ireturn, 1) := by decide +kernel
theorem dX8_copy_15 : decode cX8_copy 15 = .ok (.aload_n 0, 1) := by decide +kernel
theorem dX8_copy_16 : decode cX8_copy 16 = .ok (.getfield 45, 3) := by decide +kernel
theorem dX8_copy_19 : decode cX8_copy 19 = .ok (.aload_n 2, 1) := by decide +kernel
theorem dX8_copy_20 : decode cX8_copy 20 = .ok (.invokevirtual 171, 3) := by decide +kernel
theorem dX8_copy_23 : decode cX8_copy 23 = .ok (.ifCond .eq 13, 3) := by decide +kernel
theorem dX8_copy_26 : decode cX8_copy 26 = .ok (.aload_n 0, 1) := by decide +kernel
theorem dX8_copy_27 : decode cX8_copy 27 = .ok (.getfield 45, 3) := by decide +kernel
theorem dX8_copy_30 : decode cX8_copy 30 = .ok (.getfield 122, 3) := by decide +kernel
theorem dX8_copy_33 : decode cX8_copy 33 = .ok (.goto 5, 3) := by decide +kernel
theorem dX8_copy_36 : decode cX8_copy 36 = .ok (.bipush (-3), 2) := by decide +kernel
theorem dX8_copy_38 : decode cX8_copy 38 = .ok (.ireturn, 1) := by decide +kernel
theorem dX8_resend_0 : decode cX8_resend 0 = .ok (.aload_n 0, 1) := by decide +kernel
theorem dX8_resend_1 : decode cX8_resend 1 = .ok (.iload_n 1, 1) := by decide +kernel
theorem dX8_resend_2 : decode cX8_resend 2 = .ok (.invokevirtual 94, 3) := by decide +kernel
theorem dX8_resend_5 : decode cX8_resend 5 = .ok (.ifCond .eq 16, 3) := by decide +kernel
theorem dX8_resend_8 : decode cX8_resend 8 = .ok (.aload_n 0, 1) := by decide +kernel
theorem dX8_resend_9 : decode cX8_resend 9 = .ok (.iload_n 2, 1) := by decide +kernel
theorem dX8_resend_10 : decode cX8_resend 10 = .ok (.invokevirtual 94, 3) := by decide +kernel
theorem dX8_resend_13 : decode cX8_resend 13 = .ok (.ifCond .eq 8, 3) := by decide +kernel
theorem dX8_resend_16 : decode cX8_resend 16 = .ok (.iload_n 1, 1) := by decide +kernel
theorem dX8_resend_17 : decode cX8_resend 17 = .ok (.iload_n 2, 1) := by decide +kernel
theorem dX8_resend_18 : decode cX8_resend 18 = .ok (.if_icmp .ne 5, 3) := by decide +kernel
theorem dX8_resend_21 : decode cX8_resend 21 = .ok (.iconst (-1), 1) := by decide +kernel
theorem dX8_resend_22 : decode cX8_resend 22 = .ok (.ireturn, 1) := by decide +kernel
theorem dX8_resend_23 : decode cX8_resend 23 = .ok (.aload_n 0, 1) := by decide +kernel
theorem dX8_resend_24 : decode cX8_resend 24 = .ok (.getfield 51, 3) := by decide +kernel
theorem dX8_resend_27 : decode cX8_resend 27 = .ok (.iload_n 1, 1) := by decide +kernel
theorem dX8_resend_28 : decode cX8_resend 28 = .ok (.aaload, 1) := by decide +kernel
theorem dX8_resend_29 : decode cX8_resend 29 = .ok (.astore_n 3, 1) := by decide +kernel
theorem dX8_resend_30 : decode cX8_resend 30 = .ok (.aload_n 0, 1) := by decide +kernel
theorem dX8_resend_31 : decode cX8_resend 31 = .ok (.getfield 85, 3) := by decide +kernel
theorem dX8_resend_34 : decode cX8_resend 34 = .ok (.ifCond .eq 10, 3) := by decide +kernel
theorem dX8_resend_37 : decode cX8_resend 37 = .ok (.aload_n 3, 1) := by decide +kernel
