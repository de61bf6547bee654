theorem dX8_resend_38 : decode cX8_resend 38 = .ok (.getfield 175, 3) := by decide +kernel
theorem dX8_resend_41 : decode cX8_resend 41 = .ok (.ifCond .eq 6, 3) := by decide +kernel
theorem dX8_resend_44 : decode cX8_resend 44 = .ok (.bipush (-2), 2) := by decide +kernel
theorem dX8_resend_46 : decode cX8_resend 46 = .ok (.ireturn, 1) := by decide +kernel
theorem dX8_resend_47 : decode cX8_resend 47 = .ok (.iconst 0, 1) := by decide +kernel
theorem dX8_resend_48 : decode cX8_resend 48 = .ok (.istore 4, 2) := by decide +kernel
theorem dX8_resend_50 : decode cX8_resend 50 = .ok (.aload_n 3, 1) := by decide +kernel
theorem dX8_resend_51 : decode cX8_resend 51 = .ok (.getfield 178, 3) := by decide +kernel
theorem dX8_resend_54 : decode cX8_resend 54 = .ok (.iconst 1, 1) := by decide +kernel
theorem dX8_resend_55 : decode cX8_resend 55 = .ok (.isub, 1) := by decide +kernel
theorem dX8_resend_56 : decode cX8_resend 56 = .ok (.istore 5, 2) := by decide +kernel
theorem dX8_resend_58 : decode cX8_resend 58 = .ok (.iload 5, 2) := by decide +kernel
theorem dX8_resend_60 : decode cX8_resend 60 = .ok (.aload_n 3, 1) := by decide +kernel
theorem dX8_resend_61 : decode cX8_resend 61 = .ok (.getfield 178, 3) := by decide +kernel
theorem dX8_resend_64 : decode cX8_resend 64 = .ok (.if_icmp .gt 38, 3) := by decide +kernel
theorem dX8_resend_67 : decode cX8_resend 67 = .ok (.aload_n 3, 1) := by decide +kernel
theorem dX8_resend_68 : decode cX8_resend 68 = .ok (.iload_n 2, 1) := by decide +kernel
theorem dX8_resend_69 : decode cX8_resend 69 = .ok (.iload 5, 2) := by decide +kernel
theorem dX8_resend_71 : decode cX8_resend 71 = .ok (.invokevirtual 179, 3) := by decide +kernel
theorem dX8_resend_74 : decode cX8_resend 74 = .ok (.astore 6, 2) := by decide +kernel
theorem dX8_resend_76 : decode cX8_resend 76 = .ok (.aload 6, 2) := by decide +kernel
theorem dX8_resend_78 : decode cX8_resend 78 = .ok (.ifnull 18, 3) := by decide +kernel
theorem dX8_resend_81 : decode cX8_resend 81 = .ok (.aload_n 0, 1) := by decide +kernel
theorem dX8_resend_82 : decode cX8_resend 82 = .ok (.getfield 45, 3) := by decide +kernel
theorem dX8_resend_85 : decode cX8_resend 85 = .ok (.aload 6, 2) := by decide +kernel
theorem dX8_resend_87 : decode cX8_resend 87 = .ok (.invokevirtual 171, 3) := by decide +kernel
theorem dX8_resend_90 : decode cX8_resend 90 = .ok (.ifCond .eq 6, 3) := by decide +kernel
theorem dX8_resend_93 : decode cX8_resend 93 = .ok (.iinc 4 1, 3) := by decide +kernel
theorem dX8_resend_96 : decode cX8_resend 96 = .ok (.iinc 5 1, 3) := by decide +kernel
theorem dX8_resend_99 : decode cX8_resend 99 = .ok (.goto (-41), 3) := by decide +kernel
theorem dX8_resend_102 : decode cX8_resend 102 = .ok (.iload 4, 2) := by decide +kernel
theorem dX8_resend_104 : decode cX8_resend 104 = .ok (.ireturn, 1) := by decide +kernel
theorem dX8_crash_0 : decode cX8_crash 0 = .ok (.aload_n 0, 1) := by decide +kernel
theorem dX8_crash_1 : decode cX8_crash 1 = .ok (.iload_n 1, 1) := by decide +kernel
theorem dX8_crash_2 : decode cX8_crash 2 = .ok (.invokevirtual 94, 3) := by decide +kernel
theorem dX8_crash_5 : decode cX8_crash 5 = .ok (.ifCond .ne 5, 3) := by decide +kernel
theorem dX8_crash_8 : decode cX8_crash 8 = .ok (.iconst (-1), 1) := by decide +kernel
theorem dX8_crash_9 : decode cX8_crash 9 = .ok (.ireturn, 1) := by decide +kernel
theorem dX8_crash_10 : decode cX8_crash 10 = .ok (.aload_n 0, 1) := by decide +kernel
theorem dX8_crash_11 : decode cX8_crash 11 = .ok (.getfield 85, 3) := by decide +kernel
theorem dX8_crash_14 : decode cX8_crash 14 = .ok (.ifCond .eq 15, 3) := by decide +kernel
theorem dX8_crash_17 : decode cX8_crash 17 = .ok (.aload_n 0, 1) := by decide +kernel
theorem dX8_crash_18 : decode cX8_crash 18 = .ok (.getfield 51, 3) := by decide +kernel
theorem dX8_crash_21 : decode cX8_crash 21 = .ok (.iload_n 1, 1) := by decide +kernel
theorem dX8_crash_22 : decode cX8_crash 22 = .ok (.aaload, 1) := by decide +kernel
theorem dX8_crash_23 : decode cX8_crash 23 = .ok (.getfield 175, 3) := by decide +kernel
theorem dX8_crash_26 : decode cX8_crash 26 = .ok (.ifCond .eq 6, 3) := by decide +kernel
theorem dX8_crash_29 : decode cX8_crash 29 = .ok (.bipush (-2), 2) := by decide +kernel
theorem dX8_crash_31 : decode cX8_crash 31 = .ok (.ireturn, 1) := by decide +kernel
theorem dX8_crash_32 : decode cX8_crash 32 = .ok (.aload_n 0, 1) := by decide +kernel
theorem dX8_crash_33 : decode cX8_crash 33 = .ok (.getfield 51, 3) := by decide +kernel
theorem dX8_crash_36 : decode cX8_crash 36 = .ok (.iload_n 1, 1) := by decide +kernel
theorem dX8_crash_37 : decode cX8_crash 37 = .ok (.aaload, 1) := by decide +kernel
theorem dX8_crash_38 : decode cX8_crash 38 = .ok (.invokevirtual 183, 3) := by decide +kernel
theorem dX8_crash_41 : decode cX8_crash 41 = .ok (.iconst 1, 1) := by decide +kernel
theorem dX8_crash_42 : decode cX8_crash 42 = .ok (.ireturn, 1) := by decide +kernel
theorem dX8_back_0 : decode cX8_back 0 = .ok (.aload_n 0, 1) := by decide +kernel
theorem dX8_back_1 : decode cX8_back 1 = .ok (.getfield 85, 3) := by decide +kernel
theorem dX8_back_4 : decode cX8_back 4 = .ok (.ifCond .eq 10, 3) := by decide +kernel
theorem dX8_back_7 : decode cX8_back 7 = .ok (.aload_n 0, 1) := by decide +kernel
theorem dX8_back_8 : decode cX8_back 8 = .ok (.invokevirtual 186, 3) := by decide +kernel
theorem dX8_back_11 : decode cX8_back 11 = .ok (.ifCond .ne 6, 3) := by decide +kernel
theorem dX8_back_14 : decode cX8_back 14 = .ok (.bipush (-2), 2) := by decide +kernel
theorem dX8_back_16 : decode cX8_back 16 = .ok (.ireturn, 1) := by decide +kernel
theorem dX8_back_17 : decode cX8_back 17 = .ok (.aload_n 0, 1) := by decide +kernel
theorem dX8_back_18 : decode cX8_back 18 = .ok (.invokevirtual 190, 3) := by decide +kernel
theorem dX8_back_21 : decode cX8_back 21 = .ok (.istore_n 1, 1) := by decide +kernel
theorem dX8_back_22 : decode cX8_back 22 = .ok (.aload_n 0, 1) := by decide +kernel
theorem dX8_back_23 : decode cX8_back 23 = .ok (.dup, 1) := by decide +kernel
theorem dX8_back_24 : decode cX8_back 24 = .ok (.getfield 88, 3) := by decide +kernel
theorem dX8_back_27 : decode cX8_back 27 = .ok (.iconst 1, 1) := by decide +kernel
theorem dX8_back_28 : decode cX8_back 28 = .ok (.iadd, 1) := by decide +kernel
theorem dX8_back_29 : decode cX8_back 29 = .ok (.putfield 88, 3) := by decide +kernel
theorem dX8_back_32 : decode cX8_back 32 = .ok (.iconst 0, 1) := by decide +kernel
theorem dX8_back_33 : decode cX8_back 33 = .ok (.istore_n 2, 1) := by decide +kernel
theorem dX8_back_34 : decode cX8_back 34 = .ok (.iload_n 2, 1) := by decide +kernel
theorem dX8_back_35 : decode cX8_back 35 = .ok (.aload_n 0, 1) := by decide +kernel
theorem dX8_back_36 : decode cX8_back 36 = .ok (.getfield 60, 3) := by decide +kernel
theorem dX8_back_39 : decode cX8_back 39 = .ok (.if_icmp .ge 42, 3) := by decide +kernel
theorem dX8_back_42 : decode cX8_back 42 = .ok (.aload_n 0, 1) := by decide +kernel
theorem dX8_back_43 : decode cX8_back 43 = .ok (.getfield 51, 3) := by decide +kernel
theorem dX8_back_46 : decode cX8_back 46 = .ok (.iload_n 2, 1) := by decide +kernel
theorem dX8_back_47 : decode cX8_back 47 = .ok (.aaload, 1) := by decide +kernel
theorem dX8_back_48 : decode cX8_back 48 = .ok (.astore_n 3, 1) := by decide +kernel
theorem dX8_back_49 : decode cX8_back 49 = .ok (.aload_n 3, 1) := by decide +kernel
theorem dX8_back_50 : decode cX8_back 50 = .ok (.iload_n 1, 1) := by decide +kernel
theorem dX8_back_51 : decode cX8_back 51 = .ok (.invokevirtual 194, 3) := by decide +kernel
theorem dX8_back_54 : decode cX8_back 54 = .ok (.aload_n 0, 1) := by decide +kernel
theorem dX8_back_55 : decode cX8_back 55 = .ok (.iload_n 2, 1) := by decide +kernel
theorem dX8_back_56 : decode cX8_back 56 = .ok (.aload_n 3, 1) := by decide +kernel
theorem dX8_back_57 : decode cX8_back 57 = .ok (.getfield 197, 3) := by decide +kernel
theorem dX8_back_60 : decode cX8_back 60 = .ok (.getfield 201, 3) := by decide +kernel
theorem dX8_back_63 : decode cX8_back 63 = .ok (.aload_n 0, 1) := by decide +kernel
theorem dX8_back_64 : decode cX8_back 64 = .ok (.getfield 21, 3) := by decide +kernel
theorem dX8_back_67 : decode cX8_back 67 = .ok (.invokevirtual 204, 3) := by decide +kernel
theorem dX8_back_70 : decode cX8_back 70 = .ok (.aload_n 0, 1) := by decide +kernel
theorem dX8_back_71 : decode cX8_back 71 = .ok (.iload_n 2, 1) := by decide +kernel
theorem dX8_back_72 : decode cX8_back 72 = .ok (.invokevirtual 208, 3) := by decide +kernel
theorem dX8_back_75 : decode cX8_back 75 = .ok (.iinc 2 1, 3) := by decide +kernel
theorem dX8_back_78 : decode cX8_back 78 = .ok (.goto (-44), 3) := by decide +kernel
theorem dX8_back_81 : decode cX8_back 81 = .ok (.iload_n 1, 1) := by decide +kernel
theorem dX8_back_82 : decode cX8_back 82 = .ok (.ireturn, 1) := by decide +kernel
theorem dX8_move_0 : decode cX8_move 0 = .ok (.aload_n 0, 1) := by decide +kernel
theorem dX8_move_1 : decode cX8_move 1 = .ok (.iload_n 1, 1) := by decide +kernel
theorem dX8_move_2 : decode cX8_move 2 = .ok (.invokevirtual 106, 3) := by decide +kernel
theorem dX8_move_5 : decode cX8_move 5 = .ok (.ifCond .eq 11, 3) := by decide +kernel
theorem dX8_move_8 : decode cX8_move 8 = .ok (.aload_n 0, 1) := by decide +kernel
theorem dX8_move_9 : decode cX8_move 9 = .ok (.iload_n 2, 1) := by decide +kernel
theorem dX8_move_10 : decode cX8_move 10 = .ok (.invokevirtual 94, 3) := by decide +kernel
theorem dX8_move_13 : decode cX8_move 13 = .ok (.ifCond .ne 5, 3) := by decide +kernel
theorem dX8_move_16 : decode cX8_move 16 = .ok (.iconst (-1), 1) := by decide +kernel
theorem dX8_move_17 : decode cX8_move 17 = .ok (.ireturn, 1) := by decide +kernel
theorem dX8_move_18 : decode cX8_move 18 = .ok (.aload_n 0, 1) := by decide +kernel
theorem dX8_move_19 : decode cX8_move 19 = .ok (.getfield 85, 3) := by decide +kernel
theorem dX8_move_22 : decode cX8_move 22 = .ok (.ifCond .eq 10, 3) := by decide +kernel
theorem dX8_move_25 : decode cX8_move 25 = .ok (.aload_n 0, 1) := by decide +kernel
theorem dX8_move_26 : decode cX8_move 26 = .ok (.invokevirtual 211, 3) := by decide +kernel
theorem dX8_move_29 : decode cX8_move 29 = .ok (.ifCond .ne 6, 3) := by decide +kernel
theorem dX8_move_32 : decode cX8_move 32 = .ok (.bipush (-2), 2) := by decide +kernel
theorem dX8_move_34 : decode cX8_move 34 = .ok (.ireturn, 1) := by decide +kernel
theorem dX8_move_35 : decode cX8_move 35 = .ok (.aload_n 0, 1) := by decide +kernel
theorem dX8_move_36 : decode cX8_move 36 = .ok (.getfield 12, 3) := by decide +kernel
theorem dX8_move_39 : decode cX8_move 39 = .ok (.getfield 214, 3) := by decide +kernel
theorem dX8_move_42 : decode cX8_move 42 = .ok (.iload_n 1, 1) := by decide +kernel
theorem dX8_move_43 : decode cX8_move 43 = .ok (.iaload, 1) := by decide +kernel
theorem dX8_move_44 : decode cX8_move 44 = .ok (.istore_n 3, 1) := by decide +kernel
theorem dX8_move_45 : decode cX8_move 45 = .ok (.aload_n 0, 1) := by decide +kernel
theorem dX8_move_46 : decode cX8_move 46 = .ok (.getfield 12, 3) := by decide +kernel
theorem dX8_move_49 : decode cX8_move 49 = .ok (.getfield 214, 3) := by decide +kernel
theorem dX8_move_52 : decode cX8_move 52 = .ok (.iload_n 1, 1) := by decide +kernel
theorem dX8_move_53 : decode cX8_move 53 = .ok (.iload_n 2, 1) := by decide +kernel
theorem dX8_move_54 : decode cX8_move 54 = .ok (.iastore, 1) := by decide +kernel
theorem dX8_move_55 : decode cX8_move 55 = .ok (.aload_n 0, 1) := by decide +kernel
theorem dX8_move_56 : decode cX8_move 56 = .ok (.dup, 1) := by decide +kernel
theorem dX8_move_57 : decode cX8_move 57 = .ok (.getfield 88, 3) := by decide +kernel
theorem dX8_move_60 : decode cX8_move 60 = .ok (.iconst 1, 1) := by decide +kernel
theorem dX8_move_61 : decode cX8_move 61 = .ok (.iadd, 1) := by decide +kernel
theorem dX8_move_62 : decode cX8_move 62 = .ok (.putfield 88, 3) := by decide +kernel
theorem dX8_move_65 : decode cX8_move 65 = .ok (.iconst 0, 1) := by decide +kernel
theorem dX8_move_66 : decode cX8_move 66 = .ok (.istore 4, 2) := by decide +kernel
theorem dX8_move_68 : decode cX8_move 68 = .ok (.iload 4, 2) := by decide +kernel
theorem dX8_move_70 : decode cX8_move 70 = .ok (.aload_n 0, 1) := by decide +kernel
theorem dX8_move_71 : decode cX8_move 71 = .ok (.getfield 60, 3) := by decide +kernel
theorem dX8_move_74 : decode cX8_move 74 = .ok (.if_icmp .ge 41, 3) := by decide +kernel
theorem dX8_move_77 : decode cX8_move 77 = .ok (.aload_n 0, 1) := by decide +kernel
theorem dX8_move_78 : decode cX8_move 78 = .ok (.getfield 51, 3) := by decide +kernel
theorem dX8_move_81 : decode cX8_move 81 = .ok (.iload 4, 2) := by decide +kernel
theorem dX8_move_83 : decode cX8_move 83 = .ok (.aaload, 1) := by decide +kernel
theorem dX8_move_84 : decode cX8_move 84 = .ok (.invokevirtual 217, 3) := by decide +kernel
theorem dX8_move_87 : decode cX8_move 87 = .ok (.aload_n 0, 1) := by decide +kernel
theorem dX8_move_88 : decode cX8_move 88 = .ok (.getfield 51, 3) := by decide +kernel
theorem dX8_move_91 : decode cX8_move 91 = .ok (.iload 4, 2) := by decide +kernel
theorem dX8_move_93 : decode cX8_move 93 = .ok (.aaload, 1) := by decide +kernel
theorem dX8_move_94 : decode cX8_move 94 = .ok (.invokevirtual 220, 3) := by decide +kernel
theorem dX8_move_97 : decode cX8_move 97 = .ok (.aload_n 0, 1) := by decide +kernel
theorem dX8_move_98 : decode cX8_move 98 = .ok (.iload 4, 2) := by decide +kernel
theorem dX8_move_100 : decode cX8_move 100 = .ok (.invokevirtual 223, 3) := by decide +kernel
theorem dX8_move_103 : decode cX8_move 103 = .ok (.aload_n 0, 1) := by decide +kernel
theorem dX8_move_104 : decode cX8_move 104 = .ok (.iload 4, 2) := by decide +kernel
theorem dX8_move_106 : decode cX8_move 106 = .ok (.invokevirtual 208, 3) := by decide +kernel
theorem dX8_move_109 : decode cX8_move 109 = .ok (.iinc 4 1, 3) := by decide +kernel
theorem dX8_move_112 : decode cX8_move 112 = .ok (.goto (-44), 3) := by decide +kernel
theorem dX8_move_115 : decode cX8_move 115 = .ok (.iload_n 3, 1) := by decide +kernel
theorem dX8_move_116 : decode cX8_move 116 = .ok (.ireturn, 1) := by decide +kernel
theorem dX8_of_0 : decode cX8_of 0 = .ok (.aload_n 0, 1) := by decide +kernel
theorem dX8_of_1 : decode cX8_of 1 = .ok (.iload_n 1, 1) := by decide +kernel
theorem dX8_of_2 : decode cX8_of 2 = .ok (.invokevirtual 106, 3) := by decide +kernel
theorem dX8_of_5 : decode cX8_of 5 = .ok (.ifCond .ne 7, 3) := by decide +kernel
theorem dX8_of_8 : decode cX8_of 8 = .ok (.ldc2_w 147, 3) := by decide +kernel
theorem dX8_of_11 : decode cX8_of 11 = .ok (.lreturn, 1) := by decide +kernel
theorem dX8_of_12 : decode cX8_of 12 = .ok (.aload_n 0, 1) := by decide +kernel
theorem dX8_of_13 : decode cX8_of 13 = .ok (.getfield 12, 3) := by decide +kernel
theorem dX8_of_16 : decode cX8_of 16 = .ok (.getfield 214, 3) := by decide +kernel
theorem dX8_of_19 : decode cX8_of 19 = .ok (.iload_n 1, 1) := by decide +kernel
theorem dX8_of_20 : decode cX8_of 20 = .ok (.iaload, 1) := by decide +kernel
theorem dX8_of_21 : decode cX8_of 21 = .ok (.istore_n 3, 1) := by decide +kernel
theorem dX8_of_22 : decode cX8_of 22 = .ok (.iload_n 2, 1) := by decide +kernel
theorem dX8_of_23 : decode cX8_of 23 = .ok (.iconst 3, 1) := by decide +kernel
theorem dX8_of_24 : decode cX8_of 24 = .ok (.if_icmp .ne 6, 3) := by decide +kernel
theorem dX8_of_27 : decode cX8_of 27 = .ok (.iload_n 3, 1) := by decide +kernel
theorem dX8_of_28 : decode cX8_of 28 = .ok (.i2l, 1) := by decide +kernel
theorem dX8_of_29 : decode cX8_of 29 = .ok (.lreturn, 1) := by decide +kernel
theorem dX8_of_30 : decode cX8_of 30 = .ok (.aload_n 0, 1) := by decide +kernel
theorem dX8_of_31 : decode cX8_of 31 = .ok (.getfield 51, 3) := by decide +kernel
theorem dX8_of_34 : decode cX8_of 34 = .ok (.iload_n 3, 1) := by decide +kernel
theorem dX8_of_35 : decode cX8_of 35 = .ok (.aaload, 1) := by decide +kernel
theorem dX8_of_36 : decode cX8_of 36 = .ok (.getfield 175, 3) := by decide +kernel
theorem dX8_of_39 : decode cX8_of 39 = .ok (.ifCond .eq 9, 3) := by decide +kernel
theorem dX8_of_42 : decode cX8_of 42 = .ok (.ldc2_w 147, 3) := by decide +kernel
theorem dX8_of_45 : decode cX8_of 45 = .ok (.goto 12, 3) := by decide +kernel
theorem dX8_of_48 : decode cX8_of 48 = .ok (.aload_n 0, 1) := by decide +kernel
theorem dX8_of_49 : decode cX8_of 49 = .ok (.getfield 21, 3) := by decide +kernel
theorem dX8_of_52 : decode cX8_of 52 = .ok (.iload_n 1, 1) := by decide +kernel
theorem dX8_of_53 : decode cX8_of 53 = .ok (.iload_n 2, 1) := by decide +kernel
theorem dX8_of_54 : decode cX8_of 54 = .ok (.invokevirtual 226, 3) := by decide +kernel
theorem dX8_of_57 : decode cX8_of 57 = .ok (.lreturn, 1) := by decide +kernel
theorem dX8_alone_0 : decode cX8_alone 0 = .ok (.aload_n 0, 1) := by decide +kernel
theorem dX8_alone_1 : decode cX8_alone 1 = .ok (.iload_n 1, 1) := by decide +kernel
theorem dX8_alone_2 : decode cX8_alone 2 = .ok (.invokevirtual 106, 3) := by decide +kernel
theorem dX8_alone_5 : decode cX8_alone 5 = .ok (.ifCond .eq 14, 3) := by decide +kernel
theorem dX8_alone_8 : decode cX8_alone 8 = .ok (.iload_n 2, 1) := by decide +kernel
theorem dX8_alone_9 : decode cX8_alone 9 = .ok (.ifCond .lt 10, 3) := by decide +kernel
theorem dX8_alone_12 : decode cX8_alone 12 = .ok (.iload_n 2, 1) := by decide +kernel
theorem dX8_alone_13 : decode cX8_alone 13 = .ok (.sipush 200, 3) := by decide +kernel
theorem dX8_alone_16 : decode cX8_alone 16 = .ok (.if_icmp .le 7, 3) := by decide +kernel
theorem dX8_alone_19 : decode cX8_alone 19 = .ok (.ldc2_w 147, 3) := by decide +kernel
theorem dX8_alone_22 : decode cX8_alone 22 = .ok (.lreturn, 1) := by decide +kernel
theorem dX8_alone_23 : decode cX8_alone 23 = .ok (.iconst 0, 1) := by decide +kernel
theorem dX8_alone_24 : decode cX8_alone 24 = .ok (.istore 4, 2) := by decide +kernel
theorem dX8_alone_26 : decode cX8_alone 26 = .ok (.iload 4, 2) := by decide +kernel
theorem dX8_alone_28 : decode cX8_alone 28 = .ok (.aload_n 0, 1) := by decide +kernel
theorem dX8_alone_29 : decode cX8_alone 29 = .ok (.getfield 12, 3) := by decide +kernel
theorem dX8_alone_32 : decode cX8_alone 32 = .ok (.getfield 64, 3) := by decide +kernel
theorem dX8_alone_35 : decode cX8_alone 35 = .ok (.if_icmp .ge 28, 3) := by decide +kernel
theorem dX8_alone_38 : decode cX8_alone 38 = .ok (.aload_n 0, 1) := by decide +kernel
theorem dX8_alone_39 : decode cX8_alone 39 = .ok (.getfield 25, 3) := by decide +kernel
theorem dX8_alone_42 : decode cX8_alone 42 = .ok (.iload 4, 2) := by decide +kernel
theorem dX8_alone_44 : decode cX8_alone 44 = .ok (.aload_n 0, 1) := by decide +kernel
theorem dX8_alone_45 : decode cX8_alone 45 = .ok (.getfield 12, 3) := by decide +kernel
theorem dX8_alone_48 : decode cX8_alone 48 = .ok (.getfield 230, 3) := by decide +kernel
theorem dX8_alone_51 : decode cX8_alone 51 = .ok (.iload 4, 2) := by decide +kernel
theorem dX8_alone_53 : decode cX8_alone 53 = .ok (.iaload, 1) := by decide +kernel
theorem dX8_alone_54 : decode cX8_alone 54 = .ok (.invokevirtual 102, 3) := by decide +kernel
theorem dX8_alone_57 : decode cX8_alone 57 = .ok (.iinc 4 1, 3) := by decide +kernel
theorem dX8_alone_60 : decode cX8_alone 60 = .ok (.goto (-34), 3) := by decide +kernel
theorem dX8_alone_63 : decode cX8_alone 63 = .ok (.iconst 0, 1) := by decide +kernel
theorem dX8_alone_64 : decode cX8_alone 64 = .ok (.istore 4, 2) := by decide +kernel
theorem dX8_alone_66 : decode cX8_alone 66 = .ok (.iload 4, 2) := by decide +kernel
theorem dX8_alone_68 : decode cX8_alone 68 = .ok (.iload_n 2, 1) := by decide +kernel
theorem dX8_alone_69 : decode cX8_alone 69 = .ok (.if_icmp .ge 13, 3) := by decide +kernel
theorem dX8_alone_72 : decode cX8_alone 72 = .ok (.aload_n 0, 1) := by decide +kernel
theorem dX8_alone_73 : decode cX8_alone 73 = .ok (.invokevirtual 233, 3) := by decide +kernel
theorem dX8_alone_76 : decode cX8_alone 76 = .ok (.iinc 4 1, 3) := by decide +kernel
theorem dX8_alone_79 : decode cX8_alone 79 = .ok (.goto (-13), 3) := by decide +kernel
theorem dX8_alone_82 : decode cX8_alone 82 = .ok (.aload_n 0, 1) := by decide +kernel
theorem dX8_alone_83 : decode cX8_alone 83 = .ok (.getfield 25, 3) := by decide +kernel
theorem dX8_alone_86 : decode cX8_alone 86 = .ok (.iload_n 1, 1) := by decide +kernel
theorem dX8_alone_87 : decode cX8_alone 87 = .ok (.iload_n 3, 1) := by decide +kernel
theorem dX8_alone_88 : decode cX8_alone 88 = .ok (.invokevirtual 226, 3) := by decide +kernel
theorem dX8_alone_91 : decode cX8_alone 91 = .ok (.lreturn, 1) := by decide +kernel
theorem dX8_node_0 : decode cX8_node 0 = .ok (.aload_n 0, 1) := by decide +kernel
theorem dX8_node_1 : decode cX8_node 1 = .ok (.iload_n 1, 1) := by decide +kernel
theorem dX8_node_2 : decode cX8_node 2 = .ok (.invokevirtual 94, 3) := by decide +kernel
theorem dX8_node_5 : decode cX8_node 5 = .ok (.ifCond .ne 5, 3) := by decide +kernel
theorem dX8_node_8 : decode cX8_node 8 = .ok (.iconst (-1), 1) := by decide +kernel
theorem dX8_node_9 : decode cX8_node 9 = .ok (.ireturn, 1) := by decide +kernel
theorem dX8_node_10 : decode cX8_node 10 = .ok (.aload_n 0, 1) := by decide +kernel
theorem dX8_node_11 : decode cX8_node 11 = .ok (.getfield 51, 3) := by decide +kernel
theorem dX8_node_14 : decode cX8_node 14 = .ok (.iload_n 1, 1) := by decide +kernel
theorem dX8_node_15 : decode cX8_node 15 = .ok (.aaload, 1) := by decide +kernel
theorem dX8_node_16 : decode cX8_node 16 = .ok (.astore_n 3, 1) := by decide +kernel
theorem dX8_node_17 : decode cX8_node 17 = .ok (.iload_n 2, 1) := by decide +kernel
theorem dX8_node_18 : decode cX8_node 18 = .ok (.tableswitch 91 0 5 #[38, 43, 56, 69, 74, 83], 38) := by decide +kernel
theorem dX8_node_56 : decode cX8_node 56 = .ok (.aload_n 3, 1) := by decide +kernel
theorem dX8_node_57 : decode cX8_node 57 = .ok (.getfield 178, 3) := by decide +kernel
theorem dX8_node_60 : decode cX8_node 60 = .ok (.ireturn, 1) := by decide +kernel
theorem dX8_node_61 : decode cX8_node 61 = .ok (.aload_n 3, 1) := by decide +kernel
theorem dX8_node_62 : decode cX8_node 62 = .ok (.getfield 236, 3) := by decide +kernel
theorem dX8_node_65 : decode cX8_node 65 = .ok (.ifCond .eq 7, 3) := by decide +kernel
theorem dX8_node_68 : decode cX8_node 68 = .ok (.iconst 1, 1) := by decide +kernel
theorem dX8_node_69 : decode cX8_node 69 = .ok (.goto 4, 3) := by decide +kernel
theorem dX8_node_72 : decode cX8_node 72 = .ok (.iconst 0, 1) := by decide +kernel
theorem dX8_node_73 : decode cX8_node 73 = .ok (.ireturn, 1) := by decide +kernel
theorem dX8_node_74 : decode cX8_node 74 = .ok (.aload_n 3, 1) := by decide +kernel
theorem dX8_node_75 : decode cX8_node 75 = .ok (.getfield 175, 3) := by decide +kernel
theorem dX8_node_78 : decode cX8_node 78 = .ok (.ifCond .eq 7, 3) := by decide +kernel
theorem dX8_node_81 : decode cX8_node 81 = .ok (.iconst 1, 1) := by decide +kernel
theorem dX8_node_82 : decode cX8_node 82 = .ok (.goto 4, 3) := by decide +kernel
theorem dX8_node_85 : decode cX8_node 85 = .ok (.iconst 0, 1) := by decide +kernel
theorem dX8_node_86 : decode cX8_node 86 = .ok (.ireturn, 1) := by decide +kernel
theorem dX8_node_87 : decode cX8_node 87 = .ok (.aload_n 3, 1) := by decide +kernel
theorem dX8_node_88 : decode cX8_node 88 = .ok (.invokevirtual 239, 3) := by decide +kernel
theorem dX8_node_91 : decode cX8_node 91 = .ok (.ireturn, 1) := by decide +kernel
theorem dX8_node_92 : decode cX8_node 92 = .ok (.aload_n 0, 1) := by decide +kernel
theorem dX8_node_93 : decode cX8_node 93 = .ok (.getfield 12, 3) := by decide +kernel
theorem dX8_node_96 : decode cX8_node 96 = .ok (.iload_n 1, 1) := by decide +kernel
theorem dX8_node_97 : decode cX8_node 97 = .ok (.invokevirtual 242, 3) := by decide +kernel
theorem dX8_node_100 : decode cX8_node 100 = .ok (.ireturn, 1) := by decide +kernel
theorem dX8_node_101 : decode cX8_node 101 = .ok (.aload_n 3, 1) := by decide +kernel
theorem dX8_node_102 : decode cX8_node 102 = .ok (.getfield 197, 3) := by decide +kernel
theorem dX8_node_105 : decode cX8_node 105 = .ok (.getfield 246, 3) := by decide +kernel
theorem dX8_node_108 : decode cX8_node 108 = .ok (.ireturn, 1) := by decide +kernel
theorem dX8_node_109 : decode cX8_node 109 = .ok (.iconst (-1), 1) := by decide +kernel
theorem dX8_node_110 : decode cX8_node 110 = .ok (.ireturn, 1) := by decide +kernel
theorem dX8_told_0 : decode cX8_told 0 = .ok (.iload_n 1, 1) := by decide +kernel
theorem dX8_told_1 : decode cX8_told 1 = .ok (.tableswitch 143 0 11 #[63, 71, 79, 84, 92, 100, 105, 112, 119, 126, 133, 138], 63) := by decide +kernel
theorem dX8_told_64 : decode cX8_told 64 = .ok (.aload_n 0, 1) := by decide +kernel
theorem dX8_told_65 : decode cX8_told 65 = .ok (.getfield 12, 3) := by decide +kernel
theorem dX8_told_68 : decode cX8_told 68 = .ok (.getfield 64, 3) := by decide +kernel
theorem dX8_told_71 : decode cX8_told 71 = .ok (.ireturn, 1) := by decide +kernel
theorem dX8_told_72 : decode cX8_told 72 = .ok (.aload_n 0, 1) := by decide +kernel
theorem dX8_told_73 : decode cX8_told 73 = .ok (.getfield 12, 3) := by decide +kernel
theorem dX8_told_76 : decode cX8_told 76 = .ok (.getfield 109, 3) := by decide +kernel
theorem dX8_told_79 : decode cX8_told 79 = .ok (.ireturn, 1) := by decide +kernel
theorem dX8_told_80 : decode cX8_told 80 = .ok (.aload_n 0, 1) := by decide +kernel
theorem dX8_told_81 : decode cX8_told 81 = .ok (.getfield 60, 3) := by decide +kernel
theorem dX8_told_84 : decode cX8_told 84 = .ok (.ireturn, 1) := by decide +kernel
theorem dX8_told_85 : decode cX8_told 85 = .ok (.aload_n 0, 1) := by decide +kernel
theorem dX8_told_86 : decode cX8_told 86 = .ok (.getfield 12, 3) := by decide +kernel
theorem dX8_told_89 : decode cX8_told 89 = .ok (.getfield 116, 3) := by decide +kernel
theorem dX8_told_92 : decode cX8_told 92 = .ok (.ireturn, 1) := by decide +kernel
theorem dX8_told_93 : decode cX8_told 93 = .ok (.aload_n 0, 1) := by decide +kernel
theorem dX8_told_94 : decode cX8_told 94 = .ok (.getfield 45, 3) := by decide +kernel
theorem dX8_told_97 : decode cX8_told 97 = .ok (.getfield 122, 3) := by decide +kernel
theorem dX8_told_100 : decode cX8_told 100 = .ok (.ireturn, 1) := by decide +kernel
theorem dX8_told_101 : decode cX8_told 101 = .ok (.aload_n 0, 1) := by decide +kernel
theorem dX8_told_102 : decode cX8_told 102 = .ok (.getfield 91, 3) := by decide +kernel
theorem dX8_told_105 : decode cX8_told 105 = .ok (.ireturn, 1) := by decide +kernel
theorem dX8_told_106 : decode cX8_told 106 = .ok (.aload_n 0, 1) := by decide +kernel
theorem dX8_told_107 : decode cX8_told 107 = .ok (.getfield 55, 3) := by decide +kernel
theorem dX8_told_110 : decode cX8_told 110 = .ok (.iconst 0, 1) := by decide +kernel
theorem dX8_told_111 : decode cX8_told 111 = .ok (.iaload, 1) := by decide +kernel
theorem dX8_told_112 : decode cX8_told 112 = .ok (.ireturn, 1) := by decide +kernel
theorem dX8_told_113 : decode cX8_told 113 = .ok (.aload_n 0, 1) := by decide +kernel
theorem dX8_told_114 : decode cX8_told 114 = .ok (.getfield 55, 3) := by decide +kernel
theorem dX8_told_117 : decode cX8_told 117 = .ok (.iconst 1, 1) := by decide +kernel
theorem dX8_told_118 : decode cX8_told 118 = .ok (.iaload, 1) := by decide +kernel
theorem dX8_told_119 : decode cX8_told 119 = .ok (.ireturn, 1) := by decide +kernel
theorem dX8_told_120 : decode cX8_told 120 = .ok (.aload_n 0, 1) := by decide +kernel
theorem dX8_told_121 : decode cX8_told 121 = .ok (.getfield 55, 3) := by decide +kernel
theorem dX8_told_124 : decode cX8_told 124 = .ok (.iconst 2, 1) := by decide +kernel
theorem dX8_told_125 : decode cX8_told 125 = .ok (.iaload, 1) := by decide +kernel
theorem dX8_told_126 : decode cX8_told 126 = .ok (.ireturn, 1) := by decide +kernel
theorem dX8_told_127 : decode cX8_told 127 = .ok (.aload_n 0, 1) := by decide +kernel
theorem dX8_told_128 : decode cX8_told 128 = .ok (.getfield 55, 3) := by decide +kernel
theorem dX8_told_131 : decode cX8_told 131 = .ok (.iconst 3, 1) := by decide +kernel
theorem dX8_told_132 : decode cX8_told 132 = .ok (.iaload, 1) := by decide +kernel
theorem dX8_told_133 : decode cX8_told 133 = .ok (.ireturn, 1) := by decide +kernel
theorem dX8_told_134 : decode cX8_told 134 = .ok (.aload_n 0, 1) := by decide +kernel
theorem dX8_told_135 : decode cX8_told 135 = .ok (.getfield 88, 3) := by decide +kernel
theorem dX8_told_138 : decode cX8_told 138 = .ok (.ireturn, 1) := by decide +kernel
theorem dX8_told_139 : decode cX8_told 139 = .ok (.aload_n 0, 1) := by decide +kernel
theorem dX8_told_140 : decode cX8_told 140 = .ok (.getfield 78, 3) := by decide +kernel
theorem dX8_told_143 : decode cX8_told 143 = .ok (.ireturn, 1) := by decide +kernel
theorem dX8_told_144 : decode cX8_told 144 = .ok (.iconst (-1), 1) := by decide +kernel
theorem dX8_told_145 : decode cX8_told 145 = .ok (.ireturn, 1) := by decide +kernel
theorem dX8_isNode_0 : decode cX8_isNode 0 = .ok (.iload_n 1, 1) := by decide +kernel
theorem dX8_isNode_1 : decode cX8_isNode 1 = .ok (.ifCond .lt 15, 3) := by decide +kernel
theorem dX8_isNode_4 : decode cX8_isNode 4 = .ok (.iload_n 1, 1) := by decide +kernel
theorem dX8_isNode_5 : decode cX8_isNode 5 = .ok (.aload_n 0, 1) := by decide +kernel
theorem dX8_isNode_6 : decode cX8_isNode 6 = .ok (.getfield 60, 3) := by decide +kernel
theorem dX8_isNode_9 : decode cX8_isNode 9 = .ok (.if_icmp .ge 7, 3) := by decide +kernel
theorem dX8_isNode_12 : decode cX8_isNode 12 = .ok (.iconst 1, 1) := by decide +kernel
theorem dX8_isNode_13 : decode cX8_isNode 13 = .ok (.goto 4, 3) := by decide +kernel
theorem dX8_isNode_16 : decode cX8_isNode 16 = .ok (.iconst 0, 1) := by decide +kernel
theorem dX8_isNode_17 : decode cX8_isNode 17 = .ok (.ireturn, 1) := by decide +kernel
theorem dX8_isVertex_0 : decode cX8_isVertex 0 = .ok (.iload_n 1, 1) := by decide +kernel
theorem dX8_isVertex_1 : decode cX8_isVertex 1 = .ok (.ifCond .lt 18, 3) := by decide +kernel
theorem dX8_isVertex_4 : decode cX8_isVertex 4 = .ok (.iload_n 1, 1) := by decide +kernel
theorem dX8_isVertex_5 : decode cX8_isVertex 5 = .ok (.aload_n 0, 1) := by decide +kernel
theorem dX8_isVertex_6 : decode cX8_isVertex 6 = .ok (.getfield 12, 3) := by decide +kernel
theorem dX8_isVertex_9 : decode cX8_isVertex 9 = .ok (.getfield 64, 3) := by decide +kernel
theorem dX8_isVertex_12 : decode cX8_isVertex 12 = .ok (.if_icmp .ge 7, 3) := by decide +kernel
theorem dX8_isVertex_15 : decode cX8_isVertex 15 = .ok (.iconst 1, 1) := by decide +kernel
theorem dX8_isVertex_16 : decode cX8_isVertex 16 = .ok (.goto 4, 3) := by decide +kernel
theorem dX8_isVertex_19 : decode cX8_isVertex 19 = .ok (.iconst 0, 1) := by decide +kernel
theorem dX8_isVertex_20 : decode cX8_isVertex 20 = .ok (.ireturn, 1) := by decide +kernel
theorem dX8_isAnyDown_0 : decode cX8_isAnyDown 0 = .ok (.iconst 0, 1) := by decide +kernel
theorem dX8_isAnyDown_1 : decode cX8_isAnyDown 1 = .ok (.istore_n 1, 1) := by decide +kernel
theorem dX8_isAnyDown_2 : decode cX8_isAnyDown 2 = .ok (.iload_n 1, 1) := by decide +kernel
theorem dX8_isAnyDown_3 : decode cX8_isAnyDown 3 = .ok (.aload_n 0, 1) := by decide +kernel
theorem dX8_isAnyDown_4 : decode cX8_isAnyDown 4 = .ok (.getfield 60, 3) := by decide +kernel
theorem dX8_isAnyDown_7 : decode cX8_isAnyDown 7 = .ok (.if_icmp .ge 23, 3) := by decide +kernel
theorem dX8_isAnyDown_10 : decode cX8_isAnyDown 10 = .ok (.aload_n 0, 1) := by decide +kernel
theorem dX8_isAnyDown_11 : decode cX8_isAnyDown 11 = .ok (.getfield 51, 3) := by decide +kernel
theorem dX8_isAnyDown_14 : decode cX8_isAnyDown 14 = .ok (.iload_n 1, 1) := by decide +kernel
theorem dX8_isAnyDown_15 : decode cX8_isAnyDown 15 = .ok (.aaload, 1) := by decide +kernel
theorem dX8_isAnyDown_16 : decode cX8_isAnyDown 16 = .ok (.getfield 175, 3) := by decide +kernel
theorem dX8_isAnyDown_19 : decode cX8_isAnyDown 19 = .ok (.ifCond .eq 5, 3) := by decide +kernel
theorem dX8_isAnyDown_22 : decode cX8_isAnyDown 22 = .ok (.iconst 1, 1) := by decide +kernel
theorem dX8_isAnyDown_23 : decode cX8_isAnyDown 23 = .ok (.ireturn, 1) := by decide +kernel
theorem dX8_isAnyDown_24 : decode cX8_isAnyDown 24 = .ok (.iinc 1 1, 3) := by decide +kernel
theorem dX8_isAnyDown_27 : decode cX8_isAnyDown 27 = .ok (.goto (-25), 3) := by decide +kernel
theorem dX8_isAnyDown_30 : decode cX8_isAnyDown 30 = .ok (.iconst 0, 1) := by decide +kernel
theorem dX8_isAnyDown_31 : decode cX8_isAnyDown 31 = .ok (.ireturn, 1) := by decide +kernel
theorem dX8_isLevel_0 : decode cX8_isLevel 0 = .ok (.iconst 0, 1) := by decide +kernel
theorem dX8_isLevel_1 : decode cX8_isLevel 1 = .ok (.istore_n 1, 1) := by decide +kernel
theorem dX8_isLevel_2 : decode cX8_isLevel 2 = .ok (.iload_n 1, 1) := by decide +kernel
theorem dX8_isLevel_3 : decode cX8_isLevel 3 = .ok (.aload_n 0, 1) := by decide +kernel
theorem dX8_isLevel_4 : decode cX8_isLevel 4 = .ok (.getfield 60, 3) := by decide +kernel
theorem dX8_isLevel_7 : decode cX8_isLevel 7 = .ok (.if_icmp .ge 48, 3) := by decide +kernel
theorem dX8_isLevel_10 : decode cX8_isLevel 10 = .ok (.aload_n 0, 1) := by decide +kernel
theorem dX8_isLevel_11 : decode cX8_isLevel 11 = .ok (.getfield 51, 3) := by decide +kernel
theorem dX8_isLevel_14 : decode cX8_isLevel 14 = .ok (.iload_n 1, 1) := by decide +kernel
theorem dX8_isLevel_15 : decode cX8_isLevel 15 = .ok (.aaload, 1) := by decide +kernel
theorem dX8_isLevel_16 : decode cX8_isLevel 16 = .ok (.astore_n 2, 1) := by decide +kernel
theorem dX8_isLevel_17 : decode cX8_isLevel 17 = .ok (.aload_n 2, 1) := by decide +kernel
theorem dX8_isLevel_18 : decode cX8_isLevel 18 = .ok (.getfield 175, 3) := by decide +kernel
theorem dX8_isLevel_21 : decode cX8_isLevel 21 = .ok (.ifCond .ne 26, 3) := by decide +kernel
theorem dX8_isLevel_24 : decode cX8_isLevel 24 = .ok (.aload_n 2, 1) := by decide +kernel
theorem dX8_isLevel_25 : decode cX8_isLevel 25 = .ok (.getfield 236, 3) := by decide +kernel
theorem dX8_isLevel_28 : decode cX8_isLevel 28 = .ok (.ifCond .ne 19, 3) := by decide +kernel
theorem dX8_isLevel_31 : decode cX8_isLevel 31 = .ok (.aload_n 2, 1) := by decide +kernel
theorem dX8_isLevel_32 : decode cX8_isLevel 32 = .ok (.getfield 178, 3) := by decide +kernel
theorem dX8_isLevel_35 : decode cX8_isLevel 35 = .ok (.aload_n 0, 1) := by decide +kernel
theorem dX8_isLevel_36 : decode cX8_isLevel 36 = .ok (.getfield 51, 3) := by decide +kernel
theorem dX8_isLevel_39 : decode cX8_isLevel 39 = .ok (.iconst 0, 1) := by decide +kernel
theorem dX8_isLevel_40 : decode cX8_isLevel 40 = .ok (.aaload, 1) := by decide +kernel
theorem dX8_isLevel_41 : decode cX8_isLevel 41 = .ok (.getfield 178, 3) := by decide +kernel
theorem dX8_isLevel_44 : decode cX8_isLevel 44 = .ok (.if_icmp .eq 5, 3) := by decide +kernel
theorem dX8_isLevel_47 : decode cX8_isLevel 47 = .ok (.iconst 0, 1) := by decide +kernel
theorem dX8_isLevel_48 : decode cX8_isLevel 48 = .ok (.ireturn, 1) := by decide +kernel
theorem dX8_isLevel_49 : decode cX8_isLevel 49 = .ok (.iinc 1 1, 3) := by decide +kernel
theorem dX8_isLevel_52 : decode cX8_isLevel 52 = .ok (.goto (-50), 3) := by decide +kernel
theorem dX8_isLevel_55 : decode cX8_isLevel 55 = .ok (.iconst 1, 1) := by decide +kernel
theorem dX8_isLevel_56 : decode cX8_isLevel 56 = .ok (.ireturn, 1) := by decide +kernel
theorem dX8_isComplete_0 : decode cX8_isComplete 0 = .ok (.aload_n 1, 1) := by decide +kernel
theorem dX8_isComplete_1 : decode cX8_isComplete 1 = .ok (.getfield 236, 3) := by decide +kernel
theorem dX8_isComplete_4 : decode cX8_isComplete 4 = .ok (.ifCond .ne 20, 3) := by decide +kernel
theorem dX8_isComplete_7 : decode cX8_isComplete 7 = .ok (.aload_n 1, 1) := by decide +kernel
theorem dX8_isComplete_8 : decode cX8_isComplete 8 = .ok (.invokevirtual 239, 3) := by decide +kernel
theorem dX8_isComplete_11 : decode cX8_isComplete 11 = .ok (.aload_n 0, 1) := by decide +kernel
theorem dX8_isComplete_12 : decode cX8_isComplete 12 = .ok (.getfield 60, 3) := by decide +kernel
theorem dX8_isComplete_15 : decode cX8_isComplete 15 = .ok (.iconst 1, 1) := by decide +kernel
theorem dX8_isComplete_16 : decode cX8_isComplete 16 = .ok (.isub, 1) := by decide +kernel
theorem dX8_isComplete_17 : decode cX8_isComplete 17 = .ok (.if_icmp .ne 7, 3) := by decide +kernel
theorem dX8_isComplete_20 : decode cX8_isComplete 20 = .ok (.iconst 1, 1) := by decide +kernel
theorem dX8_isComplete_21 : decode cX8_isComplete 21 = .ok (.goto 4, 3) := by decide +kernel
theorem dX8_isComplete_24 : decode cX8_isComplete 24 = .ok (.iconst 0, 1) := by decide +kernel
theorem dX8_isComplete_25 : decode cX8_isComplete 25 = .ok (.ireturn, 1) := by decide +kernel
theorem dX8_isMarkRound_0 : decode cX8_isMarkRound 0 = .ok (.iload_n 1, 1) := by decide +kernel
theorem dX8_isMarkRound_1 : decode cX8_isMarkRound 1 = .ok (.ifCond .eq 19, 3) := by decide +kernel
theorem dX8_isMarkRound_4 : decode cX8_isMarkRound 4 = .ok (.aload_n 0, 1) := by decide +kernel
theorem dX8_isMarkRound_5 : decode cX8_isMarkRound 5 = .ok (.getfield 78, 3) := by decide +kernel
theorem dX8_isMarkRound_8 : decode cX8_isMarkRound 8 = .ok (.ifCond .le 16, 3) := by decide +kernel
theorem dX8_isMarkRound_11 : decode cX8_isMarkRound 11 = .ok (.iload_n 1, 1) := by decide +kernel
theorem dX8_isMarkRound_12 : decode cX8_isMarkRound 12 = .ok (.aload_n 0, 1) := by decide +kernel
theorem dX8_isMarkRound_13 : decode cX8_isMarkRound 13 = .ok (.getfield 78, 3) := by decide +kernel
theorem dX8_isMarkRound_16 : decode cX8_isMarkRound 16 = .ok (.irem, 1) := by decide +kernel
theorem dX8_isMarkRound_17 : decode cX8_isMarkRound 17 = .ok (.ifCond .ne 7, 3) := by decide +kernel
theorem dX8_isMarkRound_20 : decode cX8_isMarkRound 20 = .ok (.iconst 1, 1) := by decide +kernel
theorem dX8_isMarkRound_21 : decode cX8_isMarkRound 21 = .ok (.goto 4, 3) := by decide +kernel
theorem dX8_isMarkRound_24 : decode cX8_isMarkRound 24 = .ok (.iconst 0, 1) := by decide +kernel
theorem dX8_isMarkRound_25 : decode cX8_isMarkRound 25 = .ok (.ireturn, 1) := by decide +kernel
theorem dX8_outcomeOf_0 : decode cX8_outcomeOf 0 = .ok (.aload_n 0, 1) := by decide +kernel
theorem dX8_outcomeOf_1 : decode cX8_outcomeOf 1 = .ok (.getfield 51, 3) := by decide +kernel
theorem dX8_outcomeOf_4 : decode cX8_outcomeOf 4 = .ok (.aload_n 1, 1) := by decide +kernel
theorem dX8_outcomeOf_5 : decode cX8_outcomeOf 5 = .ok (.getfield 134, 3) := by decide +kernel
theorem dX8_outcomeOf_8 : decode cX8_outcomeOf 8 = .ok (.aaload, 1) := by decide +kernel
theorem dX8_outcomeOf_9 : decode cX8_outcomeOf 9 = .ok (.astore_n 2, 1) := by decide +kernel
theorem dX8_outcomeOf_10 : decode cX8_outcomeOf 10 = .ok (.aload_n 2, 1) := by decide +kernel
theorem dX8_outcomeOf_11 : decode cX8_outcomeOf 11 = .ok (.getfield 175, 3) := by decide +kernel
theorem dX8_outcomeOf_14 : decode cX8_outcomeOf 14 = .ok (.ifCond .eq 5, 3) := by decide +kernel
theorem dX8_outcomeOf_17 : decode cX8_outcomeOf 17 = .ok (.iconst 3, 1) := by decide +kernel
theorem dX8_outcomeOf_18 : decode cX8_outcomeOf 18 = .ok (.ireturn, 1) := by decide +kernel
theorem dX8_outcomeOf_19 : decode cX8_outcomeOf 19 = .ok (.aload_n 1, 1) := by decide +kernel
theorem dX8_outcomeOf_20 : decode cX8_outcomeOf 20 = .ok (.getfield 140, 3) := by decide +kernel
theorem dX8_outcomeOf_23 : decode cX8_outcomeOf 23 = .ok (.aload_n 0, 1) := by decide +kernel
theorem dX8_outcomeOf_24 : decode cX8_outcomeOf 24 = .ok (.getfield 88, 3) := by decide +kernel
theorem dX8_outcomeOf_27 : decode cX8_outcomeOf 27 = .ok (.if_icmp .ne 21, 3) := by decide +kernel
theorem dX8_outcomeOf_30 : decode cX8_outcomeOf 30 = .ok (.aload_n 1, 1) := by decide +kernel
theorem dX8_outcomeOf_31 : decode cX8_outcomeOf 31 = .ok (.getfield 137, 3) := by decide +kernel
theorem dX8_outcomeOf_34 : decode cX8_outcomeOf 34 = .ok (.aload_n 2, 1) := by decide +kernel
theorem dX8_outcomeOf_35 : decode cX8_outcomeOf 35 = .ok (.getfield 178, 3) := by decide +kernel
theorem dX8_outcomeOf_38 : decode cX8_outcomeOf 38 = .ok (.if_icmp .lt 10, 3) := by decide +kernel
theorem dX8_outcomeOf_41 : decode cX8_outcomeOf 41 = .ok (.aload_n 2, 1) := by decide +kernel
theorem dX8_outcomeOf_42 : decode cX8_outcomeOf 42 = .ok (.getfield 236, 3) := by decide +kernel
theorem dX8_outcomeOf_45 : decode cX8_outcomeOf 45 = .ok (.ifCond .eq 5, 3) := by decide +kernel
theorem dX8_outcomeOf_48 : decode cX8_outcomeOf 48 = .ok (.iconst 1, 1) := by decide +kernel
theorem dX8_outcomeOf_49 : decode cX8_outcomeOf 49 = .ok (.ireturn, 1) := by decide +kernel
theorem dX8_outcomeOf_50 : decode cX8_outcomeOf 50 = .ok (.aload_n 2, 1) := by decide +kernel
theorem dX8_outcomeOf_51 : decode cX8_outcomeOf 51 = .ok (.aload_n 1, 1) := by decide +kernel
theorem dX8_outcomeOf_52 : decode cX8_outcomeOf 52 = .ok (.invokevirtual 247, 3) := by decide +kernel
theorem dX8_outcomeOf_55 : decode cX8_outcomeOf 55 = .ok (.ifCond .eq 7, 3) := by decide +kernel
theorem dX8_outcomeOf_58 : decode cX8_outcomeOf 58 = .ok (.iconst 2, 1) := by decide +kernel
theorem dX8_outcomeOf_59 : decode cX8_outcomeOf 59 = .ok (.goto 4, 3) := by decide +kernel
theorem dX8_outcomeOf_62 : decode cX8_outcomeOf 62 = .ok (.iconst 0, 1) := by decide +kernel
theorem dX8_outcomeOf_63 : decode cX8_outcomeOf 63 = .ok (.ireturn, 1) := by decide +kernel
theorem dX8_finishRound_0 : decode cX8_finishRound 0 = .ok (.aload_n 0, 1) := by decide +kernel
theorem dX8_finishRound_1 : decode cX8_finishRound 1 = .ok (.getfield 51, 3) := by decide +kernel
theorem dX8_finishRound_4 : decode cX8_finishRound 4 = .ok (.iload_n 1, 1) := by decide +kernel
theorem dX8_finishRound_5 : decode cX8_finishRound 5 = .ok (.aaload, 1) := by decide +kernel
theorem dX8_finishRound_6 : decode cX8_finishRound 6 = .ok (.astore_n 2, 1) := by decide +kernel
theorem dX8_finishRound_7 : decode cX8_finishRound 7 = .ok (.aload_n 0, 1) := by decide +kernel
theorem dX8_finishRound_8 : decode cX8_finishRound 8 = .ok (.getfield 12, 3) := by decide +kernel
theorem dX8_finishRound_11 : decode cX8_finishRound 11 = .ok (.iload_n 1, 1) := by decide +kernel
theorem dX8_finishRound_12 : decode cX8_finishRound 12 = .ok (.aload_n 0, 1) := by decide +kernel
theorem dX8_finishRound_13 : decode cX8_finishRound 13 = .ok (.getfield 21, 3) := by decide +kernel
theorem dX8_finishRound_16 : decode cX8_finishRound 16 = .ok (.invokevirtual 250, 3) := by decide +kernel
theorem dX8_finishRound_19 : decode cX8_finishRound 19 = .ok (.ifCond .ne 16, 3) := by decide +kernel
theorem dX8_finishRound_22 : decode cX8_finishRound 22 = .ok (.aload_n 2, 1) := by decide +kernel
theorem dX8_finishRound_23 : decode cX8_finishRound 23 = .ok (.invokevirtual 254, 3) := by decide +kernel
theorem dX8_finishRound_26 : decode cX8_finishRound 26 = .ok (.ifCond .ne 9, 3) := by decide +kernel
theorem dX8_finishRound_29 : decode cX8_finishRound 29 = .ok (.aload_n 2, 1) := by decide +kernel
theorem dX8_finishRound_30 : decode cX8_finishRound 30 = .ok (.iconst 1, 1) := by decide +kernel
theorem dX8_finishRound_31 : decode cX8_finishRound 31 = .ok (.putfield 236, 3) := by decide +kernel
theorem dX8_finishRound_34 : decode cX8_finishRound 34 = .ok (.return_, 1) := by decide +kernel
theorem dX8_finishRound_35 : decode cX8_finishRound 35 = .ok (.aload_n 0, 1) := by decide +kernel
theorem dX8_finishRound_36 : decode cX8_finishRound 36 = .ok (.iload_n 1, 1) := by decide +kernel
theorem dX8_finishRound_37 : decode cX8_finishRound 37 = .ok (.invokevirtual 257, 3) := by decide +kernel
theorem dX8_finishRound_40 : decode cX8_finishRound 40 = .ok (.aload_n 0, 1) := by decide +kernel
theorem dX8_finishRound_41 : decode cX8_finishRound 41 = .ok (.iload_n 1, 1) := by decide +kernel
theorem dX8_finishRound_42 : decode cX8_finishRound 42 = .ok (.aload_n 2, 1) := by decide +kernel
theorem dX8_finishRound_43 : decode cX8_finishRound 43 = .ok (.getfield 178, 3) := by decide +kernel
theorem dX8_finishRound_46 : decode cX8_finishRound 46 = .ok (.iconst 1, 1) := by decide +kernel
theorem dX8_finishRound_47 : decode cX8_finishRound 47 = .ok (.iadd, 1) := by decide +kernel
theorem dX8_finishRound_48 : decode cX8_finishRound 48 = .ok (.invokevirtual 119, 3) := by decide +kernel
theorem dX8_finishRound_51 : decode cX8_finishRound 51 = .ok (.return_, 1) := by decide +kernel
theorem dX8_takeMessages_0 : decode cX8_takeMessages 0 = .ok (.aload_n 0, 1) := by decide +kernel
theorem dX8_takeMessages_1 : decode cX8_takeMessages 1 = .ok (.getfield 31, 3) := by decide +kernel
theorem dX8_takeMessages_4 : decode cX8_takeMessages 4 = .ok (.invokevirtual 260, 3) := by decide +kernel
theorem dX8_takeMessages_7 : decode cX8_takeMessages 7 = .ok (.iconst 0, 1) := by decide +kernel
theorem dX8_takeMessages_8 : decode cX8_takeMessages 8 = .ok (.istore_n 2, 1) := by decide +kernel
theorem dX8_takeMessages_9 : decode cX8_takeMessages 9 = .ok (.iload_n 2, 1) := by decide +kernel
theorem dX8_takeMessages_10 : decode cX8_takeMessages 10 = .ok (.aload_n 0, 1) := by decide +kernel
theorem dX8_takeMessages_11 : decode cX8_takeMessages 11 = .ok (.getfield 12, 3) := by decide +kernel
theorem dX8_takeMessages_14 : decode cX8_takeMessages 14 = .ok (.getfield 109, 3) := by decide +kernel
theorem dX8_takeMessages_17 : decode cX8_takeMessages 17 = .ok (.if_icmp .ge 78, 3) := by decide +kernel
theorem dX8_takeMessages_20 : decode cX8_takeMessages 20 = .ok (.aload_n 0, 1) := by decide +kernel
theorem dX8_takeMessages_21 : decode cX8_takeMessages 21 = .ok (.getfield 12, 3) := by decide +kernel
theorem dX8_takeMessages_24 : decode cX8_takeMessages 24 = .ok (.iload_n 2, 1) := by decide +kernel
theorem dX8_takeMessages_25 : decode cX8_takeMessages 25 = .ok (.iload_n 1, 1) := by decide +kernel
theorem dX8_takeMessages_26 : decode cX8_takeMessages 26 = .ok (.iload_n 1, 1) := by decide +kernel
theorem dX8_takeMessages_27 : decode cX8_takeMessages 27 = .ok (.invokevirtual 261, 3) := by decide +kernel
theorem dX8_takeMessages_30 : decode cX8_takeMessages 30 = .ok (.ifCond .eq 59, 3) := by decide +kernel
theorem dX8_takeMessages_33 : decode cX8_takeMessages 33 = .ok (.aload_n 0, 1) := by decide +kernel
theorem dX8_takeMessages_34 : decode cX8_takeMessages 34 = .ok (.getfield 21, 3) := by decide +kernel
theorem dX8_takeMessages_37 : decode cX8_takeMessages 37 = .ok (.getfield 265, 3) := by decide +kernel
theorem dX8_takeMessages_40 : decode cX8_takeMessages 40 = .ok (.aload_n 0, 1) := by decide +kernel
theorem dX8_takeMessages_41 : decode cX8_takeMessages 41 = .ok (.getfield 12, 3) := by decide +kernel
theorem dX8_takeMessages_44 : decode cX8_takeMessages 44 = .ok (.getfield 268, 3) := by decide +kernel
theorem dX8_takeMessages_47 : decode cX8_takeMessages 47 = .ok (.iload_n 2, 1) := by decide +kernel
theorem dX8_takeMessages_48 : decode cX8_takeMessages 48 = .ok (.iaload, 1) := by decide +kernel
theorem dX8_takeMessages_49 : decode cX8_takeMessages 49 = .ok (.baload, 1) := by decide +kernel
theorem dX8_takeMessages_50 : decode cX8_takeMessages 50 = .ok (.ifCond .eq 39, 3) := by decide +kernel
theorem dX8_takeMessages_53 : decode cX8_takeMessages 53 = .ok (.aload_n 0, 1) := by decide +kernel
theorem dX8_takeMessages_54 : decode cX8_takeMessages 54 = .ok (.getfield 31, 3) := by decide +kernel
theorem dX8_takeMessages_57 : decode cX8_takeMessages 57 = .ok (.aload_n 0, 1) := by decide +kernel
theorem dX8_takeMessages_58 : decode cX8_takeMessages 58 = .ok (.getfield 12, 3) := by decide +kernel
theorem dX8_takeMessages_61 : decode cX8_takeMessages 61 = .ok (.getfield 116, 3) := by decide +kernel
theorem dX8_takeMessages_64 : decode cX8_takeMessages 64 = .ok (.aload_n 0, 1) := by decide +kernel
theorem dX8_takeMessages_65 : decode cX8_takeMessages 65 = .ok (.getfield 12, 3) := by decide +kernel
theorem dX8_takeMessages_68 : decode cX8_takeMessages 68 = .ok (.getfield 271, 3) := by decide +kernel
theorem dX8_takeMessages_71 : decode cX8_takeMessages 71 = .ok (.iload_n 2, 1) := by decide +kernel
theorem dX8_takeMessages_72 : decode cX8_takeMessages 72 = .ok (.iaload, 1) := by decide +kernel
theorem dX8_takeMessages_73 : decode cX8_takeMessages 73 = .ok (.aload_n 0, 1) := by decide +kernel
theorem dX8_takeMessages_74 : decode cX8_takeMessages 74 = .ok (.getfield 12, 3) := by decide +kernel
theorem dX8_takeMessages_77 : decode cX8_takeMessages 77 = .ok (.iload_n 2, 1) := by decide +kernel
theorem dX8_takeMessages_78 : decode cX8_takeMessages 78 = .ok (.aload_n 0, 1) := by decide +kernel
theorem dX8_takeMessages_79 : decode cX8_takeMessages 79 = .ok (.getfield 21, 3) := by decide +kernel
theorem dX8_takeMessages_82 : decode cX8_takeMessages 82 = .ok (.invokevirtual 274, 3) := by decide +kernel
theorem dX8_takeMessages_85 : decode cX8_takeMessages 85 = .ok (.iload_n 2, 1) := by decide +kernel
theorem dX8_takeMessages_86 : decode cX8_takeMessages 86 = .ok (.invokevirtual 277, 3) := by decide +kernel
theorem dX8_takeMessages_89 : decode cX8_takeMessages 89 = .ok (.iinc 2 1, 3) := by decide +kernel
theorem dX8_takeMessages_92 : decode cX8_takeMessages 92 = .ok (.goto (-83), 3) := by decide +kernel
theorem dX8_takeMessages_95 : decode cX8_takeMessages 95 = .ok (.iconst 0, 1) := by decide +kernel
theorem dX8_takeMessages_96 : decode cX8_takeMessages 96 = .ok (.istore_n 2, 1) := by decide +kernel
theorem dX8_takeMessages_97 : decode cX8_takeMessages 97 = .ok (.iload_n 2, 1) := by decide +kernel
theorem dX8_takeMessages_98 : decode cX8_takeMessages 98 = .ok (.aload_n 0, 1) := by decide +kernel
theorem dX8_takeMessages_99 : decode cX8_takeMessages 99 = .ok (.getfield 60, 3) := by decide +kernel
theorem dX8_takeMessages_102 : decode cX8_takeMessages 102 = .ok (.if_icmp .ge 39, 3) := by decide +kernel
theorem dX8_takeMessages_105 : decode cX8_takeMessages 105 = .ok (.aload_n 0, 1) := by decide +kernel
theorem dX8_takeMessages_106 : decode cX8_takeMessages 106 = .ok (.getfield 51, 3) := by decide +kernel
theorem dX8_takeMessages_109 : decode cX8_takeMessages 109 = .ok (.iload_n 1, 1) := by decide +kernel
theorem dX8_takeMessages_110 : decode cX8_takeMessages 110 = .ok (.aaload, 1) := by decide +kernel
theorem dX8_takeMessages_111 : decode cX8_takeMessages 111 = .ok (.iload_n 2, 1) := by decide +kernel
theorem dX8_takeMessages_112 : decode cX8_takeMessages 112 = .ok (.invokevirtual 281, 3) := by decide +kernel
theorem dX8_takeMessages_115 : decode cX8_takeMessages 115 = .ok (.astore_n 3, 1) := by decide +kernel
theorem dX8_takeMessages_116 : decode cX8_takeMessages 116 = .ok (.aload_n 3, 1) := by decide +kernel
theorem dX8_takeMessages_117 : decode cX8_takeMessages 117 = .ok (.ifnull 18, 3) := by decide +kernel
theorem dX8_takeMessages_120 : decode cX8_takeMessages 120 = .ok (.aload_n 0, 1) := by decide +kernel
theorem dX8_takeMessages_121 : decode cX8_takeMessages 121 = .ok (.getfield 31, 3) := by decide +kernel
theorem dX8_takeMessages_124 : decode cX8_takeMessages 124 = .ok (.aload_n 0, 1) := by decide +kernel
theorem dX8_takeMessages_125 : decode cX8_takeMessages 125 = .ok (.getfield 12, 3) := by decide +kernel
theorem dX8_takeMessages_128 : decode cX8_takeMessages 128 = .ok (.getfield 116, 3) := by decide +kernel
theorem dX8_takeMessages_131 : decode cX8_takeMessages 131 = .ok (.aload_n 3, 1) := by decide +kernel
theorem dX8_takeMessages_132 : decode cX8_takeMessages 132 = .ok (.invokevirtual 284, 3) := by decide +kernel
theorem dX8_takeMessages_135 : decode cX8_takeMessages 135 = .ok (.iinc 2 1, 3) := by decide +kernel
theorem dX8_takeMessages_138 : decode cX8_takeMessages 138 = .ok (.goto (-41), 3) := by decide +kernel
theorem dX8_takeMessages_141 : decode cX8_takeMessages 141 = .ok (.iconst 0, 1) := by decide +kernel
theorem dX8_takeMessages_142 : decode cX8_takeMessages 142 = .ok (.istore_n 2, 1) := by decide +kernel
theorem dX8_takeMessages_143 : decode cX8_takeMessages 143 = .ok (.iload_n 2, 1) := by decide +kernel
theorem dX8_takeMessages_144 : decode cX8_takeMessages 144 = .ok (.aload_n 0, 1) := by decide +kernel
theorem dX8_takeMessages_145 : decode cX8_takeMessages 145 = .ok (.getfield 12, 3) := by decide +kernel
theorem dX8_takeMessages_148 : decode cX8_takeMessages 148 = .ok (.getfield 64, 3) := by decide +kernel
theorem dX8_takeMessages_151 : decode cX8_takeMessages 151 = .ok (.if_icmp .ge 41, 3) := by decide +kernel
theorem dX8_takeMessages_154 : decode cX8_takeMessages 154 = .ok (.aload_n 0, 1) := by decide +kernel
theorem dX8_takeMessages_155 : decode cX8_takeMessages 155 = .ok (.getfield 12, 3) := by decide +kernel
theorem dX8_takeMessages_158 : decode cX8_takeMessages 158 = .ok (.getfield 214, 3) := by decide +kernel
theorem dX8_takeMessages_161 : decode cX8_takeMessages 161 = .ok (.iload_n 2, 1) := by decide +kernel
theorem dX8_takeMessages_162 : decode cX8_takeMessages 162 = .ok (.iaload, 1) := by decide +kernel
theorem dX8_takeMessages_163 : decode cX8_takeMessages 163 = .ok (.iload_n 1, 1) := by decide +kernel
theorem dX8_takeMessages_164 : decode cX8_takeMessages 164 = .ok (.if_icmp .ne 22, 3) := by decide +kernel
theorem dX8_takeMessages_167 : decode cX8_takeMessages 167 = .ok (.aload_n 0, 1) := by decide +kernel
theorem dX8_takeMessages_168 : decode cX8_takeMessages 168 = .ok (.getfield 31, 3) := by decide +kernel
theorem dX8_takeMessages_171 : decode cX8_takeMessages 171 = .ok (.aload_n 0, 1) := by decide +kernel
theorem dX8_takeMessages_172 : decode cX8_takeMessages 172 = .ok (.getfield 12, 3) := by decide +kernel
theorem dX8_takeMessages_175 : decode cX8_takeMessages 175 = .ok (.getfield 116, 3) := by decide +kernel
theorem dX8_takeMessages_178 : decode cX8_takeMessages 178 = .ok (.iload_n 2, 1) := by decide +kernel
theorem dX8_takeMessages_179 : decode cX8_takeMessages 179 = .ok (.aload_n 0, 1) := by decide +kernel
theorem dX8_takeMessages_180 : decode cX8_takeMessages 180 = .ok (.getfield 21, 3) := by decide +kernel
theorem dX8_takeMessages_183 : decode cX8_takeMessages 183 = .ok (.invokevirtual 288, 3) := by decide +kernel
theorem dX8_takeMessages_186 : decode cX8_takeMessages 186 = .ok (.iinc 2 1, 3) := by decide +kernel
theorem dX8_takeMessages_189 : decode cX8_takeMessages 189 = .ok (.goto (-46), 3) := by decide +kernel
theorem dX8_takeMessages_192 : decode cX8_takeMessages 192 = .ok (.return_, 1) := by decide +kernel
theorem dX8_workAlone_0 : decode cX8_workAlone 0 = .ok (.aload_n 0, 1) := by decide +kernel
theorem dX8_workAlone_1 : decode cX8_workAlone 1 = .ok (.getfield 31, 3) := by decide +kernel
theorem dX8_workAlone_4 : decode cX8_workAlone 4 = .ok (.invokevirtual 260, 3) := by decide +kernel
theorem dX8_workAlone_7 : decode cX8_workAlone 7 = .ok (.iconst 0, 1) := by decide +kernel
theorem dX8_workAlone_8 : decode cX8_workAlone 8 = .ok (.istore_n 1, 1) := by decide +kernel
theorem dX8_workAlone_9 : decode cX8_workAlone 9 = .ok (.iload_n 1, 1) := by decide +kernel
theorem dX8_workAlone_10 : decode cX8_workAlone 10 = .ok (.aload_n 0, 1) := by decide +kernel
theorem dX8_workAlone_11 : decode cX8_workAlone 11 = .ok (.getfield 12, 3) := by decide +kernel
theorem dX8_workAlone_14 : decode cX8_workAlone 14 = .ok (.getfield 109, 3) := by decide +kernel
theorem dX8_workAlone_17 : decode cX8_workAlone 17 = .ok (.if_icmp .ge 65, 3) := by decide +kernel
theorem dX8_workAlone_20 : decode cX8_workAlone 20 = .ok (.aload_n 0, 1) := by decide +kernel
theorem dX8_workAlone_21 : decode cX8_workAlone 21 = .ok (.getfield 25, 3) := by decide +kernel
theorem dX8_workAlone_24 : decode cX8_workAlone 24 = .ok (.getfield 265, 3) := by decide +kernel
theorem dX8_workAlone_27 : decode cX8_workAlone 27 = .ok (.aload_n 0, 1) := by decide +kernel
theorem dX8_workAlone_28 : decode cX8_workAlone 28 = .ok (.getfield 12, 3) := by decide +kernel
theorem dX8_workAlone_31 : decode cX8_workAlone 31 = .ok (.getfield 268, 3) := by decide +kernel
theorem dX8_workAlone_34 : decode cX8_workAlone 34 = .ok (.iload_n 1, 1) := by decide +kernel
theorem dX8_workAlone_35 : decode cX8_workAlone 35 = .ok (.iaload, 1) := by decide +kernel
theorem dX8_workAlone_36 : decode cX8_workAlone 36 = .ok (.baload, 1) := by decide +kernel
theorem dX8_workAlone_37 : decode cX8_workAlone 37 = .ok (.ifCond .eq 39, 3) := by decide +kernel
theorem dX8_workAlone_40 : decode cX8_workAlone 40 = .ok (.aload_n 0, 1) := by decide +kernel
theorem dX8_workAlone_41 : decode cX8_workAlone 41 = .ok (.getfield 31, 3) := by decide +kernel
theorem dX8_workAlone_44 : decode cX8_workAlone 44 = .ok (.aload_n 0, 1) := by decide +kernel
theorem dX8_workAlone_45 : decode cX8_workAlone 45 = .ok (.getfield 12, 3) := by decide +kernel
theorem dX8_workAlone_48 : decode cX8_workAlone 48 = .ok (.getfield 116, 3) := by decide +kernel
theorem dX8_workAlone_51 : decode cX8_workAlone 51 = .ok (.aload_n 0, 1) := by decide +kernel
theorem dX8_workAlone_52 : decode cX8_workAlone 52 = .ok (.getfield 12, 3) := by decide +kernel
theorem dX8_workAlone_55 : decode cX8_workAlone 55 = .ok (.getfield 271, 3) := by decide +kernel
theorem dX8_workAlone_58 : decode cX8_workAlone 58 = .ok (.iload_n 1, 1) := by decide +kernel
theorem dX8_workAlone_59 : decode cX8_workAlone 59 = .ok (.iaload, 1) := by decide +kernel
theorem dX8_workAlone_60 : decode cX8_workAlone 60 = .ok (.aload_n 0, 1) := by decide +kernel
theorem dX8_workAlone_61 : decode cX8_workAlone 61 = .ok (.getfield 12, 3) := by decide +kernel
theorem dX8_workAlone_64 : decode cX8_workAlone 64 = .ok (.iload_n 1, 1) := by decide +kernel
theorem dX8_workAlone_65 : decode cX8_workAlone 65 = .ok (.aload_n 0, 1) := by decide +kernel
theorem dX8_workAlone_66 : decode cX8_workAlone 66 = .ok (.getfield 25, 3) := by decide +kernel
theorem dX8_workAlone_69 : decode cX8_workAlone 69 = .ok (.invokevirtual 274, 3) := by decide +kernel
theorem dX8_workAlone_72 : decode cX8_workAlone 72 = .ok (.iload_n 1, 1) := by decide +kernel
theorem dX8_workAlone_73 : decode cX8_workAlone 73 = .ok (.invokevirtual 277, 3) := by decide +kernel
theorem dX8_workAlone_76 : decode cX8_workAlone 76 = .ok (.iinc 1 1, 3) := by decide +kernel
theorem dX8_workAlone_79 : decode cX8_workAlone 79 = .ok (.goto (-70), 3) := by decide +kernel
theorem dX8_workAlone_82 : decode cX8_workAlone 82 = .ok (.iconst 0, 1) := by decide +kernel
theorem dX8_workAlone_83 : decode cX8_workAlone 83 = .ok (.istore_n 1, 1) := by decide +kernel
theorem dX8_workAlone_84 : decode cX8_workAlone 84 = .ok (.iload_n 1, 1) := by decide +kernel
theorem dX8_workAlone_85 : decode cX8_workAlone 85 = .ok (.aload_n 0, 1) := by decide +kernel
theorem dX8_workAlone_86 : decode cX8_workAlone 86 = .ok (.getfield 12, 3) := by decide +kernel
theorem dX8_workAlone_89 : decode cX8_workAlone 89 = .ok (.getfield 64, 3) := by decide +kernel
theorem dX8_workAlone_92 : decode cX8_workAlone 92 = .ok (.if_icmp .ge 28, 3) := by decide +kernel
theorem dX8_workAlone_95 : decode cX8_workAlone 95 = .ok (.aload_n 0, 1) := by decide +kernel
theorem dX8_workAlone_96 : decode cX8_workAlone 96 = .ok (.getfield 31, 3) := by decide +kernel
theorem dX8_workAlone_99 : decode cX8_workAlone 99 = .ok (.aload_n 0, 1) := by decide +kernel
theorem dX8_workAlone_100 : decode cX8_workAlone 100 = .ok (.getfield 12, 3) := by decide +kernel
theorem dX8_workAlone_103 : decode cX8_workAlone 103 = .ok (.getfield 116, 3) := by decide +kernel
theorem dX8_workAlone_106 : decode cX8_workAlone 106 = .ok (.iload_n 1, 1) := by decide +kernel
theorem dX8_workAlone_107 : decode cX8_workAlone 107 = .ok (.aload_n 0, 1) := by decide +kernel
theorem dX8_workAlone_108 : decode cX8_workAlone 108 = .ok (.getfield 25, 3) := by decide +kernel
theorem dX8_workAlone_111 : decode cX8_workAlone 111 = .ok (.invokevirtual 288, 3) := by decide +kernel
theorem dX8_workAlone_114 : decode cX8_workAlone 114 = .ok (.iinc 1 1, 3) := by decide +kernel
theorem dX8_workAlone_117 : decode cX8_workAlone 117 = .ok (.goto (-33), 3) := by decide +kernel
theorem dX8_workAlone_120 : decode cX8_workAlone 120 = .ok (.return_, 1) := by decide +kernel
theorem dX8_comeInto_0 : decode cX8_comeInto 0 = .ok (.aload_n 0, 1) := by decide +kernel
theorem dX8_comeInto_1 : decode cX8_comeInto 1 = .ok (.getfield 51, 3) := by decide +kernel
theorem dX8_comeInto_4 : decode cX8_comeInto 4 = .ok (.iload_n 1, 1) := by decide +kernel
theorem dX8_comeInto_5 : decode cX8_comeInto 5 = .ok (.aaload, 1) := by decide +kernel
theorem dX8_comeInto_6 : decode cX8_comeInto 6 = .ok (.astore_n 3, 1) := by decide +kernel
theorem dX8_comeInto_7 : decode cX8_comeInto 7 = .ok (.aload_n 3, 1) := by decide +kernel
theorem dX8_comeInto_8 : decode cX8_comeInto 8 = .ok (.iload_n 2, 1) := by decide +kernel
theorem dX8_comeInto_9 : decode cX8_comeInto 9 = .ok (.invokevirtual 292, 3) := by decide +kernel
theorem dX8_comeInto_12 : decode cX8_comeInto 12 = .ok (.iload_n 2, 1) := by decide +kernel
theorem dX8_comeInto_13 : decode cX8_comeInto 13 = .ok (.sipush 200, 3) := by decide +kernel
theorem dX8_comeInto_16 : decode cX8_comeInto 16 = .ok (.if_icmp .lt 9, 3) := by decide +kernel
theorem dX8_comeInto_19 : decode cX8_comeInto 19 = .ok (.aload_n 3, 1) := by decide +kernel
theorem dX8_comeInto_20 : decode cX8_comeInto 20 = .ok (.iconst 1, 1) := by decide +kernel
theorem dX8_comeInto_21 : decode cX8_comeInto 21 = .ok (.putfield 236, 3) := by decide +kernel
theorem dX8_comeInto_24 : decode cX8_comeInto 24 = .ok (.return_, 1) := by decide +kernel
theorem dX8_comeInto_25 : decode cX8_comeInto 25 = .ok (.aload_n 0, 1) := by decide +kernel
theorem dX8_comeInto_26 : decode cX8_comeInto 26 = .ok (.iload_n 2, 1) := by decide +kernel
theorem dX8_comeInto_27 : decode cX8_comeInto 27 = .ok (.invokevirtual 295, 3) := by decide +kernel
theorem dX8_comeInto_30 : decode cX8_comeInto 30 = .ok (.ifCond .eq 8, 3) := by decide +kernel
theorem dX8_comeInto_33 : decode cX8_comeInto 33 = .ok (.aload_n 0, 1) := by decide +kernel
theorem dX8_comeInto_34 : decode cX8_comeInto 34 = .ok (.iload_n 1, 1) := by decide +kernel
theorem dX8_comeInto_35 : decode cX8_comeInto 35 = .ok (.invokevirtual 223, 3) := by decide +kernel
theorem dX8_comeInto_38 : decode cX8_comeInto 38 = .ok (.aload_n 0, 1) := by decide +kernel
theorem dX8_comeInto_39 : decode cX8_comeInto 39 = .ok (.iload_n 1, 1) := by decide +kernel
theorem dX8_comeInto_40 : decode cX8_comeInto 40 = .ok (.invokevirtual 208, 3) := by decide +kernel
theorem dX8_comeInto_43 : decode cX8_comeInto 43 = .ok (.return_, 1) := by decide +kernel
theorem dX8_keepMark_0 : decode cX8_keepMark 0 = .ok (.aload_n 0, 1) := by decide +kernel
theorem dX8_keepMark_1 : decode cX8_keepMark 1 = .ok (.getfield 51, 3) := by decide +kernel
theorem dX8_keepMark_4 : decode cX8_keepMark 4 = .ok (.iload_n 1, 1) := by decide +kernel
theorem dX8_keepMark_5 : decode cX8_keepMark 5 = .ok (.aaload, 1) := by decide +kernel
theorem dX8_keepMark_6 : decode cX8_keepMark 6 = .ok (.invokevirtual 298, 3) := by decide +kernel
theorem dX8_keepMark_9 : decode cX8_keepMark 9 = .ok (.astore_n 2, 1) := by decide +kernel
theorem dX8_keepMark_10 : decode cX8_keepMark 10 = .ok (.aload_n 0, 1) := by decide +kernel
theorem dX8_keepMark_11 : decode cX8_keepMark 11 = .ok (.iload_n 1, 1) := by decide +kernel
theorem dX8_keepMark_12 : decode cX8_keepMark 12 = .ok (.aload_n 0, 1) := by decide +kernel
theorem dX8_keepMark_13 : decode cX8_keepMark 13 = .ok (.getfield 21, 3) := by decide +kernel
theorem dX8_keepMark_16 : decode cX8_keepMark 16 = .ok (.aload_n 2, 1) := by decide +kernel
theorem dX8_keepMark_17 : decode cX8_keepMark 17 = .ok (.getfield 201, 3) := by decide +kernel
theorem dX8_keepMark_20 : decode cX8_keepMark 20 = .ok (.invokevirtual 204, 3) := by decide +kernel
theorem dX8_keepMark_23 : decode cX8_keepMark 23 = .ok (.return_, 1) := by decide +kernel
theorem dX8_copyVertices_0 : decode cX8_copyVertices 0 = .ok (.iconst 0, 1) := by decide +kernel
theorem dX8_copyVertices_1 : decode cX8_copyVertices 1 = .ok (.istore 4, 2) := by decide +kernel
theorem dX8_copyVertices_3 : decode cX8_copyVertices 3 = .ok (.iload 4, 2) := by decide +kernel
theorem dX8_copyVertices_5 : decode cX8_copyVertices 5 = .ok (.aload_n 0, 1) := by decide +kernel
theorem dX8_copyVertices_6 : decode cX8_copyVertices 6 = .ok (.getfield 12, 3) := by decide +kernel
theorem dX8_copyVertices_9 : decode cX8_copyVertices 9 = .ok (.getfield 64, 3) := by decide +kernel
theorem dX8_copyVertices_12 : decode cX8_copyVertices 12 = .ok (.if_icmp .ge 30, 3) := by decide +kernel
theorem dX8_copyVertices_15 : decode cX8_copyVertices 15 = .ok (.aload_n 0, 1) := by decide +kernel
theorem dX8_copyVertices_16 : decode cX8_copyVertices 16 = .ok (.getfield 12, 3) := by decide +kernel
theorem dX8_copyVertices_19 : decode cX8_copyVertices 19 = .ok (.getfield 214, 3) := by decide +kernel
theorem dX8_copyVertices_22 : decode cX8_copyVertices 22 = .ok (.iload 4, 2) := by decide +kernel
theorem dX8_copyVertices_24 : decode cX8_copyVertices 24 = .ok (.iaload, 1) := by decide +kernel
theorem dX8_copyVertices_25 : decode cX8_copyVertices 25 = .ok (.iload_n 1, 1) := by decide +kernel
theorem dX8_copyVertices_26 : decode cX8_copyVertices 26 = .ok (.if_icmp .ne 10, 3) := by decide +kernel
theorem dX8_copyVertices_29 : decode cX8_copyVertices 29 = .ok (.aload_n 3, 1) := by decide +kernel
theorem dX8_copyVertices_30 : decode cX8_copyVertices 30 = .ok (.iload 4, 2) := by decide +kernel
theorem dX8_copyVertices_32 : decode cX8_copyVertices 32 = .ok (.aload_n 2, 1) := by decide +kernel
theorem dX8_copyVertices_33 : decode cX8_copyVertices 33 = .ok (.invokevirtual 302, 3) := by decide +kernel
theorem dX8_copyVertices_36 : decode cX8_copyVertices 36 = .ok (.iinc 4 1, 3) := by decide +kernel
theorem dX8_copyVertices_39 : decode cX8_copyVertices 39 = .ok (.goto (-36), 3) := by decide +kernel
theorem dX8_copyVertices_42 : decode cX8_copyVertices 42 = .ok (.return_, 1) := by decide +kernel
theorem dX8_writeLetters_0 : decode cX8_writeLetters 0 = .ok (.aload_n 0, 1) := by decide +kernel
theorem dX8_writeLetters_1 : decode cX8_writeLetters 1 = .ok (.getfield 51, 3) := by decide +kernel
theorem dX8_writeLetters_4 : decode cX8_writeLetters 4 = .ok (.iload_n 1, 1) := by decide +kernel
theorem dX8_writeLetters_5 : decode cX8_writeLetters 5 = .ok (.aaload, 1) := by decide +kernel
theorem dX8_writeLetters_6 : decode cX8_writeLetters 6 = .ok (.astore_n 2, 1) := by decide +kernel
theorem dX8_writeLetters_7 : decode cX8_writeLetters 7 = .ok (.aload_n 0, 1) := by decide +kernel
theorem dX8_writeLetters_8 : decode cX8_writeLetters 8 = .ok (.getfield 12, 3) := by decide +kernel
theorem dX8_writeLetters_11 : decode cX8_writeLetters 11 = .ok (.iload_n 1, 1) := by decide +kernel
theorem dX8_writeLetters_12 : decode cX8_writeLetters 12 = .ok (.aload_n 0, 1) := by decide +kernel
theorem dX8_writeLetters_13 : decode cX8_writeLetters 13 = .ok (.getfield 21, 3) := by decide +kernel
theorem dX8_writeLetters_16 : decode cX8_writeLetters 16 = .ok (.invokevirtual 250, 3) := by decide +kernel
theorem dX8_writeLetters_19 : decode cX8_writeLetters 19 = .ok (.istore_n 3, 1) := by decide +kernel
theorem dX8_writeLetters_20 : decode cX8_writeLetters 20 = .ok (.iconst 0, 1) := by decide +kernel
theorem dX8_writeLetters_21 : decode cX8_writeLetters 21 = .ok (.istore 4, 2) := by decide +kernel
theorem dX8_writeLetters_23 : decode cX8_writeLetters 23 = .ok (.iload 4, 2) := by decide +kernel
theorem dX8_writeLetters_25 : decode cX8_writeLetters 25 = .ok (.aload_n 0, 1) := by decide +kernel
theorem dX8_writeLetters_26 : decode cX8_writeLetters 26 = .ok (.getfield 60, 3) := by decide +kernel
theorem dX8_writeLetters_29 : decode cX8_writeLetters 29 = .ok (.if_icmp .ge 88, 3) := by decide +kernel
theorem dX8_writeLetters_32 : decode cX8_writeLetters 32 = .ok (.iload 4, 2) := by decide +kernel
theorem dX8_writeLetters_34 : decode cX8_writeLetters 34 = .ok (.iload_n 1, 1) := by decide +kernel
theorem dX8_writeLetters_35 : decode cX8_writeLetters 35 = .ok (.if_icmp .eq 76, 3) := by decide +kernel
theorem dX8_writeLetters_38 : decode cX8_writeLetters 38 = .ok (.aload_n 0, 1) := by decide +kernel
theorem dX8_writeLetters_39 : decode cX8_writeLetters 39 = .ok (.getfield 38, 3) := by decide +kernel
theorem dX8_writeLetters_42 : decode cX8_writeLetters 42 = .ok (.aload_n 0, 1) := by decide +kernel
theorem dX8_writeLetters_43 : decode cX8_writeLetters 43 = .ok (.getfield 12, 3) := by decide +kernel
theorem dX8_writeLetters_46 : decode cX8_writeLetters 46 = .ok (.aload_n 0, 1) := by decide +kernel
theorem dX8_writeLetters_47 : decode cX8_writeLetters 47 = .ok (.getfield 21, 3) := by decide +kernel
theorem dX8_writeLetters_50 : decode cX8_writeLetters 50 = .ok (.iload_n 1, 1) := by decide +kernel
theorem dX8_writeLetters_51 : decode cX8_writeLetters 51 = .ok (.iload 4, 2) := by decide +kernel
theorem dX8_writeLetters_53 : decode cX8_writeLetters 53 = .ok (.aload_n 0, 1) := by decide +kernel
theorem dX8_writeLetters_54 : decode cX8_writeLetters 54 = .ok (.getfield 81, 3) := by decide +kernel
theorem dX8_writeLetters_57 : decode cX8_writeLetters 57 = .ok (.invokevirtual 306, 3) := by decide +kernel
theorem dX8_writeLetters_60 : decode cX8_writeLetters 60 = .ok (.new 130, 3) := by decide +kernel
theorem dX8_writeLetters_63 : decode cX8_writeLetters 63 = .ok (.dup, 1) := by decide +kernel
theorem dX8_writeLetters_64 : decode cX8_writeLetters 64 = .ok (.aload_n 0, 1) := by decide +kernel
theorem dX8_writeLetters_65 : decode cX8_writeLetters 65 = .ok (.getfield 88, 3) := by decide +kernel
theorem dX8_writeLetters_68 : decode cX8_writeLetters 68 = .ok (.aload_n 2, 1) := by decide +kernel
theorem dX8_writeLetters_69 : decode cX8_writeLetters 69 = .ok (.getfield 178, 3) := by decide +kernel
theorem dX8_writeLetters_72 : decode cX8_writeLetters 72 = .ok (.iload_n 1, 1) := by decide +kernel
theorem dX8_writeLetters_73 : decode cX8_writeLetters 73 = .ok (.iload 4, 2) := by decide +kernel
theorem dX8_writeLetters_75 : decode cX8_writeLetters 75 = .ok (.iload_n 3, 1) := by decide +kernel
theorem dX8_writeLetters_76 : decode cX8_writeLetters 76 = .ok (.aload_n 0, 1) := by decide +kernel
theorem dX8_writeLetters_77 : decode cX8_writeLetters 77 = .ok (.getfield 38, 3) := by decide +kernel
theorem dX8_writeLetters_80 : decode cX8_writeLetters 80 = .ok (.invokespecial 310, 3) := by decide +kernel
theorem dX8_writeLetters_83 : decode cX8_writeLetters 83 = .ok (.astore 5, 2) := by decide +kernel
theorem dX8_writeLetters_85 : decode cX8_writeLetters 85 = .ok (.aload_n 0, 1) := by decide +kernel
theorem dX8_writeLetters_86 : decode cX8_writeLetters 86 = .ok (.dup, 1) := by decide +kernel
theorem dX8_writeLetters_87 : decode cX8_writeLetters 87 = .ok (.getfield 91, 3) := by decide +kernel
theorem dX8_writeLetters_90 : decode cX8_writeLetters 90 = .ok (.iconst 1, 1) := by decide +kernel
theorem dX8_writeLetters_91 : decode cX8_writeLetters 91 = .ok (.iadd, 1) := by decide +kernel
theorem dX8_writeLetters_92 : decode cX8_writeLetters 92 = .ok (.putfield 91, 3) := by decide +kernel
theorem dX8_writeLetters_95 : decode cX8_writeLetters 95 = .ok (.aload_n 2, 1) := by decide +kernel
theorem dX8_writeLetters_96 : decode cX8_writeLetters 96 = .ok (.aload 5, 2) := by decide +kernel
theorem dX8_writeLetters_98 : decode cX8_writeLetters 98 = .ok (.invokevirtual 313, 3) := by decide +kernel
theorem dX8_writeLetters_101 : decode cX8_writeLetters 101 = .ok (.aload_n 0, 1) := by decide +kernel
theorem dX8_writeLetters_102 : decode cX8_writeLetters 102 = .ok (.getfield 45, 3) := by decide +kernel
theorem dX8_writeLetters_105 : decode cX8_writeLetters 105 = .ok (.aload 5, 2) := by decide +kernel
theorem dX8_writeLetters_107 : decode cX8_writeLetters 107 = .ok (.invokevirtual 171, 3) := by decide +kernel
theorem dX8_writeLetters_110 : decode cX8_writeLetters 110 = .ok (.pop, 1) := by decide +kernel
theorem dX8_writeLetters_111 : decode cX8_writeLetters 111 = .ok (.iinc 4 1, 3) := by decide +kernel
theorem dX8_writeLetters_114 : decode cX8_writeLetters 114 = .ok (.goto (-91), 3) := by decide +kernel
theorem dX8_writeLetters_117 : decode cX8_writeLetters 117 = .ok (.return_, 1) := by decide +kernel
theorem dX8_wholeMark_0 : decode cX8_wholeMark 0 = .ok (.aload_n 0, 1) := by decide +kernel
theorem dX8_wholeMark_1 : decode cX8_wholeMark 1 = .ok (.getfield 51, 3) := by decide +kernel
theorem dX8_wholeMark_4 : decode cX8_wholeMark 4 = .ok (.iconst 0, 1) := by decide +kernel
theorem dX8_wholeMark_5 : decode cX8_wholeMark 5 = .ok (.aaload, 1) := by decide +kernel
theorem dX8_wholeMark_6 : decode cX8_wholeMark 6 = .ok (.getfield 197, 3) := by decide +kernel
theorem dX8_wholeMark_9 : decode cX8_wholeMark 9 = .ok (.getfield 246, 3) := by decide +kernel
theorem dX8_wholeMark_12 : decode cX8_wholeMark 12 = .ok (.istore_n 1, 1) := by decide +kernel
theorem dX8_wholeMark_13 : decode cX8_wholeMark 13 = .ok (.aload_n 0, 1) := by decide +kernel
theorem dX8_wholeMark_14 : decode cX8_wholeMark 14 = .ok (.iload_n 1, 1) := by decide +kernel
theorem dX8_wholeMark_15 : decode cX8_wholeMark 15 = .ok (.invokevirtual 316, 3) := by decide +kernel
theorem dX8_wholeMark_18 : decode cX8_wholeMark 18 = .ok (.ifCond .eq 7, 3) := by decide +kernel
theorem dX8_wholeMark_21 : decode cX8_wholeMark 21 = .ok (.iload_n 1, 1) := by decide +kernel
theorem dX8_wholeMark_22 : decode cX8_wholeMark 22 = .ok (.goto 15, 3) := by decide +kernel
theorem dX8_wholeMark_25 : decode cX8_wholeMark 25 = .ok (.aload_n 0, 1) := by decide +kernel
theorem dX8_wholeMark_26 : decode cX8_wholeMark 26 = .ok (.getfield 51, 3) := by decide +kernel
theorem dX8_wholeMark_29 : decode cX8_wholeMark 29 = .ok (.iconst 0, 1) := by decide +kernel
theorem dX8_wholeMark_30 : decode cX8_wholeMark 30 = .ok (.aaload, 1) := by decide +kernel
theorem dX8_wholeMark_31 : decode cX8_wholeMark 31 = .ok (.getfield 319, 3) := by decide +kernel
theorem dX8_wholeMark_34 : decode cX8_wholeMark 34 = .ok (.getfield 246, 3) := by decide +kernel
theorem dX8_wholeMark_37 : decode cX8_wholeMark 37 = .ok (.ireturn, 1) := by decide +kernel
theorem dX8_isMarkedByAll_0 : decode cX8_isMarkedByAll 0 = .ok (.iconst 0, 1) := by decide +kernel
theorem dX8_isMarkedByAll_1 : decode cX8_isMarkedByAll 1 = .ok (.istore_n 2, 1) := by decide +kernel
theorem dX8_isMarkedByAll_2 : decode cX8_isMarkedByAll 2 = .ok (.iload_n 2, 1) := by decide +kernel
theorem dX8_isMarkedByAll_3 : decode cX8_isMarkedByAll 3 = .ok (.aload_n 0, 1) := by decide +kernel
theorem dX8_isMarkedByAll_4 : decode cX8_isMarkedByAll 4 = .ok (.getfield 60, 3) := by decide +kernel
theorem dX8_isMarkedByAll_7 : decode cX8_isMarkedByAll 7 = .ok (.if_icmp .ge 43, 3) := by decide +kernel
theorem dX8_isMarkedByAll_10 : decode cX8_isMarkedByAll 10 = .ok (.aload_n 0, 1) := by decide +kernel
theorem dX8_isMarkedByAll_11 : decode cX8_isMarkedByAll 11 = .ok (.getfield 51, 3) := by decide +kernel
theorem dX8_isMarkedByAll_14 : decode cX8_isMarkedByAll 14 = .ok (.iload_n 2, 1) := by decide +kernel
theorem dX8_isMarkedByAll_15 : decode cX8_isMarkedByAll 15 = .ok (.aaload, 1) := by decide +kernel
theorem dX8_isMarkedByAll_16 : decode cX8_isMarkedByAll 16 = .ok (.getfield 197, 3) := by decide +kernel
theorem dX8_isMarkedByAll_19 : decode cX8_isMarkedByAll 19 = .ok (.getfield 246, 3) := by decide +kernel
theorem dX8_isMarkedByAll_22 : decode cX8_isMarkedByAll 22 = .ok (.iload_n 1, 1) := by decide +kernel
theorem dX8_isMarkedByAll_23 : decode cX8_isMarkedByAll 23 = .ok (.if_icmp .eq 21, 3) := by decide +kernel
theorem dX8_isMarkedByAll_26 : decode cX8_isMarkedByAll 26 = .ok (.aload_n 0, 1) := by decide +kernel
theorem dX8_isMarkedByAll_27 : decode cX8_isMarkedByAll 27 = .ok (.getfield 51, 3) := by decide +kernel
theorem dX8_isMarkedByAll_30 : decode cX8_isMarkedByAll 30 = .ok (.iload_n 2, 1) := by decide +kernel
theorem dX8_isMarkedByAll_31 : decode cX8_isMarkedByAll 31 = .ok (.aaload, 1) := by decide +kernel
theorem dX8_isMarkedByAll_32 : decode cX8_isMarkedByAll 32 = .ok (.getfield 319, 3) := by decide +kernel
theorem dX8_isMarkedByAll_35 : decode cX8_isMarkedByAll 35 = .ok (.getfield 246, 3) := by decide +kernel
theorem dX8_isMarkedByAll_38 : decode cX8_isMarkedByAll 38 = .ok (.iload_n 1, 1) := by decide +kernel
theorem dX8_isMarkedByAll_39 : decode cX8_isMarkedByAll 39 = .ok (.if_icmp .eq 5, 3) := by decide +kernel
theorem dX8_isMarkedByAll_42 : decode cX8_isMarkedByAll 42 = .ok (.iconst 0, 1) := by decide +kernel
theorem dX8_isMarkedByAll_43 : decode cX8_isMarkedByAll 43 = .ok (.ireturn, 1) := by decide +kernel
theorem dX8_isMarkedByAll_44 : decode cX8_isMarkedByAll 44 = .ok (.iinc 2 1, 3) := by decide +kernel
theorem dX8_isMarkedByAll_47 : decode cX8_isMarkedByAll 47 = .ok (.goto (-45), 3) := by decide +kernel
theorem dX8_isMarkedByAll_50 : decode cX8_isMarkedByAll 50 = .ok (.iconst 1, 1) := by decide +kernel
theorem dX8_isMarkedByAll_51 : decode cX8_isMarkedByAll 51 = .ok (.ireturn, 1) := by decide +kernel
theorem dX8_fold_0 : decode cX8_fold 0 = .ok (.iload_n 0, 1) := by decide +kernel
theorem dX8_fold_1 : decode cX8_fold 1 = .ok (.lookupswitch 39 #[(0, 27), (1, 33)], 27) := by decide +kernel
theorem dX8_fold_28 : decode cX8_fold 28 = .ok (.iload_n 1, 1) := by decide +kernel
theorem dX8_fold_29 : decode cX8_fold 29 = .ok (.iload_n 2, 1) := by decide +kernel
theorem dX8_fold_30 : decode cX8_fold 30 = .ok (.invokestatic 322, 3) := by decide +kernel
theorem dX8_fold_33 : decode cX8_fold 33 = .ok (.ireturn, 1) := by decide +kernel
theorem dX8_fold_34 : decode cX8_fold 34 = .ok (.iload_n 1, 1) := by decide +kernel
theorem dX8_fold_35 : decode cX8_fold 35 = .ok (.iload_n 2, 1) := by decide +kernel
theorem dX8_fold_36 : decode cX8_fold 36 = .ok (.invokestatic 327, 3) := by decide +kernel
theorem dX8_fold_39 : decode cX8_fold 39 = .ok (.ireturn, 1) := by decide +kernel
theorem dX8_fold_40 : decode cX8_fold 40 = .ok (.iload_n 1, 1) := by decide +kernel
theorem dX8_fold_41 : decode cX8_fold 41 = .ok (.iload_n 2, 1) := by decide +kernel
theorem dX8_fold_42 : decode cX8_fold 42 = .ok (.iadd, 1) := by decide +kernel
theorem dX8_fold_43 : decode cX8_fold 43 = .ok (.ireturn, 1) := by decide +kernel
theorem dX9_init_0 : decode cX9_init 0 = .ok (.aload_n 0, 1) := by decide +kernel
theorem dX9_init_1 : decode cX9_init 1 = .ok (.invokespecial 1, 3) := by decide +kernel
theorem dX9_init_4 : decode cX9_init 4 = .ok (.aload_n 0, 1) := by decide +kernel
theorem dX9_init_5 : decode cX9_init 5 = .ok (.iconst 2, 1) := by decide +kernel
theorem dX9_init_6 : decode cX9_init 6 = .ok (.putfield 7, 3) := by decide +kernel
theorem dX9_init_9 : decode cX9_init 9 = .ok (.aload_n 0, 1) := by decide +kernel
theorem dX9_init_10 : decode cX9_init 10 = .ok (.bipush 16, 2) := by decide +kernel
theorem dX9_init_12 : decode cX9_init 12 = .ok (.newarray .int, 2) := by decide +kernel
theorem dX9_init_14 : decode cX9_init 14 = .ok (.putfield 13, 3) := by decide +kernel
theorem dX9_init_17 : decode cX9_init 17 = .ok (.aload_n 0, 1) := by decide +kernel
theorem dX9_init_18 : decode cX9_init 18 = .ok (.bipush 16, 2) := by decide +kernel
theorem dX9_init_20 : decode cX9_init 20 = .ok (.newarray .int, 2) := by decide +kernel
theorem dX9_init_22 : decode cX9_init 22 = .ok (.putfield 17, 3) := by decide +kernel
theorem dX9_init_25 : decode cX9_init 25 = .ok (.aload_n 0, 1) := by decide +kernel
theorem dX9_init_26 : decode cX9_init 26 = .ok (.bipush 16, 2) := by decide +kernel
theorem dX9_init_28 : decode cX9_init 28 = .ok (.newarray .int, 2) := by decide +kernel
theorem dX9_init_30 : decode cX9_init 30 = .ok (.putfield 20, 3) := by decide +kernel
theorem dX9_init_33 : decode cX9_init 33 = .ok (.aload_n 0, 1) := by decide +kernel
theorem dX9_init_34 : decode cX9_init 34 = .ok (.bipush 16, 2) := by decide +kernel
theorem dX9_init_36 : decode cX9_init 36 = .ok (.newarray .boolean, 2) := by decide +kernel
theorem dX9_init_38 : decode cX9_init 38 = .ok (.putfield 23, 3) := by decide +kernel
theorem dX9_init_41 : decode cX9_init 41 = .ok (.aload_n 0, 1) := by decide +kernel
theorem dX9_init_42 : decode cX9_init 42 = .ok (.bipush 16, 2) := by decide +kernel
theorem dX9_init_44 : decode cX9_init 44 = .ok (.newarray .int, 2) := by decide +kernel
theorem dX9_init_46 : decode cX9_init 46 = .ok (.putfield 27, 3) := by decide +kernel
theorem dX9_init_49 : decode cX9_init 49 = .ok (.aload_n 0, 1) := by decide +kernel
theorem dX9_init_50 : decode cX9_init 50 = .ok (.bipush 40, 2) := by decide +kernel
theorem dX9_init_52 : decode cX9_init 52 = .ok (.newarray .int, 2) := by decide +kernel
theorem dX9_init_54 : decode cX9_init 54 = .ok (.putfield 30, 3) := by decide +kernel
theorem dX9_init_57 : decode cX9_init 57 = .ok (.aload_n 0, 1) := by decide +kernel
theorem dX9_init_58 : decode cX9_init 58 = .ok (.bipush 40, 2) := by decide +kernel
theorem dX9_init_60 : decode cX9_init 60 = .ok (.newarray .int, 2) := by decide +kernel
theorem dX9_init_62 : decode cX9_init 62 = .ok (.putfield 33, 3) := by decide +kernel
theorem dX9_init_65 : decode cX9_init 65 = .ok (.aload_n 0, 1) := by decide +kernel
theorem dX9_init_66 : decode cX9_init 66 = .ok (.bipush 40, 2) := by decide +kernel
theorem dX9_init_68 : decode cX9_init 68 = .ok (.newarray .int, 2) := by decide +kernel
theorem dX9_init_70 : decode cX9_init 70 = .ok (.putfield 36, 3) := by decide +kernel
theorem dX9_init_73 : decode cX9_init 73 = .ok (.aload_n 0, 1) := by decide +kernel
theorem dX9_init_74 : decode cX9_init 74 = .ok (.iconst 5, 1) := by decide +kernel
theorem dX9_init_75 : decode cX9_init 75 = .ok (.newarray .int, 2) := by decide +kernel
theorem dX9_init_77 : decode cX9_init 77 = .ok (.putfield 39, 3) := by decide +kernel
theorem dX9_init_80 : decode cX9_init 80 = .ok (.aload_n 0, 1) := by decide +kernel
theorem dX9_init_81 : decode cX9_init 81 = .ok (.iconst 5, 1) := by decide +kernel
theorem dX9_init_82 : decode cX9_init 82 = .ok (.newarray .boolean, 2) := by decide +kernel
theorem dX9_init_84 : decode cX9_init 84 = .ok (.putfield 42, 3) := by decide +kernel
theorem dX9_init_87 : decode cX9_init 87 = .ok (.aload_n 0, 1) := by decide +kernel
theorem dX9_init_88 : decode cX9_init 88 = .ok (.iconst 5, 1) := by decide +kernel
theorem dX9_init_89 : decode cX9_init 89 = .ok (.newarray .boolean, 2) := by decide +kernel
theorem dX9_init_91 : decode cX9_init 91 = .ok (.putfield 45, 3) := by decide +kernel
theorem dX9_init_94 : decode cX9_init 94 = .ok (.aload_n 0, 1) := by decide +kernel
theorem dX9_init_95 : decode cX9_init 95 = .ok (.sipush 160, 3) := by decide +kernel
theorem dX9_init_98 : decode cX9_init 98 = .ok (.newarray .boolean, 2) := by decide +kernel
theorem dX9_init_100 : decode cX9_init 100 = .ok (.putfield 48, 3) := by decide +kernel
theorem dX9_init_103 : decode cX9_init 103 = .ok (.aload_n 0, 1) := by decide +kernel
theorem dX9_init_104 : decode cX9_init 104 = .ok (.sipush 160, 3) := by decide +kernel
theorem dX9_init_107 : decode cX9_init 107 = .ok (.newarray .int, 2) := by decide +kernel
theorem dX9_init_109 : decode cX9_init 109 = .ok (.putfield 51, 3) := by decide +kernel
theorem dX9_init_112 : decode cX9_init 112 = .ok (.aload_n 0, 1) := by decide +kernel
theorem dX9_init_113 : decode cX9_init 113 = .ok (.sipush 160, 3) := by decide +kernel
theorem dX9_init_116 : decode cX9_init 116 = .ok (.newarray .int, 2) := by decide +kernel
theorem dX9_init_118 : decode cX9_init 118 = .ok (.putfield 54, 3) := by decide +kernel
theorem dX9_init_121 : decode cX9_init 121 = .ok (.aload_n 0, 1) := by decide +kernel
theorem dX9_init_122 : decode cX9_init 122 = .ok (.sipush 160, 3) := by decide +kernel
theorem dX9_init_125 : decode cX9_init 125 = .ok (.newarray .int, 2) := by decide +kernel
theorem dX9_init_127 : decode cX9_init 127 = .ok (.putfield 57, 3) := by decide +kernel
theorem dX9_init_130 : decode cX9_init 130 = .ok (.aload_n 0, 1) := by decide +kernel
theorem dX9_init_131 : decode cX9_init 131 = .ok (.sipush 160, 3) := by decide +kernel
theorem dX9_init_134 : decode cX9_init 134 = .ok (.newarray .int, 2) := by decide +kernel
theorem dX9_init_136 : decode cX9_init 136 = .ok (.putfield 60, 3) := by decide +kernel
theorem dX9_init_139 : decode cX9_init 139 = .ok (.aload_n 0, 1) := by decide +kernel
theorem dX9_init_140 : decode cX9_init 140 = .ok (.sipush 160, 3) := by decide +kernel
theorem dX9_init_143 : decode cX9_init 143 = .ok (.newarray .int, 2) := by decide +kernel
theorem dX9_init_145 : decode cX9_init 145 = .ok (.putfield 63, 3) := by decide +kernel
theorem dX9_init_148 : decode cX9_init 148 = .ok (.aload_n 0, 1) := by decide +kernel
theorem dX9_init_149 : decode cX9_init 149 = .ok (.sipush 160, 3) := by decide +kernel
theorem dX9_init_152 : decode cX9_init 152 = .ok (.newarray .int, 2) := by decide +kernel
theorem dX9_init_154 : decode cX9_init 154 = .ok (.putfield 66, 3) := by decide +kernel
theorem dX9_init_157 : decode cX9_init 157 = .ok (.aload_n 0, 1) := by decide +kernel
theorem dX9_init_158 : decode cX9_init 158 = .ok (.sipush 6400, 3) := by decide +kernel
theorem dX9_init_161 : decode cX9_init 161 = .ok (.newarray .int, 2) := by decide +kernel
theorem dX9_init_163 : decode cX9_init 163 = .ok (.putfield 69, 3) := by decide +kernel
theorem dX9_init_166 : decode cX9_init 166 = .ok (.aload_n 0, 1) := by decide +kernel
theorem dX9_init_167 : decode cX9_init 167 = .ok (.sipush 6400, 3) := by decide +kernel
theorem dX9_init_170 : decode cX9_init 170 = .ok (.newarray .int, 2) := by decide +kernel
theorem dX9_init_172 : decode cX9_init 172 = .ok (.putfield 72, 3) := by decide +kernel
theorem dX9_init_175 : decode cX9_init 175 = .ok (.aload_n 0, 1) := by decide +kernel
theorem dX9_init_176 : decode cX9_init 176 = .ok (.sipush 6400, 3) := by decide +kernel
theorem dX9_init_179 : decode cX9_init 179 = .ok (.newarray .int, 2) := by decide +kernel
theorem dX9_init_181 : decode cX9_init 181 = .ok (.putfield 75, 3) := by decide +kernel
theorem dX9_init_184 : decode cX9_init 184 = .ok (.aload_n 0, 1) := by decide +kernel
theorem dX9_init_185 : decode cX9_init 185 = .ok (.bipush 10, 2) := by decide +kernel
theorem dX9_init_187 : decode cX9_init 187 = .ok (.newarray .int, 2) := by decide +kernel
theorem dX9_init_189 : decode cX9_init 189 = .ok (.putfield 78, 3) := by decide +kernel
theorem dX9_init_192 : decode cX9_init 192 = .ok (.aload_n 0, 1) := by decide +kernel
theorem dX9_init_193 : decode cX9_init 193 = .ok (.sipush 160, 3) := by decide +kernel
theorem dX9_init_196 : decode cX9_init 196 = .ok (.newarray .int, 2) := by decide +kernel
theorem dX9_init_198 : decode cX9_init 198 = .ok (.putfield 81, 3) := by decide +kernel
theorem dX9_init_201 : decode cX9_init 201 = .ok (.aload_n 0, 1) := by decide +kernel
theorem dX9_init_202 : decode cX9_init 202 = .ok (.sipush 160, 3) := by decide +kernel
theorem dX9_init_205 : decode cX9_init 205 = .ok (.newarray .int, 2) := by decide +kernel
theorem dX9_init_207 : decode cX9_init 207 = .ok (.putfield 84, 3) := by decide +kernel
theorem dX9_init_210 : decode cX9_init 210 = .ok (.aload_n 0, 1) := by decide +kernel
theorem dX9_init_211 : decode cX9_init 211 = .ok (.sipush 160, 3) := by decide +kernel
theorem dX9_init_214 : decode cX9_init 214 = .ok (.newarray .boolean, 2) := by decide +kernel
theorem dX9_init_216 : decode cX9_init 216 = .ok (.putfield 87, 3) := by decide +kernel
theorem dX9_init_219 : decode cX9_init 219 = .ok (.aload_n 0, 1) := by decide +kernel
theorem dX9_init_220 : decode cX9_init 220 = .ok (.iconst 4, 1) := by decide +kernel
theorem dX9_init_221 : decode cX9_init 221 = .ok (.newarray .int, 2) := by decide +kernel
theorem dX9_init_223 : decode cX9_init 223 = .ok (.putfield 90, 3) := by decide +kernel
theorem dX9_init_226 : decode cX9_init 226 = .ok (.aload_n 0, 1) := by decide +kernel
theorem dX9_init_227 : decode cX9_init 227 = .ok (.bipush 16, 2) := by decide +kernel
theorem dX9_init_229 : decode cX9_init 229 = .ok (.newarray .boolean, 2) := by decide +kernel
theorem dX9_init_231 : decode cX9_init 231 = .ok (.putfield 93, 3) := by decide +kernel
theorem dX9_init_234 : decode cX9_init 234 = .ok (.aload_n 0, 1) := by decide +kernel
theorem dX9_init_235 : decode cX9_init 235 = .ok (.bipush 16, 2) := by decide +kernel
theorem dX9_init_237 : decode cX9_init 237 = .ok (.newarray .int, 2) := by decide +kernel
theorem dX9_init_239 : decode cX9_init 239 = .ok (.putfield 96, 3) := by decide +kernel
theorem dX9_init_242 : decode cX9_init 242 = .ok (.aload_n 0, 1) := by decide +kernel
theorem dX9_init_243 : decode cX9_init 243 = .ok (.bipush 16, 2) := by decide +kernel
theorem dX9_init_245 : decode cX9_init 245 = .ok (.newarray .int, 2) := by decide +kernel
theorem dX9_init_247 : decode cX9_init 247 = .ok (.putfield 99, 3) := by decide +kernel
theorem dX9_init_250 : decode cX9_init 250 = .ok (.aload_n 0, 1) := by decide +kernel
theorem dX9_init_251 : decode cX9_init 251 = .ok (.bipush 16, 2) := by decide +kernel
theorem dX9_init_253 : decode cX9_init 253 = .ok (.newarray .int, 2) := by decide +kernel
theorem dX9_init_255 : decode cX9_init 255 = .ok (.putfield 102, 3) := by decide +kernel
theorem dX9_init_258 : decode cX9_init 258 = .ok (.aload_n 0, 1) := by decide +kernel
theorem dX9_init_259 : decode cX9_init 259 = .ok (.bipush 16, 2) := by decide +kernel
theorem dX9_init_261 : decode cX9_init 261 = .ok (.newarray .int, 2) := by decide +kernel
theorem dX9_init_263 : decode cX9_init 263 = .ok (.putfield 105, 3) := by decide +kernel
theorem dX9_init_266 : decode cX9_init 266 = .ok (.aload_n 0, 1) := by decide +kernel
theorem dX9_init_267 : decode cX9_init 267 = .ok (.bipush 16, 2) := by decide +kernel
theorem dX9_init_269 : decode cX9_init 269 = .ok (.newarray .boolean, 2) := by decide +kernel
theorem dX9_init_271 : decode cX9_init 271 = .ok (.putfield 108, 3) := by decide +kernel
theorem dX9_init_274 : decode cX9_init 274 = .ok (.aload_n 0, 1) := by decide +kernel
theorem dX9_init_275 : decode cX9_init 275 = .ok (.iconst 2, 1) := by decide +kernel
theorem dX9_init_276 : decode cX9_init 276 = .ok (.invokevirtual 111, 3) := by decide +kernel
theorem dX9_init_279 : decode cX9_init 279 = .ok (.return_, 1) := by decide +kernel
theorem dX9_in_0 : decode cX9_in 0 = .ok (.iload_n 0, 1) := by decide +kernel
theorem dX9_in_1 : decode cX9_in 1 = .ok (.iload_n 1, 1) := by decide +kernel
theorem dX9_in_2 : decode cX9_in 2 = .ok (.if_icmp .lt 12, 3) := by decide +kernel
theorem dX9_in_5 : decode cX9_in 5 = .ok (.iload_n 0, 1) := by decide +kernel
theorem dX9_in_6 : decode cX9_in 6 = .ok (.iload_n 2, 1) := by decide +kernel
theorem dX9_in_7 : decode cX9_in 7 = .ok (.if_icmp .gt 7, 3) := by decide +kernel
theorem dX9_in_10 : decode cX9_in 10 = .ok (.iconst 1, 1) := by decide +kernel
theorem dX9_in_11 : decode cX9_in 11 = .ok (.goto 4, 3) := by decide +kernel
theorem dX9_in_14 : decode cX9_in 14 = .ok (.iconst 0, 1) := by decide +kernel
theorem dX9_in_15 : decode cX9_in 15 = .ok (.ireturn, 1) := by decide +kernel
theorem dX9_wipe_0 : decode cX9_wipe 0 = .ok (.aload_n 0, 1) := by decide +kernel
theorem dX9_wipe_1 : decode cX9_wipe 1 = .ok (.iload_n 1, 1) := by decide +kernel
theorem dX9_wipe_2 : decode cX9_wipe 2 = .ok (.putfield 7, 3) := by decide +kernel
theorem dX9_wipe_5 : decode cX9_wipe 5 = .ok (.aload_n 0, 1) := by decide +kernel
theorem dX9_wipe_6 : decode cX9_wipe 6 = .ok (.iconst 0, 1) := by decide +kernel
theorem dX9_wipe_7 : decode cX9_wipe 7 = .ok (.putfield 115, 3) := by decide +kernel
theorem dX9_wipe_10 : decode cX9_wipe 10 = .ok (.aload_n 0, 1) := by decide +kernel
theorem dX9_wipe_11 : decode cX9_wipe 11 = .ok (.iconst 0, 1) := by decide +kernel
theorem dX9_wipe_12 : decode cX9_wipe 12 = .ok (.putfield 118, 3) := by decide +kernel
theorem dX9_wipe_15 : decode cX9_wipe 15 = .ok (.aload_n 0, 1) := by decide +kernel
theorem dX9_wipe_16 : decode cX9_wipe 16 = .ok (.iconst 0, 1) := by decide +kernel
theorem dX9_wipe_17 : decode cX9_wipe 17 = .ok (.putfield 121, 3) := by decide +kernel
theorem dX9_wipe_20 : decode cX9_wipe 20 = .ok (.aload_n 0, 1) := by decide +kernel
theorem dX9_wipe_21 : decode cX9_wipe 21 = .ok (.iconst 0, 1) := by decide +kernel
theorem dX9_wipe_22 : decode cX9_wipe 22 = .ok (.putfield 124, 3) := by decide +kernel
theorem dX9_wipe_25 : decode cX9_wipe 25 = .ok (.aload_n 0, 1) := by decide +kernel
theorem dX9_wipe_26 : decode cX9_wipe 26 = .ok (.iconst 0, 1) := by decide +kernel
theorem dX9_wipe_27 : decode cX9_wipe 27 = .ok (.putfield 128, 3) := by decide +kernel
theorem dX9_wipe_30 : decode cX9_wipe 30 = .ok (.aload_n 0, 1) := by decide +kernel
theorem dX9_wipe_31 : decode cX9_wipe 31 = .ok (.iconst 0, 1) := by decide +kernel
theorem dX9_wipe_32 : decode cX9_wipe 32 = .ok (.putfield 131, 3) := by decide +kernel
theorem dX9_wipe_35 : decode cX9_wipe 35 = .ok (.aload_n 0, 1) := by decide +kernel
theorem dX9_wipe_36 : decode cX9_wipe 36 = .ok (.iconst 0, 1) := by decide +kernel
theorem dX9_wipe_37 : decode cX9_wipe 37 = .ok (.putfield 134, 3) := by decide +kernel
theorem dX9_wipe_40 : decode cX9_wipe 40 = .ok (.aload_n 0, 1) := by decide +kernel
theorem dX9_wipe_41 : decode cX9_wipe 41 = .ok (.iconst 0, 1) := by decide +kernel
theorem dX9_wipe_42 : decode cX9_wipe 42 = .ok (.putfield 137, 3) := by decide +kernel
theorem dX9_wipe_45 : decode cX9_wipe 45 = .ok (.aload_n 0, 1) := by decide +kernel
theorem dX9_wipe_46 : decode cX9_wipe 46 = .ok (.iconst 0, 1) := by decide +kernel
theorem dX9_wipe_47 : decode cX9_wipe 47 = .ok (.putfield 140, 3) := by decide +kernel
theorem dX9_wipe_50 : decode cX9_wipe 50 = .ok (.iconst 0, 1) := by decide +kernel
theorem dX9_wipe_51 : decode cX9_wipe 51 = .ok (.istore_n 2, 1) := by decide +kernel
theorem dX9_wipe_52 : decode cX9_wipe 52 = .ok (.iload_n 2, 1) := by decide +kernel
theorem dX9_wipe_53 : decode cX9_wipe 53 = .ok (.iconst 4, 1) := by decide +kernel
theorem dX9_wipe_54 : decode cX9_wipe 54 = .ok (.if_icmp .ge 16, 3) := by decide +kernel
theorem dX9_wipe_57 : decode cX9_wipe 57 = .ok (.aload_n 0, 1) := by decide +kernel
theorem dX9_wipe_58 : decode cX9_wipe 58 = .ok (.getfield 90, 3) := by decide +kernel
theorem dX9_wipe_61 : decode cX9_wipe 61 = .ok (.iload_n 2, 1) := by decide +kernel
theorem dX9_wipe_62 : decode cX9_wipe 62 = .ok (.iconst 0, 1) := by decide +kernel
theorem dX9_wipe_63 : decode cX9_wipe 63 = .ok (.iastore, 1) := by decide +kernel
theorem dX9_wipe_64 : decode cX9_wipe 64 = .ok (.iinc 2 1, 3) := by decide +kernel
theorem dX9_wipe_67 : decode cX9_wipe 67 = .ok (.goto (-15), 3) := by decide +kernel
theorem dX9_wipe_70 : decode cX9_wipe 70 = .ok (.iconst 0, 1) := by decide +kernel
theorem dX9_wipe_71 : decode cX9_wipe 71 = .ok (.istore_n 2, 1) := by decide +kernel
theorem dX9_wipe_72 : decode cX9_wipe 72 = .ok (.iload_n 2, 1) := by decide +kernel
theorem dX9_wipe_73 : decode cX9_wipe 73 = .ok (.iconst 5, 1) := by decide +kernel
theorem dX9_wipe_74 : decode cX9_wipe 74 = .ok (.if_icmp .ge 50, 3) := by decide +kernel
theorem dX9_wipe_77 : decode cX9_wipe 77 = .ok (.aload_n 0, 1) := by decide +kernel
theorem dX9_wipe_78 : decode cX9_wipe 78 = .ok (.getfield 39, 3) := by decide +kernel
theorem dX9_wipe_81 : decode cX9_wipe 81 = .ok (.iload_n 2, 1) := by decide +kernel
theorem dX9_wipe_82 : decode cX9_wipe 82 = .ok (.iconst 0, 1) := by decide +kernel
theorem dX9_wipe_83 : decode cX9_wipe 83 = .ok (.iastore, 1) := by decide +kernel
theorem dX9_wipe_84 : decode cX9_wipe 84 = .ok (.aload_n 0, 1) := by decide +kernel
theorem dX9_wipe_85 : decode cX9_wipe 85 = .ok (.getfield 42, 3) := by decide +kernel
theorem dX9_wipe_88 : decode cX9_wipe 88 = .ok (.iload_n 2, 1) := by decide +kernel
theorem dX9_wipe_89 : decode cX9_wipe 89 = .ok (.iconst 0, 1) := by decide +kernel
theorem dX9_wipe_90 : decode cX9_wipe 90 = .ok (.bastore, 1) := by decide +kernel
theorem dX9_wipe_91 : decode cX9_wipe 91 = .ok (.aload_n 0, 1) := by decide +kernel
theorem dX9_wipe_92 : decode cX9_wipe 92 = .ok (.getfield 45, 3) := by decide +kernel
theorem dX9_wipe_95 : decode cX9_wipe 95 = .ok (.iload_n 2, 1) := by decide +kernel
theorem dX9_wipe_96 : decode cX9_wipe 96 = .ok (.iconst 0, 1) := by decide +kernel
theorem dX9_wipe_97 : decode cX9_wipe 97 = .ok (.bastore, 1) := by decide +kernel
theorem dX9_wipe_98 : decode cX9_wipe 98 = .ok (.aload_n 0, 1) := by decide +kernel
theorem dX9_wipe_99 : decode cX9_wipe 99 = .ok (.getfield 78, 3) := by decide +kernel
theorem dX9_wipe_102 : decode cX9_wipe 102 = .ok (.iconst 2, 1) := by decide +kernel
theorem dX9_wipe_103 : decode cX9_wipe 103 = .ok (.iload_n 2, 1) := by decide +kernel
theorem dX9_wipe_104 : decode cX9_wipe 104 = .ok (.imul, 1) := by decide +kernel
theorem dX9_wipe_105 : decode cX9_wipe 105 = .ok (.iconst (-1), 1) := by decide +kernel
theorem dX9_wipe_106 : decode cX9_wipe 106 = .ok (.iastore, 1) := by decide +kernel
theorem dX9_wipe_107 : decode cX9_wipe 107 = .ok (.aload_n 0, 1) := by decide +kernel
theorem dX9_wipe_108 : decode cX9_wipe 108 = .ok (.getfield 78, 3) := by decide +kernel
theorem dX9_wipe_111 : decode cX9_wipe 111 = .ok (.iconst 2, 1) := by decide +kernel
theorem dX9_wipe_112 : decode cX9_wipe 112 = .ok (.iload_n 2, 1) := by decide +kernel
theorem dX9_wipe_113 : decode cX9_wipe 113 = .ok (.imul, 1) := by decide +kernel
theorem dX9_wipe_114 : decode cX9_wipe 114 = .ok (.iconst 1, 1) := by decide +kernel
theorem dX9_wipe_115 : decode cX9_wipe 115 = .ok (.iadd, 1) := by decide +kernel
theorem dX9_wipe_116 : decode cX9_wipe 116 = .ok (.iconst (-1), 1) := by decide +kernel
theorem dX9_wipe_117 : decode cX9_wipe 117 = .ok (.iastore, 1) := by decide +kernel
theorem dX9_wipe_118 : decode cX9_wipe 118 = .ok (.iinc 2 1, 3) := by decide +kernel
theorem dX9_wipe_121 : decode cX9_wipe 121 = .ok (.goto (-49), 3) := by decide +kernel
theorem dX9_wipe_124 : decode cX9_wipe 124 = .ok (.iconst 0, 1) := by decide +kernel
theorem dX9_wipe_125 : decode cX9_wipe 125 = .ok (.istore_n 2, 1) := by decide +kernel
theorem dX9_wipe_126 : decode cX9_wipe 126 = .ok (.iload_n 2, 1) := by decide +kernel
theorem dX9_wipe_127 : decode cX9_wipe 127 = .ok (.sipush 160, 3) := by decide +kernel
theorem dX9_wipe_130 : decode cX9_wipe 130 = .ok (.if_icmp .ge 16, 3) := by decide +kernel
theorem dX9_wipe_133 : decode cX9_wipe 133 = .ok (.aload_n 0, 1) := by decide +kernel
theorem dX9_wipe_134 : decode cX9_wipe 134 = .ok (.getfield 48, 3) := by decide +kernel
theorem dX9_wipe_137 : decode cX9_wipe 137 = .ok (.iload_n 2, 1) := by decide +kernel
theorem dX9_wipe_138 : decode cX9_wipe 138 = .ok (.iconst 0, 1) := by decide +kernel
theorem dX9_wipe_139 : decode cX9_wipe 139 = .ok (.bastore, 1) := by decide +kernel
theorem dX9_wipe_140 : decode cX9_wipe 140 = .ok (.iinc 2 1, 3) := by decide +kernel
theorem dX9_wipe_143 : decode cX9_wipe 143 = .ok (.goto (-17), 3) := by decide +kernel
theorem dX9_wipe_146 : decode cX9_wipe 146 = .ok (.return_, 1) := by decide +kernel
theorem dX9_nodes_0 : decode cX9_nodes 0 = .ok (.iload_n 1, 1) := by decide +kernel
theorem dX9_nodes_1 : decode cX9_nodes 1 = .ok (.iconst 2, 1) := by decide +kernel
theorem dX9_nodes_2 : decode cX9_nodes 2 = .ok (.iconst 5, 1) := by decide +kernel
theorem dX9_nodes_3 : decode cX9_nodes 3 = .ok (.invokestatic 143, 3) := by decide +kernel
theorem dX9_nodes_6 : decode cX9_nodes 6 = .ok (.ifCond .ne 5, 3) := by decide +kernel
theorem dX9_nodes_9 : decode cX9_nodes 9 = .ok (.iconst (-1), 1) := by decide +kernel
theorem dX9_nodes_10 : decode cX9_nodes 10 = .ok (.ireturn, 1) := by decide +kernel
theorem dX9_nodes_11 : decode cX9_nodes 11 = .ok (.aload_n 0, 1) := by decide +kernel
theorem dX9_nodes_12 : decode cX9_nodes 12 = .ok (.getfield 115, 3) := by decide +kernel
theorem dX9_nodes_15 : decode cX9_nodes 15 = .ok (.istore_n 2, 1) := by decide +kernel
theorem dX9_nodes_16 : decode cX9_nodes 16 = .ok (.aload_n 0, 1) := by decide +kernel
theorem dX9_nodes_17 : decode cX9_nodes 17 = .ok (.iload_n 1, 1) := by decide +kernel
theorem dX9_nodes_18 : decode cX9_nodes 18 = .ok (.invokevirtual 111, 3) := by decide +kernel
theorem dX9_nodes_21 : decode cX9_nodes 21 = .ok (.iload_n 2, 1) := by decide +kernel
theorem dX9_nodes_22 : decode cX9_nodes 22 = .ok (.ireturn, 1) := by decide +kernel
theorem dX9_isNode_0 : decode cX9_isNode 0 = .ok (.iload_n 1, 1) := by decide +kernel
theorem dX9_isNode_1 : decode cX9_isNode 1 = .ok (.iconst 0, 1) := by decide +kernel
theorem dX9_isNode_2 : decode cX9_isNode 2 = .ok (.aload_n 0, 1) := by decide +kernel
theorem dX9_isNode_3 : decode cX9_isNode 3 = .ok (.getfield 7, 3) := by decide +kernel
theorem dX9_isNode_6 : decode cX9_isNode 6 = .ok (.iconst 1, 1) := by decide +kernel
theorem dX9_isNode_7 : decode cX9_isNode 7 = .ok (.isub, 1) := by decide +kernel
theorem dX9_isNode_8 : decode cX9_isNode 8 = .ok (.invokestatic 143, 3) := by decide +kernel
theorem dX9_isNode_11 : decode cX9_isNode 11 = .ok (.ireturn, 1) := by decide +kernel
theorem dX9_isVertex_0 : decode cX9_isVertex 0 = .ok (.iload_n 1, 1) := by decide +kernel
theorem dX9_isVertex_1 : decode cX9_isVertex 1 = .ok (.iconst 0, 1) := by decide +kernel
theorem dX9_isVertex_2 : decode cX9_isVertex 2 = .ok (.aload_n 0, 1) := by decide +kernel
theorem dX9_isVertex_3 : decode cX9_isVertex 3 = .ok (.getfield 115, 3) := by decide +kernel
theorem dX9_isVertex_6 : decode cX9_isVertex 6 = .ok (.iconst 1, 1) := by decide +kernel
theorem dX9_isVertex_7 : decode cX9_isVertex 7 = .ok (.isub, 1) := by decide +kernel
theorem dX9_isVertex_8 : decode cX9_isVertex 8 = .ok (.invokestatic 143, 3) := by decide +kernel
theorem dX9_isVertex_11 : decode cX9_isVertex 11 = .ok (.ireturn, 1) := by decide +kernel
theorem dX9_vertex_0 : decode cX9_vertex 0 = .ok (.aload_n 0, 1) := by decide +kernel
theorem dX9_vertex_1 : decode cX9_vertex 1 = .ok (.iload_n 1, 1) := by decide +kernel
theorem dX9_vertex_2 : decode cX9_vertex 2 = .ok (.invokevirtual 147, 3) := by decide +kernel
theorem dX9_vertex_5 : decode cX9_vertex 5 = .ok (.ifCond .ne 5, 3) := by decide +kernel
theorem dX9_vertex_8 : decode cX9_vertex 8 = .ok (.iconst (-1), 1) := by decide +kernel
theorem dX9_vertex_9 : decode cX9_vertex 9 = .ok (.ireturn, 1) := by decide +kernel
theorem dX9_vertex_10 : decode cX9_vertex 10 = .ok (.aload_n 0, 1) := by decide +kernel
theorem dX9_vertex_11 : decode cX9_vertex 11 = .ok (.getfield 131, 3) := by decide +kernel
theorem dX9_vertex_14 : decode cX9_vertex 14 = .ok (.ifCond .eq 6, 3) := by decide +kernel
theorem dX9_vertex_17 : decode cX9_vertex 17 = .ok (.bipush (-2), 2) := by decide +kernel
theorem dX9_vertex_19 : decode cX9_vertex 19 = .ok (.ireturn, 1) := by decide +kernel
theorem dX9_vertex_20 : decode cX9_vertex 20 = .ok (.aload_n 0, 1) := by decide +kernel
theorem dX9_vertex_21 : decode cX9_vertex 21 = .ok (.getfield 115, 3) := by decide +kernel
theorem dX9_vertex_24 : decode cX9_vertex 24 = .ok (.bipush 16, 2) := by decide +kernel
theorem dX9_vertex_26 : decode cX9_vertex 26 = .ok (.if_icmp .ne 6, 3) := by decide +kernel
theorem dX9_vertex_29 : decode cX9_vertex 29 = .ok (.bipush (-3), 2) := by decide +kernel
theorem dX9_vertex_31 : decode cX9_vertex 31 = .ok (.ireturn, 1) := by decide +kernel
theorem dX9_vertex_32 : decode cX9_vertex 32 = .ok (.aload_n 0, 1) := by decide +kernel
theorem dX9_vertex_33 : decode cX9_vertex 33 = .ok (.getfield 13, 3) := by decide +kernel
theorem dX9_vertex_36 : decode cX9_vertex 36 = .ok (.aload_n 0, 1) := by decide +kernel
theorem dX9_vertex_37 : decode cX9_vertex 37 = .ok (.getfield 115, 3) := by decide +kernel
theorem dX9_vertex_40 : decode cX9_vertex 40 = .ok (.iload_n 2, 1) := by decide +kernel
theorem dX9_vertex_41 : decode cX9_vertex 41 = .ok (.iastore, 1) := by decide +kernel
theorem dX9_vertex_42 : decode cX9_vertex 42 = .ok (.aload_n 0, 1) := by decide +kernel
theorem dX9_vertex_43 : decode cX9_vertex 43 = .ok (.getfield 17, 3) := by decide +kernel
theorem dX9_vertex_46 : decode cX9_vertex 46 = .ok (.aload_n 0, 1) := by decide +kernel
theorem dX9_vertex_47 : decode cX9_vertex 47 = .ok (.getfield 115, 3) := by decide +kernel
theorem dX9_vertex_50 : decode cX9_vertex 50 = .ok (.iload_n 2, 1) := by decide +kernel
theorem dX9_vertex_51 : decode cX9_vertex 51 = .ok (.iastore, 1) := by decide +kernel
theorem dX9_vertex_52 : decode cX9_vertex 52 = .ok (.aload_n 0, 1) := by decide +kernel
theorem dX9_vertex_53 : decode cX9_vertex 53 = .ok (.getfield 20, 3) := by decide +kernel
theorem dX9_vertex_56 : decode cX9_vertex 56 = .ok (.aload_n 0, 1) := by decide +kernel
theorem dX9_vertex_57 : decode cX9_vertex 57 = .ok (.getfield 115, 3) := by decide +kernel
theorem dX9_vertex_60 : decode cX9_vertex 60 = .ok (.iconst 0, 1) := by decide +kernel
theorem dX9_vertex_61 : decode cX9_vertex 61 = .ok (.iastore, 1) := by decide +kernel
theorem dX9_vertex_62 : decode cX9_vertex 62 = .ok (.aload_n 0, 1) := by decide +kernel
theorem dX9_vertex_63 : decode cX9_vertex 63 = .ok (.getfield 23, 3) := by decide +kernel
theorem dX9_vertex_66 : decode cX9_vertex 66 = .ok (.aload_n 0, 1) := by decide +kernel
theorem dX9_vertex_67 : decode cX9_vertex 67 = .ok (.getfield 115, 3) := by decide +kernel
theorem dX9_vertex_70 : decode cX9_vertex 70 = .ok (.iconst 1, 1) := by decide +kernel
theorem dX9_vertex_71 : decode cX9_vertex 71 = .ok (.bastore, 1) := by decide +kernel
theorem dX9_vertex_72 : decode cX9_vertex 72 = .ok (.aload_n 0, 1) := by decide +kernel
theorem dX9_vertex_73 : decode cX9_vertex 73 = .ok (.getfield 27, 3) := by decide +kernel
theorem dX9_vertex_76 : decode cX9_vertex 76 = .ok (.aload_n 0, 1) := by decide +kernel
theorem dX9_vertex_77 : decode cX9_vertex 77 = .ok (.getfield 115, 3) := by decide +kernel
theorem dX9_vertex_80 : decode cX9_vertex 80 = .ok (.iload_n 1, 1) := by decide +kernel
theorem dX9_vertex_81 : decode cX9_vertex 81 = .ok (.iastore, 1) := by decide +kernel
theorem dX9_vertex_82 : decode cX9_vertex 82 = .ok (.aload_n 0, 1) := by decide +kernel
theorem dX9_vertex_83 : decode cX9_vertex 83 = .ok (.dup, 1) := by decide +kernel
theorem dX9_vertex_84 : decode cX9_vertex 84 = .ok (.getfield 115, 3) := by decide +kernel
theorem dX9_vertex_87 : decode cX9_vertex 87 = .ok (.iconst 1, 1) := by decide +kernel
theorem dX9_vertex_88 : decode cX9_vertex 88 = .ok (.iadd, 1) := by decide +kernel
theorem dX9_vertex_89 : decode cX9_vertex 89 = .ok (.putfield 115, 3) := by decide +kernel
theorem dX9_vertex_92 : decode cX9_vertex 92 = .ok (.aload_n 0, 1) := by decide +kernel
theorem dX9_vertex_93 : decode cX9_vertex 93 = .ok (.getfield 115, 3) := by decide +kernel
theorem dX9_vertex_96 : decode cX9_vertex 96 = .ok (.iconst 1, 1) := by decide +kernel
theorem dX9_vertex_97 : decode cX9_vertex 97 = .ok (.isub, 1) := by decide +kernel
theorem dX9_vertex_98 : decode cX9_vertex 98 = .ok (.ireturn, 1) := by decide +kernel
theorem dX9_arc_0 : decode cX9_arc 0 = .ok (.aload_n 0, 1) := by decide +kernel
theorem dX9_arc_1 : decode cX9_arc 1 = .ok (.iload_n 1, 1) := by decide +kernel
theorem dX9_arc_2 : decode cX9_arc 2 = .ok (.invokevirtual 151, 3) := by decide +kernel
theorem dX9_arc_5 : decode cX9_arc 5 = .ok (.ifCond .eq 24, 3) := by decide +kernel
theorem dX9_arc_8 : decode cX9_arc 8 = .ok (.aload_n 0, 1) := by decide +kernel
theorem dX9_arc_9 : decode cX9_arc 9 = .ok (.iload_n 2, 1) := by decide +kernel
theorem dX9_arc_10 : decode cX9_arc 10 = .ok (.invokevirtual 151, 3) := by decide +kernel
theorem dX9_arc_13 : decode cX9_arc 13 = .ok (.ifCond .eq 16, 3) := by decide +kernel
theorem dX9_arc_16 : decode cX9_arc 16 = .ok (.iload_n 3, 1) := by decide +kernel
theorem dX9_arc_17 : decode cX9_arc 17 = .ok (.sipush (-1000), 3) := by decide +kernel
theorem dX9_arc_20 : decode cX9_arc 20 = .ok (.sipush 1000, 3) := by decide +kernel
theorem dX9_arc_23 : decode cX9_arc 23 = .ok (.invokestatic 143, 3) := by decide +kernel
theorem dX9_arc_26 : decode cX9_arc 26 = .ok (.ifCond .ne 5, 3) := by decide +kernel
theorem dX9_arc_29 : decode cX9_arc 29 = .ok (.iconst (-1), 1) := by decide +kernel
theorem dX9_arc_30 : decode cX9_arc 30 = .ok (.ireturn, 1) := by decide +kernel
theorem dX9_arc_31 : decode cX9_arc 31 = .ok (.aload_n 0, 1) := by decide +kernel
theorem dX9_arc_32 : decode cX9_arc 32 = .ok (.getfield 131, 3) := by decide +kernel
theorem dX9_arc_35 : decode cX9_arc 35 = .ok (.ifCond .eq 6, 3) := by decide +kernel
theorem dX9_arc_38 : decode cX9_arc 38 = .ok (.bipush (-2), 2) := by decide +kernel
theorem dX9_arc_40 : decode cX9_arc 40 = .ok (.ireturn, 1) := by decide +kernel
theorem dX9_arc_41 : decode cX9_arc 41 = .ok (.aload_n 0, 1) := by decide +kernel
theorem dX9_arc_42 : decode cX9_arc 42 = .ok (.getfield 118, 3) := by decide +kernel
theorem dX9_arc_45 : decode cX9_arc 45 = .ok (.bipush 40, 2) := by decide +kernel
theorem dX9_arc_47 : decode cX9_arc 47 = .ok (.if_icmp .ne 6, 3) := by decide +kernel
theorem dX9_arc_50 : decode cX9_arc 50 = .ok (.bipush (-3), 2) := by decide +kernel
theorem dX9_arc_52 : decode cX9_arc 52 = .ok (.ireturn, 1) := by decide +kernel
theorem dX9_arc_53 : decode cX9_arc 53 = .ok (.aload_n 0, 1) := by decide +kernel
theorem dX9_arc_54 : decode cX9_arc 54 = .ok (.getfield 30, 3) := by decide +kernel
theorem dX9_arc_57 : decode cX9_arc 57 = .ok (.aload_n 0, 1) := by decide +kernel
theorem dX9_arc_58 : decode cX9_arc 58 = .ok (.getfield 118, 3) := by decide +kernel
theorem dX9_arc_61 : decode cX9_arc 61 = .ok (.iload_n 1, 1) := by decide +kernel
theorem dX9_arc_62 : decode cX9_arc 62 = .ok (.iastore, 1) := by decide +kernel
theorem dX9_arc_63 : decode cX9_arc 63 = .ok (.aload_n 0, 1) := by decide +kernel
theorem dX9_arc_64 : decode cX9_arc 64 = .ok (.getfield 33, 3) := by decide +kernel
theorem dX9_arc_67 : decode cX9_arc 67 = .ok (.aload_n 0, 1) := by decide +kernel
theorem dX9_arc_68 : decode cX9_arc 68 = .ok (.getfield 118, 3) := by decide +kernel
theorem dX9_arc_71 : decode cX9_arc 71 = .ok (.iload_n 2, 1) := by decide +kernel
theorem dX9_arc_72 : decode cX9_arc 72 = .ok (.iastore, 1) := by decide +kernel
theorem dX9_arc_73 : decode cX9_arc 73 = .ok (.aload_n 0, 1) := by decide +kernel
theorem dX9_arc_74 : decode cX9_arc 74 = .ok (.getfield 36, 3) := by decide +kernel
theorem dX9_arc_77 : decode cX9_arc 77 = .ok (.aload_n 0, 1) := by decide +kernel
theorem dX9_arc_78 : decode cX9_arc 78 = .ok (.getfield 118, 3) := by decide +kernel
theorem dX9_arc_81 : decode cX9_arc 81 = .ok (.iload_n 3, 1) := by decide +kernel
theorem dX9_arc_82 : decode cX9_arc 82 = .ok (.iastore, 1) := by decide +kernel
theorem dX9_arc_83 : decode cX9_arc 83 = .ok (.aload_n 0, 1) := by decide +kernel
theorem dX9_arc_84 : decode cX9_arc 84 = .ok (.dup, 1) := by decide +kernel
theorem dX9_arc_85 : decode cX9_arc 85 = .ok (.getfield 118, 3) := by decide +kernel
theorem dX9_arc_88 : decode cX9_arc 88 = .ok (.iconst 1, 1) := by decide +kernel
theorem dX9_arc_89 : decode cX9_arc 89 = .ok (.iadd, 1) := by decide +kernel
theorem dX9_arc_90 : decode cX9_arc 90 = .ok (.putfield 118, 3) := by decide +kernel
theorem dX9_arc_93 : decode cX9_arc 93 = .ok (.aload_n 0, 1) := by decide +kernel
theorem dX9_arc_94 : decode cX9_arc 94 = .ok (.getfield 118, 3) := by decide +kernel
theorem dX9_arc_97 : decode cX9_arc 97 = .ok (.iconst 1, 1) := by decide +kernel
theorem dX9_arc_98 : decode cX9_arc 98 = .ok (.isub, 1) := by decide +kernel
theorem dX9_arc_99 : decode cX9_arc 99 = .ok (.ireturn, 1) := by decide +kernel
theorem dX9_kind_0 : decode cX9_kind 0 = .ok (.iload_n 1, 1) := by decide +kernel
theorem dX9_kind_1 : decode cX9_kind 1 = .ok (.iconst 0, 1) := by decide +kernel
theorem dX9_kind_2 : decode cX9_kind 2 = .ok (.iconst 3, 1) := by decide +kernel
theorem dX9_kind_3 : decode cX9_kind 3 = .ok (.invokestatic 143, 3) := by decide +kernel
theorem dX9_kind_6 : decode cX9_kind 6 = .ok (.ifCond .ne 5, 3) := by decide +kernel
theorem dX9_kind_9 : decode cX9_kind 9 = .ok (.iconst (-1), 1) := by decide +kernel
theorem dX9_kind_10 : decode cX9_kind 10 = .ok (.ireturn, 1) := by decide +kernel
theorem dX9_kind_11 : decode cX9_kind 11 = .ok (.aload_n 0, 1) := by decide +kernel
theorem dX9_kind_12 : decode cX9_kind 12 = .ok (.getfield 131, 3) := by decide +kernel
theorem dX9_kind_15 : decode cX9_kind 15 = .ok (.ifCond .eq 6, 3) := by decide +kernel
theorem dX9_kind_18 : decode cX9_kind 18 = .ok (.bipush (-2), 2) := by decide +kernel
theorem dX9_kind_20 : decode cX9_kind 20 = .ok (.ireturn, 1) := by decide +kernel
theorem dX9_kind_21 : decode cX9_kind 21 = .ok (.aload_n 0, 1) := by decide +kernel
theorem dX9_kind_22 : decode cX9_kind 22 = .ok (.getfield 121, 3) := by decide +kernel
theorem dX9_kind_25 : decode cX9_kind 25 = .ok (.istore_n 2, 1) := by decide +kernel
theorem dX9_kind_26 : decode cX9_kind 26 = .ok (.aload_n 0, 1) := by decide +kernel
theorem dX9_kind_27 : decode cX9_kind 27 = .ok (.iload_n 1, 1) := by decide +kernel
theorem dX9_kind_28 : decode cX9_kind 28 = .ok (.putfield 121, 3) := by decide +kernel
theorem dX9_kind_31 : decode cX9_kind 31 = .ok (.aload_n 0, 1) := by decide +kernel
theorem dX9_kind_32 : decode cX9_kind 32 = .ok (.iconst 0, 1) := by decide +kernel
theorem dX9_kind_33 : decode cX9_kind 33 = .ok (.putfield 124, 3) := by decide +kernel
theorem dX9_kind_36 : decode cX9_kind 36 = .ok (.iload_n 2, 1) := by decide +kernel
theorem dX9_kind_37 : decode cX9_kind 37 = .ok (.ireturn, 1) := by decide +kernel
theorem dX9_joined_0 : decode cX9_joined 0 = .ok (.iload_n 1, 1) := by decide +kernel
theorem dX9_joined_1 : decode cX9_joined 1 = .ok (.ifCond .eq 14, 3) := by decide +kernel
theorem dX9_joined_4 : decode cX9_joined 4 = .ok (.aload_n 0, 1) := by decide +kernel
theorem dX9_joined_5 : decode cX9_joined 5 = .ok (.getfield 121, 3) := by decide +kernel
theorem dX9_joined_8 : decode cX9_joined 8 = .ok (.iconst 3, 1) := by decide +kernel
theorem dX9_joined_9 : decode cX9_joined 9 = .ok (.if_icmp .ne 6, 3) := by decide +kernel
theorem dX9_joined_12 : decode cX9_joined 12 = .ok (.bipush (-2), 2) := by decide +kernel
theorem dX9_joined_14 : decode cX9_joined 14 = .ok (.ireturn, 1) := by decide +kernel
theorem dX9_joined_15 : decode cX9_joined 15 = .ok (.aload_n 0, 1) := by decide +kernel
theorem dX9_joined_16 : decode cX9_joined 16 = .ok (.getfield 124, 3) := by decide +kernel
theorem dX9_joined_19 : decode cX9_joined 19 = .ok (.ifCond .eq 7, 3) := by decide +kernel
theorem dX9_joined_22 : decode cX9_joined 22 = .ok (.iconst 1, 1) := by decide +kernel
theorem dX9_joined_23 : decode cX9_joined 23 = .ok (.goto 4, 3) := by decide +kernel
theorem dX9_joined_26 : decode cX9_joined 26 = .ok (.iconst 0, 1) := by decide +kernel
theorem dX9_joined_27 : decode cX9_joined 27 = .ok (.istore_n 2, 1) := by decide +kernel
theorem dX9_joined_28 : decode cX9_joined 28 = .ok (.aload_n 0, 1) := by decide +kernel
theorem dX9_joined_29 : decode cX9_joined 29 = .ok (.iload_n 1, 1) := by decide +kernel
theorem dX9_joined_30 : decode cX9_joined 30 = .ok (.putfield 124, 3) := by decide +kernel
theorem dX9_joined_33 : decode cX9_joined 33 = .ok (.iload_n 2, 1) := by decide +kernel
theorem dX9_joined_34 : decode cX9_joined 34 = .ok (.ireturn, 1) := by decide +kernel
theorem dX9_every_0 : decode cX9_every 0 = .ok (.iload_n 1, 1) := by decide +kernel
theorem dX9_every_1 : decode cX9_every 1 = .ok (.iconst 0, 1) := by decide +kernel
theorem dX9_every_2 : decode cX9_every 2 = .ok (.bipush 50, 2) := by decide +kernel
theorem dX9_every_4 : decode cX9_every 4 = .ok (.invokestatic 143, 3) := by decide +kernel
theorem dX9_every_7 : decode cX9_every 7 = .ok (.ifCond .ne 5, 3) := by decide +kernel
theorem dX9_every_10 : decode cX9_every 10 = .ok (.iconst (-1), 1) := by decide +kernel
theorem dX9_every_11 : decode cX9_every 11 = .ok (.ireturn, 1) := by decide +kernel
theorem dX9_every_12 : decode cX9_every 12 = .ok (.aload_n 0, 1) := by decide +kernel
theorem dX9_every_13 : decode cX9_every 13 = .ok (.getfield 131, 3) := by decide +kernel
theorem dX9_every_16 : decode cX9_every 16 = .ok (.ifCond .eq 6, 3) := by decide +kernel
theorem dX9_every_19 : decode cX9_every 19 = .ok (.bipush (-2), 2) := by decide +kernel
theorem dX9_every_21 : decode cX9_every 21 = .ok (.ireturn, 1) := by decide +kernel
theorem dX9_every_22 : decode cX9_every 22 = .ok (.aload_n 0, 1) := by decide +kernel
theorem dX9_every_23 : decode cX9_every 23 = .ok (.getfield 128, 3) := by decide +kernel
theorem dX9_every_26 : decode cX9_every 26 = .ok (.istore_n 2, 1) := by decide +kernel
theorem dX9_every_27 : decode cX9_every 27 = .ok (.aload_n 0, 1) := by decide +kernel
theorem dX9_every_28 : decode cX9_every 28 = .ok (.iload_n 1, 1) := by decide +kernel
theorem dX9_every_29 : decode cX9_every 29 = .ok (.putfield 128, 3) := by decide +kernel
theorem dX9_every_32 : decode cX9_every 32 = .ok (.iload_n 2, 1) := by decide +kernel
theorem dX9_every_33 : decode cX9_every 33 = .ok (.ireturn, 1) := by decide +kernel
theorem dX9_message_0 : decode cX9_message 0 = .ok (.aload_n 0, 1) := by decide +kernel
theorem dX9_message_1 : decode cX9_message 1 = .ok (.getfield 121, 3) := by decide +kernel
theorem dX9_message_4 : decode cX9_message 4 = .ok (.iconst 1, 1) := by decide +kernel
theorem dX9_message_5 : decode cX9_message 5 = .ok (.if_icmp .ne 16, 3) := by decide +kernel
theorem dX9_message_8 : decode cX9_message 8 = .ok (.iload_n 1, 1) := by decide +kernel
theorem dX9_message_9 : decode cX9_message 9 = .ok (.iload_n 2, 1) := by decide +kernel
theorem dX9_message_10 : decode cX9_message 10 = .ok (.if_icmp .ge 7, 3) := by decide +kernel
theorem dX9_message_13 : decode cX9_message 13 = .ok (.iload_n 1, 1) := by decide +kernel
theorem dX9_message_14 : decode cX9_message 14 = .ok (.goto 24, 3) := by decide +kernel
theorem dX9_message_17 : decode cX9_message 17 = .ok (.iload_n 2, 1) := by decide +kernel
theorem dX9_message_18 : decode cX9_message 18 = .ok (.goto 20, 3) := by decide +kernel
theorem dX9_message_21 : decode cX9_message 21 = .ok (.aload_n 0, 1) := by decide +kernel
theorem dX9_message_22 : decode cX9_message 22 = .ok (.getfield 121, 3) := by decide +kernel
theorem dX9_message_25 : decode cX9_message 25 = .ok (.iconst 2, 1) := by decide +kernel
theorem dX9_message_26 : decode cX9_message 26 = .ok (.if_icmp .ne 9, 3) := by decide +kernel
theorem dX9_message_29 : decode cX9_message 29 = .ok (.iload_n 1, 1) := by decide +kernel
theorem dX9_message_30 : decode cX9_message 30 = .ok (.iload_n 2, 1) := by decide +kernel
theorem dX9_message_31 : decode cX9_message 31 = .ok (.imul, 1) := by decide +kernel
theorem dX9_message_32 : decode cX9_message 32 = .ok (.goto 6, 3) := by decide +kernel
theorem dX9_message_35 : decode cX9_message 35 = .ok (.iload_n 1, 1) := by decide +kernel
theorem dX9_message_36 : decode cX9_message 36 = .ok (.iload_n 2, 1) := by decide +kernel
theorem dX9_message_37 : decode cX9_message 37 = .ok (.iadd, 1) := by decide +kernel
theorem dX9_message_38 : decode cX9_message 38 = .ok (.ireturn, 1) := by decide +kernel
theorem dX9_folded_0 : decode cX9_folded 0 = .ok (.aload_n 0, 1) := by decide +kernel
theorem dX9_folded_1 : decode cX9_folded 1 = .ok (.getfield 121, 3) := by decide +kernel
theorem dX9_folded_4 : decode cX9_folded 4 = .ok (.iconst 2, 1) := by decide +kernel
theorem dX9_folded_5 : decode cX9_folded 5 = .ok (.if_icmp .ne 9, 3) := by decide +kernel
theorem dX9_folded_8 : decode cX9_folded 8 = .ok (.iload_n 1, 1) := by decide +kernel
theorem dX9_folded_9 : decode cX9_folded 9 = .ok (.iload_n 2, 1) := by decide +kernel
theorem dX9_folded_10 : decode cX9_folded 10 = .ok (.iadd, 1) := by decide +kernel
theorem dX9_folded_11 : decode cX9_folded 11 = .ok (.goto 34, 3) := by decide +kernel
theorem dX9_folded_14 : decode cX9_folded 14 = .ok (.aload_n 0, 1) := by decide +kernel
theorem dX9_folded_15 : decode cX9_folded 15 = .ok (.getfield 121, 3) := by decide +kernel
theorem dX9_folded_18 : decode cX9_folded 18 = .ok (.iconst 1, 1) := by decide +kernel
theorem dX9_folded_19 : decode cX9_folded 19 = .ok (.if_icmp .ne 7, 3) := by decide +kernel
theorem dX9_folded_22 : decode cX9_folded 22 = .ok (.iconst 1, 1) := by decide +kernel
theorem dX9_folded_23 : decode cX9_folded 23 = .ok (.goto 4, 3) := by decide +kernel
theorem dX9_folded_26 : decode cX9_folded 26 = .ok (.iconst 0, 1) := by decide +kernel
theorem dX9_folded_27 : decode cX9_folded 27 = .ok (.iload_n 1, 1) := by decide +kernel
theorem dX9_folded_28 : decode cX9_folded 28 = .ok (.iload_n 2, 1) := by decide +kernel
theorem dX9_folded_29 : decode cX9_folded 29 = .ok (.if_icmp .le 7, 3) := by decide +kernel
theorem dX9_folded_32 : decode cX9_folded 32 = .ok (.iconst 1, 1) := by decide +kernel
theorem dX9_folded_33 : decode cX9_folded 33 = .ok (.goto 4, 3) := by decide +kernel
theorem dX9_folded_36 : decode cX9_folded 36 = .ok (.iconst 0, 1) := by decide +kernel
theorem dX9_folded_37 : decode cX9_folded 37 = .ok (.if_icmp .ne 7, 3) := by decide +kernel
theorem dX9_folded_40 : decode cX9_folded 40 = .ok (.iload_n 1, 1) := by decide +kernel
theorem dX9_folded_41 : decode cX9_folded 41 = .ok (.goto 4, 3) := by decide +kernel
theorem dX9_folded_44 : decode cX9_folded 44 = .ok (.iload_n 2, 1) := by decide +kernel
theorem dX9_folded_45 : decode cX9_folded 45 = .ok (.ireturn, 1) := by decide +kernel
theorem dX9_lay_0 : decode cX9_lay 0 = .ok (.aload_n 0, 1) := by decide +kernel
theorem dX9_lay_1 : decode cX9_lay 1 = .ok (.getfield 48, 3) := by decide +kernel
theorem dX9_lay_4 : decode cX9_lay 4 = .ok (.iload_n 2, 1) := by decide +kernel
theorem dX9_lay_5 : decode cX9_lay 5 = .ok (.aload_n 0, 1) := by decide +kernel
theorem dX9_lay_6 : decode cX9_lay 6 = .ok (.getfield 48, 3) := by decide +kernel
theorem dX9_lay_9 : decode cX9_lay 9 = .ok (.iload_n 1, 1) := by decide +kernel
theorem dX9_lay_10 : decode cX9_lay 10 = .ok (.baload, 1) := by decide +kernel
theorem dX9_lay_11 : decode cX9_lay 11 = .ok (.bastore, 1) := by decide +kernel
theorem dX9_lay_12 : decode cX9_lay 12 = .ok (.aload_n 0, 1) := by decide +kernel
theorem dX9_lay_13 : decode cX9_lay 13 = .ok (.getfield 51, 3) := by decide +kernel
theorem dX9_lay_16 : decode cX9_lay 16 = .ok (.iload_n 2, 1) := by decide +kernel
theorem dX9_lay_17 : decode cX9_lay 17 = .ok (.aload_n 0, 1) := by decide +kernel
theorem dX9_lay_18 : decode cX9_lay 18 = .ok (.getfield 51, 3) := by decide +kernel
theorem dX9_lay_21 : decode cX9_lay 21 = .ok (.iload_n 1, 1) := by decide +kernel
theorem dX9_lay_22 : decode cX9_lay 22 = .ok (.iaload, 1) := by decide +kernel
theorem dX9_lay_23 : decode cX9_lay 23 = .ok (.iastore, 1) := by decide +kernel
theorem dX9_lay_24 : decode cX9_lay 24 = .ok (.aload_n 0, 1) := by decide +kernel
theorem dX9_lay_25 : decode cX9_lay 25 = .ok (.getfield 54, 3) := by decide +kernel
theorem dX9_lay_28 : decode cX9_lay 28 = .ok (.iload_n 2, 1) := by decide +kernel
theorem dX9_lay_29 : decode cX9_lay 29 = .ok (.aload_n 0, 1) := by decide +kernel
theorem dX9_lay_30 : decode cX9_lay 30 = .ok (.getfield 54, 3) := by decide +kernel
theorem dX9_lay_33 : decode cX9_lay 33 = .ok (.iload_n 1, 1) := by decide +kernel
theorem dX9_lay_34 : decode cX9_lay 34 = .ok (.iaload, 1) := by decide +kernel
theorem dX9_lay_35 : decode cX9_lay 35 = .ok (.iastore, 1) := by decide +kernel
theorem dX9_lay_36 : decode cX9_lay 36 = .ok (.aload_n 0, 1) := by decide +kernel
theorem dX9_lay_37 : decode cX9_lay 37 = .ok (.getfield 57, 3) := by decide +kernel
theorem dX9_lay_40 : decode cX9_lay 40 = .ok (.iload_n 2, 1) := by decide +kernel
theorem dX9_lay_41 : decode cX9_lay 41 = .ok (.aload_n 0, 1) := by decide +kernel
theorem dX9_lay_42 : decode cX9_lay 42 = .ok (.getfield 57, 3) := by decide +kernel
theorem dX9_lay_45 : decode cX9_lay 45 = .ok (.iload_n 1, 1) := by decide +kernel
theorem dX9_lay_46 : decode cX9_lay 46 = .ok (.iaload, 1) := by decide +kernel
theorem dX9_lay_47 : decode cX9_lay 47 = .ok (.iastore, 1) := by decide +kernel
theorem dX9_lay_48 : decode cX9_lay 48 = .ok (.aload_n 0, 1) := by decide +kernel
theorem dX9_lay_49 : decode cX9_lay 49 = .ok (.getfield 60, 3) := by decide +kernel
theorem dX9_lay_52 : decode cX9_lay 52 = .ok (.iload_n 2, 1) := by decide +kernel
theorem dX9_lay_53 : decode cX9_lay 53 = .ok (.aload_n 0, 1) := by decide +kernel
theorem dX9_lay_54 : decode cX9_lay 54 = .ok (.getfield 60, 3) := by decide +kernel
theorem dX9_lay_57 : decode cX9_lay 57 = .ok (.iload_n 1, 1) := by decide +kernel
theorem dX9_lay_58 : decode cX9_lay 58 = .ok (.iaload, 1) := by decide +kernel
theorem dX9_lay_59 : decode cX9_lay 59 = .ok (.iastore, 1) := by decide +kernel
theorem dX9_lay_60 : decode cX9_lay 60 = .ok (.aload_n 0, 1) := by decide +kernel
theorem dX9_lay_61 : decode cX9_lay 61 = .ok (.getfield 63, 3) := by decide +kernel
theorem dX9_lay_64 : decode cX9_lay 64 = .ok (.iload_n 2, 1) := by decide +kernel
theorem dX9_lay_65 : decode cX9_lay 65 = .ok (.aload_n 0, 1) := by decide +kernel
theorem dX9_lay_66 : decode cX9_lay 66 = .ok (.getfield 63, 3) := by decide +kernel
theorem dX9_lay_69 : decode cX9_lay 69 = .ok (.iload_n 1, 1) := by decide +kernel
theorem dX9_lay_70 : decode cX9_lay 70 = .ok (.iaload, 1) := by decide +kernel
theorem dX9_lay_71 : decode cX9_lay 71 = .ok (.iastore, 1) := by decide +kernel
theorem dX9_lay_72 : decode cX9_lay 72 = .ok (.aload_n 0, 1) := by decide +kernel
theorem dX9_lay_73 : decode cX9_lay 73 = .ok (.getfield 66, 3) := by decide +kernel
theorem dX9_lay_76 : decode cX9_lay 76 = .ok (.iload_n 2, 1) := by decide +kernel
theorem dX9_lay_77 : decode cX9_lay 77 = .ok (.aload_n 0, 1) := by decide +kernel
theorem dX9_lay_78 : decode cX9_lay 78 = .ok (.getfield 66, 3) := by decide +kernel
theorem dX9_lay_81 : decode cX9_lay 81 = .ok (.iload_n 1, 1) := by decide +kernel
theorem dX9_lay_82 : decode cX9_lay 82 = .ok (.iaload, 1) := by decide +kernel
theorem dX9_lay_83 : decode cX9_lay 83 = .ok (.iastore, 1) := by decide +kernel
theorem dX9_lay_84 : decode cX9_lay 84 = .ok (.iconst 0, 1) := by decide +kernel
theorem dX9_lay_85 : decode cX9_lay 85 = .ok (.istore_n 3, 1) := by decide +kernel
theorem dX9_lay_86 : decode cX9_lay 86 = .ok (.iload_n 3, 1) := by decide +kernel
theorem dX9_lay_87 : decode cX9_lay 87 = .ok (.aload_n 0, 1) := by decide +kernel
theorem dX9_lay_88 : decode cX9_lay 88 = .ok (.getfield 66, 3) := by decide +kernel
theorem dX9_lay_91 : decode cX9_lay 91 = .ok (.iload_n 1, 1) := by decide +kernel
theorem dX9_lay_92 : decode cX9_lay 92 = .ok (.iaload, 1) := by decide +kernel
theorem dX9_lay_93 : decode cX9_lay 93 = .ok (.if_icmp .ge 75, 3) := by decide +kernel
theorem dX9_lay_96 : decode cX9_lay 96 = .ok (.aload_n 0, 1) := by decide +kernel
