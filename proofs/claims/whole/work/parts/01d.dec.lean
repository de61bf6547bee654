theorem dX9_goBack_47 : decode cX9_goBack 47 = .ok (.iload_n 1, 1) := by decide +kernel
theorem dX9_goBack_48 : decode cX9_goBack 48 = .ok (.imul, 1) := by decide +kernel
theorem dX9_goBack_49 : decode cX9_goBack 49 = .ok (.iconst 1, 1) := by decide +kernel
theorem dX9_goBack_50 : decode cX9_goBack 50 = .ok (.iadd, 1) := by decide +kernel
theorem dX9_goBack_51 : decode cX9_goBack 51 = .ok (.iload_n 3, 1) := by decide +kernel
theorem dX9_goBack_52 : decode cX9_goBack 52 = .ok (.invokevirtual 177, 3) := by decide +kernel
theorem dX9_goBack_55 : decode cX9_goBack 55 = .ok (.iinc 3 1, 3) := by decide +kernel
theorem dX9_goBack_58 : decode cX9_goBack 58 = .ok (.goto (-22), 3) := by decide +kernel
theorem dX9_goBack_61 : decode cX9_goBack 61 = .ok (.iconst 0, 1) := by decide +kernel
theorem dX9_goBack_62 : decode cX9_goBack 62 = .ok (.istore_n 3, 1) := by decide +kernel
theorem dX9_goBack_63 : decode cX9_goBack 63 = .ok (.iload_n 3, 1) := by decide +kernel
theorem dX9_goBack_64 : decode cX9_goBack 64 = .ok (.aload_n 0, 1) := by decide +kernel
theorem dX9_goBack_65 : decode cX9_goBack 65 = .ok (.getfield 115, 3) := by decide +kernel
theorem dX9_goBack_68 : decode cX9_goBack 68 = .ok (.if_icmp .ge 70, 3) := by decide +kernel
theorem dX9_goBack_71 : decode cX9_goBack 71 = .ok (.aload_n 0, 1) := by decide +kernel
theorem dX9_goBack_72 : decode cX9_goBack 72 = .ok (.getfield 27, 3) := by decide +kernel
theorem dX9_goBack_75 : decode cX9_goBack 75 = .ok (.iload_n 3, 1) := by decide +kernel
theorem dX9_goBack_76 : decode cX9_goBack 76 = .ok (.iaload, 1) := by decide +kernel
theorem dX9_goBack_77 : decode cX9_goBack 77 = .ok (.iload_n 1, 1) := by decide +kernel
theorem dX9_goBack_78 : decode cX9_goBack 78 = .ok (.if_icmp .ne 54, 3) := by decide +kernel
theorem dX9_goBack_81 : decode cX9_goBack 81 = .ok (.bipush 16, 2) := by decide +kernel
theorem dX9_goBack_83 : decode cX9_goBack 83 = .ok (.iconst 2, 1) := by decide +kernel
theorem dX9_goBack_84 : decode cX9_goBack 84 = .ok (.iload_n 1, 1) := by decide +kernel
theorem dX9_goBack_85 : decode cX9_goBack 85 = .ok (.imul, 1) := by decide +kernel
theorem dX9_goBack_86 : decode cX9_goBack 86 = .ok (.iconst 1, 1) := by decide +kernel
theorem dX9_goBack_87 : decode cX9_goBack 87 = .ok (.iadd, 1) := by decide +kernel
theorem dX9_goBack_88 : decode cX9_goBack 88 = .ok (.imul, 1) := by decide +kernel
theorem dX9_goBack_89 : decode cX9_goBack 89 = .ok (.iload_n 3, 1) := by decide +kernel
theorem dX9_goBack_90 : decode cX9_goBack 90 = .ok (.iadd, 1) := by decide +kernel
theorem dX9_goBack_91 : decode cX9_goBack 91 = .ok (.istore 4, 2) := by decide +kernel
theorem dX9_goBack_93 : decode cX9_goBack 93 = .ok (.aload_n 0, 1) := by decide +kernel
theorem dX9_goBack_94 : decode cX9_goBack 94 = .ok (.getfield 17, 3) := by decide +kernel
theorem dX9_goBack_97 : decode cX9_goBack 97 = .ok (.iload_n 3, 1) := by decide +kernel
theorem dX9_goBack_98 : decode cX9_goBack 98 = .ok (.aload_n 0, 1) := by decide +kernel
theorem dX9_goBack_99 : decode cX9_goBack 99 = .ok (.getfield 81, 3) := by decide +kernel
theorem dX9_goBack_102 : decode cX9_goBack 102 = .ok (.iload 4, 2) := by decide +kernel
theorem dX9_goBack_104 : decode cX9_goBack 104 = .ok (.iaload, 1) := by decide +kernel
theorem dX9_goBack_105 : decode cX9_goBack 105 = .ok (.iastore, 1) := by decide +kernel
theorem dX9_goBack_106 : decode cX9_goBack 106 = .ok (.aload_n 0, 1) := by decide +kernel
theorem dX9_goBack_107 : decode cX9_goBack 107 = .ok (.getfield 20, 3) := by decide +kernel
theorem dX9_goBack_110 : decode cX9_goBack 110 = .ok (.iload_n 3, 1) := by decide +kernel
theorem dX9_goBack_111 : decode cX9_goBack 111 = .ok (.aload_n 0, 1) := by decide +kernel
theorem dX9_goBack_112 : decode cX9_goBack 112 = .ok (.getfield 84, 3) := by decide +kernel
theorem dX9_goBack_115 : decode cX9_goBack 115 = .ok (.iload 4, 2) := by decide +kernel
theorem dX9_goBack_117 : decode cX9_goBack 117 = .ok (.iaload, 1) := by decide +kernel
theorem dX9_goBack_118 : decode cX9_goBack 118 = .ok (.iastore, 1) := by decide +kernel
theorem dX9_goBack_119 : decode cX9_goBack 119 = .ok (.aload_n 0, 1) := by decide +kernel
theorem dX9_goBack_120 : decode cX9_goBack 120 = .ok (.getfield 23, 3) := by decide +kernel
theorem dX9_goBack_123 : decode cX9_goBack 123 = .ok (.iload_n 3, 1) := by decide +kernel
theorem dX9_goBack_124 : decode cX9_goBack 124 = .ok (.aload_n 0, 1) := by decide +kernel
theorem dX9_goBack_125 : decode cX9_goBack 125 = .ok (.getfield 87, 3) := by decide +kernel
theorem dX9_goBack_128 : decode cX9_goBack 128 = .ok (.iload 4, 2) := by decide +kernel
theorem dX9_goBack_130 : decode cX9_goBack 130 = .ok (.baload, 1) := by decide +kernel
theorem dX9_goBack_131 : decode cX9_goBack 131 = .ok (.bastore, 1) := by decide +kernel
theorem dX9_goBack_132 : decode cX9_goBack 132 = .ok (.iinc 3 1, 3) := by decide +kernel
theorem dX9_goBack_135 : decode cX9_goBack 135 = .ok (.goto (-72), 3) := by decide +kernel
theorem dX9_goBack_138 : decode cX9_goBack 138 = .ok (.aload_n 0, 1) := by decide +kernel
theorem dX9_goBack_139 : decode cX9_goBack 139 = .ok (.getfield 39, 3) := by decide +kernel
theorem dX9_goBack_142 : decode cX9_goBack 142 = .ok (.iload_n 1, 1) := by decide +kernel
theorem dX9_goBack_143 : decode cX9_goBack 143 = .ok (.iload_n 2, 1) := by decide +kernel
theorem dX9_goBack_144 : decode cX9_goBack 144 = .ok (.iastore, 1) := by decide +kernel
theorem dX9_goBack_145 : decode cX9_goBack 145 = .ok (.aload_n 0, 1) := by decide +kernel
theorem dX9_goBack_146 : decode cX9_goBack 146 = .ok (.getfield 45, 3) := by decide +kernel
theorem dX9_goBack_149 : decode cX9_goBack 149 = .ok (.iload_n 1, 1) := by decide +kernel
theorem dX9_goBack_150 : decode cX9_goBack 150 = .ok (.iconst 0, 1) := by decide +kernel
theorem dX9_goBack_151 : decode cX9_goBack 151 = .ok (.bastore, 1) := by decide +kernel
theorem dX9_goBack_152 : decode cX9_goBack 152 = .ok (.aload_n 0, 1) := by decide +kernel
theorem dX9_goBack_153 : decode cX9_goBack 153 = .ok (.getfield 42, 3) := by decide +kernel
theorem dX9_goBack_156 : decode cX9_goBack 156 = .ok (.iload_n 1, 1) := by decide +kernel
theorem dX9_goBack_157 : decode cX9_goBack 157 = .ok (.iconst 0, 1) := by decide +kernel
theorem dX9_goBack_158 : decode cX9_goBack 158 = .ok (.bastore, 1) := by decide +kernel
theorem dX9_goBack_159 : decode cX9_goBack 159 = .ok (.aload_n 0, 1) := by decide +kernel
theorem dX9_goBack_160 : decode cX9_goBack 160 = .ok (.iload_n 1, 1) := by decide +kernel
theorem dX9_goBack_161 : decode cX9_goBack 161 = .ok (.invokevirtual 222, 3) := by decide +kernel
theorem dX9_goBack_164 : decode cX9_goBack 164 = .ok (.return_, 1) := by decide +kernel
theorem dX9_back_0 : decode cX9_back 0 = .ok (.iconst 0, 1) := by decide +kernel
theorem dX9_back_1 : decode cX9_back 1 = .ok (.istore_n 1, 1) := by decide +kernel
theorem dX9_back_2 : decode cX9_back 2 = .ok (.iconst 0, 1) := by decide +kernel
theorem dX9_back_3 : decode cX9_back 3 = .ok (.istore_n 2, 1) := by decide +kernel
theorem dX9_back_4 : decode cX9_back 4 = .ok (.iload_n 2, 1) := by decide +kernel
theorem dX9_back_5 : decode cX9_back 5 = .ok (.aload_n 0, 1) := by decide +kernel
theorem dX9_back_6 : decode cX9_back 6 = .ok (.getfield 7, 3) := by decide +kernel
theorem dX9_back_9 : decode cX9_back 9 = .ok (.if_icmp .ge 28, 3) := by decide +kernel
theorem dX9_back_12 : decode cX9_back 12 = .ok (.iload_n 1, 1) := by decide +kernel
theorem dX9_back_13 : decode cX9_back 13 = .ok (.ifCond .ne 12, 3) := by decide +kernel
theorem dX9_back_16 : decode cX9_back 16 = .ok (.aload_n 0, 1) := by decide +kernel
theorem dX9_back_17 : decode cX9_back 17 = .ok (.getfield 45, 3) := by decide +kernel
theorem dX9_back_20 : decode cX9_back 20 = .ok (.iload_n 2, 1) := by decide +kernel
theorem dX9_back_21 : decode cX9_back 21 = .ok (.baload, 1) := by decide +kernel
theorem dX9_back_22 : decode cX9_back 22 = .ok (.ifCond .eq 7, 3) := by decide +kernel
theorem dX9_back_25 : decode cX9_back 25 = .ok (.iconst 1, 1) := by decide +kernel
theorem dX9_back_26 : decode cX9_back 26 = .ok (.goto 4, 3) := by decide +kernel
theorem dX9_back_29 : decode cX9_back 29 = .ok (.iconst 0, 1) := by decide +kernel
theorem dX9_back_30 : decode cX9_back 30 = .ok (.istore_n 1, 1) := by decide +kernel
theorem dX9_back_31 : decode cX9_back 31 = .ok (.iinc 2 1, 3) := by decide +kernel
theorem dX9_back_34 : decode cX9_back 34 = .ok (.goto (-30), 3) := by decide +kernel
theorem dX9_back_37 : decode cX9_back 37 = .ok (.aload_n 0, 1) := by decide +kernel
theorem dX9_back_38 : decode cX9_back 38 = .ok (.getfield 131, 3) := by decide +kernel
theorem dX9_back_41 : decode cX9_back 41 = .ok (.ifCond .eq 7, 3) := by decide +kernel
theorem dX9_back_44 : decode cX9_back 44 = .ok (.iload_n 1, 1) := by decide +kernel
theorem dX9_back_45 : decode cX9_back 45 = .ok (.ifCond .ne 6, 3) := by decide +kernel
theorem dX9_back_48 : decode cX9_back 48 = .ok (.bipush (-2), 2) := by decide +kernel
theorem dX9_back_50 : decode cX9_back 50 = .ok (.ireturn, 1) := by decide +kernel
theorem dX9_back_51 : decode cX9_back 51 = .ok (.aload_n 0, 1) := by decide +kernel
theorem dX9_back_52 : decode cX9_back 52 = .ok (.aload_n 0, 1) := by decide +kernel
theorem dX9_back_53 : decode cX9_back 53 = .ok (.getfield 78, 3) := by decide +kernel
theorem dX9_back_56 : decode cX9_back 56 = .ok (.iconst 1, 1) := by decide +kernel
theorem dX9_back_57 : decode cX9_back 57 = .ok (.iaload, 1) := by decide +kernel
theorem dX9_back_58 : decode cX9_back 58 = .ok (.invokevirtual 229, 3) := by decide +kernel
theorem dX9_back_61 : decode cX9_back 61 = .ok (.ifCond .eq 12, 3) := by decide +kernel
theorem dX9_back_64 : decode cX9_back 64 = .ok (.aload_n 0, 1) := by decide +kernel
theorem dX9_back_65 : decode cX9_back 65 = .ok (.getfield 78, 3) := by decide +kernel
theorem dX9_back_68 : decode cX9_back 68 = .ok (.iconst 1, 1) := by decide +kernel
theorem dX9_back_69 : decode cX9_back 69 = .ok (.iaload, 1) := by decide +kernel
theorem dX9_back_70 : decode cX9_back 70 = .ok (.goto 9, 3) := by decide +kernel
theorem dX9_back_73 : decode cX9_back 73 = .ok (.aload_n 0, 1) := by decide +kernel
theorem dX9_back_74 : decode cX9_back 74 = .ok (.getfield 78, 3) := by decide +kernel
theorem dX9_back_77 : decode cX9_back 77 = .ok (.iconst 0, 1) := by decide +kernel
theorem dX9_back_78 : decode cX9_back 78 = .ok (.iaload, 1) := by decide +kernel
theorem dX9_back_79 : decode cX9_back 79 = .ok (.istore_n 2, 1) := by decide +kernel
theorem dX9_back_80 : decode cX9_back 80 = .ok (.aload_n 0, 1) := by decide +kernel
theorem dX9_back_81 : decode cX9_back 81 = .ok (.dup, 1) := by decide +kernel
theorem dX9_back_82 : decode cX9_back 82 = .ok (.getfield 137, 3) := by decide +kernel
theorem dX9_back_85 : decode cX9_back 85 = .ok (.iconst 1, 1) := by decide +kernel
theorem dX9_back_86 : decode cX9_back 86 = .ok (.iadd, 1) := by decide +kernel
theorem dX9_back_87 : decode cX9_back 87 = .ok (.putfield 137, 3) := by decide +kernel
theorem dX9_back_90 : decode cX9_back 90 = .ok (.iconst 0, 1) := by decide +kernel
theorem dX9_back_91 : decode cX9_back 91 = .ok (.istore_n 3, 1) := by decide +kernel
theorem dX9_back_92 : decode cX9_back 92 = .ok (.iload_n 3, 1) := by decide +kernel
theorem dX9_back_93 : decode cX9_back 93 = .ok (.aload_n 0, 1) := by decide +kernel
theorem dX9_back_94 : decode cX9_back 94 = .ok (.getfield 7, 3) := by decide +kernel
theorem dX9_back_97 : decode cX9_back 97 = .ok (.if_icmp .ge 15, 3) := by decide +kernel
theorem dX9_back_100 : decode cX9_back 100 = .ok (.aload_n 0, 1) := by decide +kernel
theorem dX9_back_101 : decode cX9_back 101 = .ok (.iload_n 3, 1) := by decide +kernel
theorem dX9_back_102 : decode cX9_back 102 = .ok (.iload_n 2, 1) := by decide +kernel
theorem dX9_back_103 : decode cX9_back 103 = .ok (.invokevirtual 232, 3) := by decide +kernel
theorem dX9_back_106 : decode cX9_back 106 = .ok (.iinc 3 1, 3) := by decide +kernel
theorem dX9_back_109 : decode cX9_back 109 = .ok (.goto (-17), 3) := by decide +kernel
theorem dX9_back_112 : decode cX9_back 112 = .ok (.iconst 0, 1) := by decide +kernel
theorem dX9_back_113 : decode cX9_back 113 = .ok (.istore_n 3, 1) := by decide +kernel
theorem dX9_back_114 : decode cX9_back 114 = .ok (.iload_n 3, 1) := by decide +kernel
theorem dX9_back_115 : decode cX9_back 115 = .ok (.aload_n 0, 1) := by decide +kernel
theorem dX9_back_116 : decode cX9_back 116 = .ok (.getfield 7, 3) := by decide +kernel
theorem dX9_back_119 : decode cX9_back 119 = .ok (.if_icmp .ge 14, 3) := by decide +kernel
theorem dX9_back_122 : decode cX9_back 122 = .ok (.aload_n 0, 1) := by decide +kernel
theorem dX9_back_123 : decode cX9_back 123 = .ok (.iload_n 3, 1) := by decide +kernel
theorem dX9_back_124 : decode cX9_back 124 = .ok (.invokevirtual 187, 3) := by decide +kernel
theorem dX9_back_127 : decode cX9_back 127 = .ok (.iinc 3 1, 3) := by decide +kernel
theorem dX9_back_130 : decode cX9_back 130 = .ok (.goto (-16), 3) := by decide +kernel
theorem dX9_back_133 : decode cX9_back 133 = .ok (.iload_n 2, 1) := by decide +kernel
theorem dX9_back_134 : decode cX9_back 134 = .ok (.ireturn, 1) := by decide +kernel
theorem dX9_move_0 : decode cX9_move 0 = .ok (.aload_n 0, 1) := by decide +kernel
theorem dX9_move_1 : decode cX9_move 1 = .ok (.iload_n 1, 1) := by decide +kernel
theorem dX9_move_2 : decode cX9_move 2 = .ok (.invokevirtual 151, 3) := by decide +kernel
theorem dX9_move_5 : decode cX9_move 5 = .ok (.ifCond .eq 11, 3) := by decide +kernel
theorem dX9_move_8 : decode cX9_move 8 = .ok (.aload_n 0, 1) := by decide +kernel
theorem dX9_move_9 : decode cX9_move 9 = .ok (.iload_n 2, 1) := by decide +kernel
theorem dX9_move_10 : decode cX9_move 10 = .ok (.invokevirtual 147, 3) := by decide +kernel
theorem dX9_move_13 : decode cX9_move 13 = .ok (.ifCond .ne 5, 3) := by decide +kernel
theorem dX9_move_16 : decode cX9_move 16 = .ok (.iconst (-1), 1) := by decide +kernel
theorem dX9_move_17 : decode cX9_move 17 = .ok (.ireturn, 1) := by decide +kernel
theorem dX9_move_18 : decode cX9_move 18 = .ok (.aload_n 0, 1) := by decide +kernel
theorem dX9_move_19 : decode cX9_move 19 = .ok (.getfield 131, 3) := by decide +kernel
theorem dX9_move_22 : decode cX9_move 22 = .ok (.istore_n 3, 1) := by decide +kernel
theorem dX9_move_23 : decode cX9_move 23 = .ok (.iconst 0, 1) := by decide +kernel
theorem dX9_move_24 : decode cX9_move 24 = .ok (.istore 4, 2) := by decide +kernel
theorem dX9_move_26 : decode cX9_move 26 = .ok (.iload 4, 2) := by decide +kernel
theorem dX9_move_28 : decode cX9_move 28 = .ok (.aload_n 0, 1) := by decide +kernel
theorem dX9_move_29 : decode cX9_move 29 = .ok (.getfield 7, 3) := by decide +kernel
theorem dX9_move_32 : decode cX9_move 32 = .ok (.if_icmp .ge 55, 3) := by decide +kernel
theorem dX9_move_35 : decode cX9_move 35 = .ok (.iload_n 3, 1) := by decide +kernel
theorem dX9_move_36 : decode cX9_move 36 = .ok (.ifCond .eq 43, 3) := by decide +kernel
theorem dX9_move_39 : decode cX9_move 39 = .ok (.aload_n 0, 1) := by decide +kernel
theorem dX9_move_40 : decode cX9_move 40 = .ok (.getfield 45, 3) := by decide +kernel
theorem dX9_move_43 : decode cX9_move 43 = .ok (.iload 4, 2) := by decide +kernel
theorem dX9_move_45 : decode cX9_move 45 = .ok (.baload, 1) := by decide +kernel
theorem dX9_move_46 : decode cX9_move 46 = .ok (.ifCond .ne 33, 3) := by decide +kernel
theorem dX9_move_49 : decode cX9_move 49 = .ok (.aload_n 0, 1) := by decide +kernel
theorem dX9_move_50 : decode cX9_move 50 = .ok (.getfield 42, 3) := by decide +kernel
theorem dX9_move_53 : decode cX9_move 53 = .ok (.iload 4, 2) := by decide +kernel
theorem dX9_move_55 : decode cX9_move 55 = .ok (.baload, 1) := by decide +kernel
theorem dX9_move_56 : decode cX9_move 56 = .ok (.ifCond .ne 23, 3) := by decide +kernel
theorem dX9_move_59 : decode cX9_move 59 = .ok (.aload_n 0, 1) := by decide +kernel
theorem dX9_move_60 : decode cX9_move 60 = .ok (.getfield 39, 3) := by decide +kernel
theorem dX9_move_63 : decode cX9_move 63 = .ok (.iload 4, 2) := by decide +kernel
theorem dX9_move_65 : decode cX9_move 65 = .ok (.iaload, 1) := by decide +kernel
theorem dX9_move_66 : decode cX9_move 66 = .ok (.aload_n 0, 1) := by decide +kernel
theorem dX9_move_67 : decode cX9_move 67 = .ok (.getfield 39, 3) := by decide +kernel
theorem dX9_move_70 : decode cX9_move 70 = .ok (.iconst 0, 1) := by decide +kernel
theorem dX9_move_71 : decode cX9_move 71 = .ok (.iaload, 1) := by decide +kernel
theorem dX9_move_72 : decode cX9_move 72 = .ok (.if_icmp .ne 7, 3) := by decide +kernel
theorem dX9_move_75 : decode cX9_move 75 = .ok (.iconst 1, 1) := by decide +kernel
theorem dX9_move_76 : decode cX9_move 76 = .ok (.goto 4, 3) := by decide +kernel
theorem dX9_move_79 : decode cX9_move 79 = .ok (.iconst 0, 1) := by decide +kernel
theorem dX9_move_80 : decode cX9_move 80 = .ok (.istore_n 3, 1) := by decide +kernel
theorem dX9_move_81 : decode cX9_move 81 = .ok (.iinc 4 1, 3) := by decide +kernel
theorem dX9_move_84 : decode cX9_move 84 = .ok (.goto (-58), 3) := by decide +kernel
theorem dX9_move_87 : decode cX9_move 87 = .ok (.iload_n 3, 1) := by decide +kernel
theorem dX9_move_88 : decode cX9_move 88 = .ok (.ifCond .ne 6, 3) := by decide +kernel
theorem dX9_move_91 : decode cX9_move 91 = .ok (.bipush (-2), 2) := by decide +kernel
theorem dX9_move_93 : decode cX9_move 93 = .ok (.ireturn, 1) := by decide +kernel
theorem dX9_move_94 : decode cX9_move 94 = .ok (.aload_n 0, 1) := by decide +kernel
theorem dX9_move_95 : decode cX9_move 95 = .ok (.getfield 27, 3) := by decide +kernel
theorem dX9_move_98 : decode cX9_move 98 = .ok (.iload_n 1, 1) := by decide +kernel
theorem dX9_move_99 : decode cX9_move 99 = .ok (.iaload, 1) := by decide +kernel
theorem dX9_move_100 : decode cX9_move 100 = .ok (.istore 4, 2) := by decide +kernel
theorem dX9_move_102 : decode cX9_move 102 = .ok (.aload_n 0, 1) := by decide +kernel
theorem dX9_move_103 : decode cX9_move 103 = .ok (.getfield 27, 3) := by decide +kernel
theorem dX9_move_106 : decode cX9_move 106 = .ok (.iload_n 1, 1) := by decide +kernel
theorem dX9_move_107 : decode cX9_move 107 = .ok (.iload_n 2, 1) := by decide +kernel
theorem dX9_move_108 : decode cX9_move 108 = .ok (.iastore, 1) := by decide +kernel
theorem dX9_move_109 : decode cX9_move 109 = .ok (.aload_n 0, 1) := by decide +kernel
theorem dX9_move_110 : decode cX9_move 110 = .ok (.dup, 1) := by decide +kernel
theorem dX9_move_111 : decode cX9_move 111 = .ok (.getfield 137, 3) := by decide +kernel
theorem dX9_move_114 : decode cX9_move 114 = .ok (.iconst 1, 1) := by decide +kernel
theorem dX9_move_115 : decode cX9_move 115 = .ok (.iadd, 1) := by decide +kernel
theorem dX9_move_116 : decode cX9_move 116 = .ok (.putfield 137, 3) := by decide +kernel
theorem dX9_move_119 : decode cX9_move 119 = .ok (.iconst 0, 1) := by decide +kernel
theorem dX9_move_120 : decode cX9_move 120 = .ok (.istore 5, 2) := by decide +kernel
theorem dX9_move_122 : decode cX9_move 122 = .ok (.iload 5, 2) := by decide +kernel
theorem dX9_move_124 : decode cX9_move 124 = .ok (.aload_n 0, 1) := by decide +kernel
theorem dX9_move_125 : decode cX9_move 125 = .ok (.getfield 7, 3) := by decide +kernel
theorem dX9_move_128 : decode cX9_move 128 = .ok (.if_icmp .ge 31, 3) := by decide +kernel
theorem dX9_move_131 : decode cX9_move 131 = .ok (.aload_n 0, 1) := by decide +kernel
theorem dX9_move_132 : decode cX9_move 132 = .ok (.iload 5, 2) := by decide +kernel
theorem dX9_move_134 : decode cX9_move 134 = .ok (.invokevirtual 222, 3) := by decide +kernel
theorem dX9_move_137 : decode cX9_move 137 = .ok (.aload_n 0, 1) := by decide +kernel
theorem dX9_move_138 : decode cX9_move 138 = .ok (.iload 5, 2) := by decide +kernel
theorem dX9_move_140 : decode cX9_move 140 = .ok (.invokevirtual 184, 3) := by decide +kernel
theorem dX9_move_143 : decode cX9_move 143 = .ok (.aload_n 0, 1) := by decide +kernel
theorem dX9_move_144 : decode cX9_move 144 = .ok (.getfield 78, 3) := by decide +kernel
theorem dX9_move_147 : decode cX9_move 147 = .ok (.iconst 2, 1) := by decide +kernel
theorem dX9_move_148 : decode cX9_move 148 = .ok (.iload 5, 2) := by decide +kernel
theorem dX9_move_150 : decode cX9_move 150 = .ok (.imul, 1) := by decide +kernel
theorem dX9_move_151 : decode cX9_move 151 = .ok (.iconst (-1), 1) := by decide +kernel
theorem dX9_move_152 : decode cX9_move 152 = .ok (.iastore, 1) := by decide +kernel
theorem dX9_move_153 : decode cX9_move 153 = .ok (.iinc 5 1, 3) := by decide +kernel
theorem dX9_move_156 : decode cX9_move 156 = .ok (.goto (-34), 3) := by decide +kernel
theorem dX9_move_159 : decode cX9_move 159 = .ok (.iconst 0, 1) := by decide +kernel
theorem dX9_move_160 : decode cX9_move 160 = .ok (.istore 5, 2) := by decide +kernel
theorem dX9_move_162 : decode cX9_move 162 = .ok (.iload 5, 2) := by decide +kernel
theorem dX9_move_164 : decode cX9_move 164 = .ok (.aload_n 0, 1) := by decide +kernel
theorem dX9_move_165 : decode cX9_move 165 = .ok (.getfield 7, 3) := by decide +kernel
theorem dX9_move_168 : decode cX9_move 168 = .ok (.if_icmp .ge 15, 3) := by decide +kernel
theorem dX9_move_171 : decode cX9_move 171 = .ok (.aload_n 0, 1) := by decide +kernel
theorem dX9_move_172 : decode cX9_move 172 = .ok (.iload 5, 2) := by decide +kernel
theorem dX9_move_174 : decode cX9_move 174 = .ok (.invokevirtual 187, 3) := by decide +kernel
theorem dX9_move_177 : decode cX9_move 177 = .ok (.iinc 5 1, 3) := by decide +kernel
theorem dX9_move_180 : decode cX9_move 180 = .ok (.goto (-18), 3) := by decide +kernel
theorem dX9_move_183 : decode cX9_move 183 = .ok (.iload 4, 2) := by decide +kernel
theorem dX9_move_185 : decode cX9_move 185 = .ok (.ireturn, 1) := by decide +kernel
theorem dX9_of_0 : decode cX9_of 0 = .ok (.aload_n 0, 1) := by decide +kernel
theorem dX9_of_1 : decode cX9_of 1 = .ok (.iload_n 1, 1) := by decide +kernel
theorem dX9_of_2 : decode cX9_of 2 = .ok (.invokevirtual 151, 3) := by decide +kernel
theorem dX9_of_5 : decode cX9_of 5 = .ok (.ifCond .eq 12, 3) := by decide +kernel
theorem dX9_of_8 : decode cX9_of 8 = .ok (.iload_n 2, 1) := by decide +kernel
theorem dX9_of_9 : decode cX9_of 9 = .ok (.iconst 0, 1) := by decide +kernel
theorem dX9_of_10 : decode cX9_of 10 = .ok (.iconst 3, 1) := by decide +kernel
theorem dX9_of_11 : decode cX9_of 11 = .ok (.invokestatic 143, 3) := by decide +kernel
theorem dX9_of_14 : decode cX9_of 14 = .ok (.ifCond .ne 7, 3) := by decide +kernel
theorem dX9_of_17 : decode cX9_of 17 = .ok (.ldc2_w 211, 3) := by decide +kernel
theorem dX9_of_20 : decode cX9_of 20 = .ok (.lreturn, 1) := by decide +kernel
theorem dX9_of_21 : decode cX9_of 21 = .ok (.iload_n 2, 1) := by decide +kernel
theorem dX9_of_22 : decode cX9_of 22 = .ok (.iconst 3, 1) := by decide +kernel
theorem dX9_of_23 : decode cX9_of 23 = .ok (.if_icmp .ne 11, 3) := by decide +kernel
theorem dX9_of_26 : decode cX9_of 26 = .ok (.aload_n 0, 1) := by decide +kernel
theorem dX9_of_27 : decode cX9_of 27 = .ok (.getfield 27, 3) := by decide +kernel
theorem dX9_of_30 : decode cX9_of 30 = .ok (.iload_n 1, 1) := by decide +kernel
theorem dX9_of_31 : decode cX9_of 31 = .ok (.iaload, 1) := by decide +kernel
theorem dX9_of_32 : decode cX9_of 32 = .ok (.i2l, 1) := by decide +kernel
theorem dX9_of_33 : decode cX9_of 33 = .ok (.lreturn, 1) := by decide +kernel
theorem dX9_of_34 : decode cX9_of 34 = .ok (.aload_n 0, 1) := by decide +kernel
theorem dX9_of_35 : decode cX9_of 35 = .ok (.getfield 45, 3) := by decide +kernel
theorem dX9_of_38 : decode cX9_of 38 = .ok (.aload_n 0, 1) := by decide +kernel
theorem dX9_of_39 : decode cX9_of 39 = .ok (.getfield 27, 3) := by decide +kernel
theorem dX9_of_42 : decode cX9_of 42 = .ok (.iload_n 1, 1) := by decide +kernel
theorem dX9_of_43 : decode cX9_of 43 = .ok (.iaload, 1) := by decide +kernel
theorem dX9_of_44 : decode cX9_of 44 = .ok (.baload, 1) := by decide +kernel
theorem dX9_of_45 : decode cX9_of 45 = .ok (.ifCond .eq 7, 3) := by decide +kernel
theorem dX9_of_48 : decode cX9_of 48 = .ok (.ldc2_w 211, 3) := by decide +kernel
theorem dX9_of_51 : decode cX9_of 51 = .ok (.lreturn, 1) := by decide +kernel
theorem dX9_of_52 : decode cX9_of 52 = .ok (.iload_n 2, 1) := by decide +kernel
theorem dX9_of_53 : decode cX9_of 53 = .ok (.ifCond .ne 13, 3) := by decide +kernel
theorem dX9_of_56 : decode cX9_of 56 = .ok (.aload_n 0, 1) := by decide +kernel
theorem dX9_of_57 : decode cX9_of 57 = .ok (.getfield 17, 3) := by decide +kernel
theorem dX9_of_60 : decode cX9_of 60 = .ok (.iload_n 1, 1) := by decide +kernel
theorem dX9_of_61 : decode cX9_of 61 = .ok (.iaload, 1) := by decide +kernel
theorem dX9_of_62 : decode cX9_of 62 = .ok (.i2l, 1) := by decide +kernel
theorem dX9_of_63 : decode cX9_of 63 = .ok (.goto 32, 3) := by decide +kernel
theorem dX9_of_66 : decode cX9_of 66 = .ok (.iload_n 2, 1) := by decide +kernel
theorem dX9_of_67 : decode cX9_of 67 = .ok (.iconst 1, 1) := by decide +kernel
theorem dX9_of_68 : decode cX9_of 68 = .ok (.if_icmp .ne 13, 3) := by decide +kernel
theorem dX9_of_71 : decode cX9_of 71 = .ok (.aload_n 0, 1) := by decide +kernel
theorem dX9_of_72 : decode cX9_of 72 = .ok (.getfield 20, 3) := by decide +kernel
theorem dX9_of_75 : decode cX9_of 75 = .ok (.iload_n 1, 1) := by decide +kernel
theorem dX9_of_76 : decode cX9_of 76 = .ok (.iaload, 1) := by decide +kernel
theorem dX9_of_77 : decode cX9_of 77 = .ok (.i2l, 1) := by decide +kernel
theorem dX9_of_78 : decode cX9_of 78 = .ok (.goto 17, 3) := by decide +kernel
theorem dX9_of_81 : decode cX9_of 81 = .ok (.aload_n 0, 1) := by decide +kernel
theorem dX9_of_82 : decode cX9_of 82 = .ok (.getfield 23, 3) := by decide +kernel
theorem dX9_of_85 : decode cX9_of 85 = .ok (.iload_n 1, 1) := by decide +kernel
theorem dX9_of_86 : decode cX9_of 86 = .ok (.baload, 1) := by decide +kernel
theorem dX9_of_87 : decode cX9_of 87 = .ok (.ifCond .eq 7, 3) := by decide +kernel
theorem dX9_of_90 : decode cX9_of 90 = .ok (.lconst 1, 1) := by decide +kernel
theorem dX9_of_91 : decode cX9_of 91 = .ok (.goto 4, 3) := by decide +kernel
theorem dX9_of_94 : decode cX9_of 94 = .ok (.lconst 0, 1) := by decide +kernel
theorem dX9_of_95 : decode cX9_of 95 = .ok (.lreturn, 1) := by decide +kernel
theorem dX9_oneRound_0 : decode cX9_oneRound 0 = .ok (.aload_n 0, 1) := by decide +kernel
theorem dX9_oneRound_1 : decode cX9_oneRound 1 = .ok (.invokevirtual 190, 3) := by decide +kernel
theorem dX9_oneRound_4 : decode cX9_oneRound 4 = .ok (.iconst 0, 1) := by decide +kernel
theorem dX9_oneRound_5 : decode cX9_oneRound 5 = .ok (.istore_n 1, 1) := by decide +kernel
theorem dX9_oneRound_6 : decode cX9_oneRound 6 = .ok (.iload_n 1, 1) := by decide +kernel
theorem dX9_oneRound_7 : decode cX9_oneRound 7 = .ok (.aload_n 0, 1) := by decide +kernel
theorem dX9_oneRound_8 : decode cX9_oneRound 8 = .ok (.getfield 118, 3) := by decide +kernel
theorem dX9_oneRound_11 : decode cX9_oneRound 11 = .ok (.if_icmp .ge 55, 3) := by decide +kernel
theorem dX9_oneRound_14 : decode cX9_oneRound 14 = .ok (.aload_n 0, 1) := by decide +kernel
theorem dX9_oneRound_15 : decode cX9_oneRound 15 = .ok (.getfield 108, 3) := by decide +kernel
theorem dX9_oneRound_18 : decode cX9_oneRound 18 = .ok (.aload_n 0, 1) := by decide +kernel
theorem dX9_oneRound_19 : decode cX9_oneRound 19 = .ok (.getfield 30, 3) := by decide +kernel
theorem dX9_oneRound_22 : decode cX9_oneRound 22 = .ok (.iload_n 1, 1) := by decide +kernel
theorem dX9_oneRound_23 : decode cX9_oneRound 23 = .ok (.iaload, 1) := by decide +kernel
theorem dX9_oneRound_24 : decode cX9_oneRound 24 = .ok (.baload, 1) := by decide +kernel
theorem dX9_oneRound_25 : decode cX9_oneRound 25 = .ok (.ifCond .eq 35, 3) := by decide +kernel
theorem dX9_oneRound_28 : decode cX9_oneRound 28 = .ok (.aload_n 0, 1) := by decide +kernel
theorem dX9_oneRound_29 : decode cX9_oneRound 29 = .ok (.aload_n 0, 1) := by decide +kernel
theorem dX9_oneRound_30 : decode cX9_oneRound 30 = .ok (.getfield 33, 3) := by decide +kernel
theorem dX9_oneRound_33 : decode cX9_oneRound 33 = .ok (.iload_n 1, 1) := by decide +kernel
theorem dX9_oneRound_34 : decode cX9_oneRound 34 = .ok (.iaload, 1) := by decide +kernel
theorem dX9_oneRound_35 : decode cX9_oneRound 35 = .ok (.aload_n 0, 1) := by decide +kernel
theorem dX9_oneRound_36 : decode cX9_oneRound 36 = .ok (.aload_n 0, 1) := by decide +kernel
theorem dX9_oneRound_37 : decode cX9_oneRound 37 = .ok (.getfield 102, 3) := by decide +kernel
theorem dX9_oneRound_40 : decode cX9_oneRound 40 = .ok (.aload_n 0, 1) := by decide +kernel
theorem dX9_oneRound_41 : decode cX9_oneRound 41 = .ok (.getfield 30, 3) := by decide +kernel
theorem dX9_oneRound_44 : decode cX9_oneRound 44 = .ok (.iload_n 1, 1) := by decide +kernel
theorem dX9_oneRound_45 : decode cX9_oneRound 45 = .ok (.iaload, 1) := by decide +kernel
theorem dX9_oneRound_46 : decode cX9_oneRound 46 = .ok (.iaload, 1) := by decide +kernel
theorem dX9_oneRound_47 : decode cX9_oneRound 47 = .ok (.aload_n 0, 1) := by decide +kernel
theorem dX9_oneRound_48 : decode cX9_oneRound 48 = .ok (.getfield 36, 3) := by decide +kernel
theorem dX9_oneRound_51 : decode cX9_oneRound 51 = .ok (.iload_n 1, 1) := by decide +kernel
theorem dX9_oneRound_52 : decode cX9_oneRound 52 = .ok (.iaload, 1) := by decide +kernel
theorem dX9_oneRound_53 : decode cX9_oneRound 53 = .ok (.invokevirtual 166, 3) := by decide +kernel
theorem dX9_oneRound_56 : decode cX9_oneRound 56 = .ok (.iload_n 1, 1) := by decide +kernel
theorem dX9_oneRound_57 : decode cX9_oneRound 57 = .ok (.invokevirtual 193, 3) := by decide +kernel
theorem dX9_oneRound_60 : decode cX9_oneRound 60 = .ok (.iinc 1 1, 3) := by decide +kernel
theorem dX9_oneRound_63 : decode cX9_oneRound 63 = .ok (.goto (-57), 3) := by decide +kernel
theorem dX9_oneRound_66 : decode cX9_oneRound 66 = .ok (.iconst 0, 1) := by decide +kernel
theorem dX9_oneRound_67 : decode cX9_oneRound 67 = .ok (.istore_n 1, 1) := by decide +kernel
theorem dX9_oneRound_68 : decode cX9_oneRound 68 = .ok (.iload_n 1, 1) := by decide +kernel
theorem dX9_oneRound_69 : decode cX9_oneRound 69 = .ok (.aload_n 0, 1) := by decide +kernel
theorem dX9_oneRound_70 : decode cX9_oneRound 70 = .ok (.getfield 115, 3) := by decide +kernel
theorem dX9_oneRound_73 : decode cX9_oneRound 73 = .ok (.if_icmp .ge 91, 3) := by decide +kernel
theorem dX9_oneRound_76 : decode cX9_oneRound 76 = .ok (.aload_n 0, 1) := by decide +kernel
theorem dX9_oneRound_77 : decode cX9_oneRound 77 = .ok (.iload_n 1, 1) := by decide +kernel
theorem dX9_oneRound_78 : decode cX9_oneRound 78 = .ok (.aload_n 0, 1) := by decide +kernel
theorem dX9_oneRound_79 : decode cX9_oneRound 79 = .ok (.getfield 102, 3) := by decide +kernel
theorem dX9_oneRound_82 : decode cX9_oneRound 82 = .ok (.iload_n 1, 1) := by decide +kernel
theorem dX9_oneRound_83 : decode cX9_oneRound 83 = .ok (.iaload, 1) := by decide +kernel
theorem dX9_oneRound_84 : decode cX9_oneRound 84 = .ok (.invokevirtual 196, 3) := by decide +kernel
theorem dX9_oneRound_87 : decode cX9_oneRound 87 = .ok (.istore_n 2, 1) := by decide +kernel
theorem dX9_oneRound_88 : decode cX9_oneRound 88 = .ok (.aload_n 0, 1) := by decide +kernel
theorem dX9_oneRound_89 : decode cX9_oneRound 89 = .ok (.getfield 108, 3) := by decide +kernel
theorem dX9_oneRound_92 : decode cX9_oneRound 92 = .ok (.iload_n 1, 1) := by decide +kernel
theorem dX9_oneRound_93 : decode cX9_oneRound 93 = .ok (.aload_n 0, 1) := by decide +kernel
theorem dX9_oneRound_94 : decode cX9_oneRound 94 = .ok (.getfield 121, 3) := by decide +kernel
theorem dX9_oneRound_97 : decode cX9_oneRound 97 = .ok (.iconst 2, 1) := by decide +kernel
theorem dX9_oneRound_98 : decode cX9_oneRound 98 = .ok (.if_icmp .ne 15, 3) := by decide +kernel
theorem dX9_oneRound_101 : decode cX9_oneRound 101 = .ok (.iload_n 2, 1) := by decide +kernel
theorem dX9_oneRound_102 : decode cX9_oneRound 102 = .ok (.ifCond .eq 7, 3) := by decide +kernel
theorem dX9_oneRound_105 : decode cX9_oneRound 105 = .ok (.iconst 1, 1) := by decide +kernel
theorem dX9_oneRound_106 : decode cX9_oneRound 106 = .ok (.goto 22, 3) := by decide +kernel
theorem dX9_oneRound_109 : decode cX9_oneRound 109 = .ok (.iconst 0, 1) := by decide +kernel
theorem dX9_oneRound_110 : decode cX9_oneRound 110 = .ok (.goto 18, 3) := by decide +kernel
theorem dX9_oneRound_113 : decode cX9_oneRound 113 = .ok (.iload_n 2, 1) := by decide +kernel
theorem dX9_oneRound_114 : decode cX9_oneRound 114 = .ok (.aload_n 0, 1) := by decide +kernel
theorem dX9_oneRound_115 : decode cX9_oneRound 115 = .ok (.getfield 102, 3) := by decide +kernel
theorem dX9_oneRound_118 : decode cX9_oneRound 118 = .ok (.iload_n 1, 1) := by decide +kernel
theorem dX9_oneRound_119 : decode cX9_oneRound 119 = .ok (.iaload, 1) := by decide +kernel
theorem dX9_oneRound_120 : decode cX9_oneRound 120 = .ok (.if_icmp .eq 7, 3) := by decide +kernel
theorem dX9_oneRound_123 : decode cX9_oneRound 123 = .ok (.iconst 1, 1) := by decide +kernel
theorem dX9_oneRound_124 : decode cX9_oneRound 124 = .ok (.goto 4, 3) := by decide +kernel
theorem dX9_oneRound_127 : decode cX9_oneRound 127 = .ok (.iconst 0, 1) := by decide +kernel
theorem dX9_oneRound_128 : decode cX9_oneRound 128 = .ok (.bastore, 1) := by decide +kernel
theorem dX9_oneRound_129 : decode cX9_oneRound 129 = .ok (.aload_n 0, 1) := by decide +kernel
theorem dX9_oneRound_130 : decode cX9_oneRound 130 = .ok (.getfield 102, 3) := by decide +kernel
theorem dX9_oneRound_133 : decode cX9_oneRound 133 = .ok (.iload_n 1, 1) := by decide +kernel
theorem dX9_oneRound_134 : decode cX9_oneRound 134 = .ok (.iload_n 2, 1) := by decide +kernel
theorem dX9_oneRound_135 : decode cX9_oneRound 135 = .ok (.iastore, 1) := by decide +kernel
theorem dX9_oneRound_136 : decode cX9_oneRound 136 = .ok (.aload_n 0, 1) := by decide +kernel
theorem dX9_oneRound_137 : decode cX9_oneRound 137 = .ok (.getfield 105, 3) := by decide +kernel
theorem dX9_oneRound_140 : decode cX9_oneRound 140 = .ok (.iload_n 1, 1) := by decide +kernel
theorem dX9_oneRound_141 : decode cX9_oneRound 141 = .ok (.dup2, 1) := by decide +kernel
theorem dX9_oneRound_142 : decode cX9_oneRound 142 = .ok (.iaload, 1) := by decide +kernel
theorem dX9_oneRound_143 : decode cX9_oneRound 143 = .ok (.aload_n 0, 1) := by decide +kernel
theorem dX9_oneRound_144 : decode cX9_oneRound 144 = .ok (.getfield 121, 3) := by decide +kernel
theorem dX9_oneRound_147 : decode cX9_oneRound 147 = .ok (.iconst 2, 1) := by decide +kernel
theorem dX9_oneRound_148 : decode cX9_oneRound 148 = .ok (.if_icmp .ne 7, 3) := by decide +kernel
theorem dX9_oneRound_151 : decode cX9_oneRound 151 = .ok (.iload_n 2, 1) := by decide +kernel
theorem dX9_oneRound_152 : decode cX9_oneRound 152 = .ok (.goto 4, 3) := by decide +kernel
theorem dX9_oneRound_155 : decode cX9_oneRound 155 = .ok (.iconst 0, 1) := by decide +kernel
theorem dX9_oneRound_156 : decode cX9_oneRound 156 = .ok (.iadd, 1) := by decide +kernel
theorem dX9_oneRound_157 : decode cX9_oneRound 157 = .ok (.iastore, 1) := by decide +kernel
theorem dX9_oneRound_158 : decode cX9_oneRound 158 = .ok (.iinc 1 1, 3) := by decide +kernel
theorem dX9_oneRound_161 : decode cX9_oneRound 161 = .ok (.goto (-93), 3) := by decide +kernel
theorem dX9_oneRound_164 : decode cX9_oneRound 164 = .ok (.return_, 1) := by decide +kernel
theorem dX9_alone_0 : decode cX9_alone 0 = .ok (.aload_n 0, 1) := by decide +kernel
theorem dX9_alone_1 : decode cX9_alone 1 = .ok (.iload_n 1, 1) := by decide +kernel
theorem dX9_alone_2 : decode cX9_alone 2 = .ok (.invokevirtual 151, 3) := by decide +kernel
theorem dX9_alone_5 : decode cX9_alone 5 = .ok (.ifCond .eq 23, 3) := by decide +kernel
theorem dX9_alone_8 : decode cX9_alone 8 = .ok (.iload_n 2, 1) := by decide +kernel
theorem dX9_alone_9 : decode cX9_alone 9 = .ok (.iconst 0, 1) := by decide +kernel
theorem dX9_alone_10 : decode cX9_alone 10 = .ok (.sipush 200, 3) := by decide +kernel
theorem dX9_alone_13 : decode cX9_alone 13 = .ok (.invokestatic 143, 3) := by decide +kernel
theorem dX9_alone_16 : decode cX9_alone 16 = .ok (.ifCond .eq 12, 3) := by decide +kernel
theorem dX9_alone_19 : decode cX9_alone 19 = .ok (.iload_n 3, 1) := by decide +kernel
theorem dX9_alone_20 : decode cX9_alone 20 = .ok (.iconst 0, 1) := by decide +kernel
theorem dX9_alone_21 : decode cX9_alone 21 = .ok (.iconst 2, 1) := by decide +kernel
theorem dX9_alone_22 : decode cX9_alone 22 = .ok (.invokestatic 143, 3) := by decide +kernel
theorem dX9_alone_25 : decode cX9_alone 25 = .ok (.ifCond .ne 7, 3) := by decide +kernel
theorem dX9_alone_28 : decode cX9_alone 28 = .ok (.ldc2_w 211, 3) := by decide +kernel
theorem dX9_alone_31 : decode cX9_alone 31 = .ok (.lreturn, 1) := by decide +kernel
theorem dX9_alone_32 : decode cX9_alone 32 = .ok (.iconst 0, 1) := by decide +kernel
theorem dX9_alone_33 : decode cX9_alone 33 = .ok (.istore 4, 2) := by decide +kernel
theorem dX9_alone_35 : decode cX9_alone 35 = .ok (.iload 4, 2) := by decide +kernel
theorem dX9_alone_37 : decode cX9_alone 37 = .ok (.aload_n 0, 1) := by decide +kernel
theorem dX9_alone_38 : decode cX9_alone 38 = .ok (.getfield 115, 3) := by decide +kernel
theorem dX9_alone_41 : decode cX9_alone 41 = .ok (.if_icmp .ge 39, 3) := by decide +kernel
theorem dX9_alone_44 : decode cX9_alone 44 = .ok (.aload_n 0, 1) := by decide +kernel
theorem dX9_alone_45 : decode cX9_alone 45 = .ok (.getfield 102, 3) := by decide +kernel
theorem dX9_alone_48 : decode cX9_alone 48 = .ok (.iload 4, 2) := by decide +kernel
theorem dX9_alone_50 : decode cX9_alone 50 = .ok (.aload_n 0, 1) := by decide +kernel
theorem dX9_alone_51 : decode cX9_alone 51 = .ok (.getfield 13, 3) := by decide +kernel
theorem dX9_alone_54 : decode cX9_alone 54 = .ok (.iload 4, 2) := by decide +kernel
theorem dX9_alone_56 : decode cX9_alone 56 = .ok (.iaload, 1) := by decide +kernel
theorem dX9_alone_57 : decode cX9_alone 57 = .ok (.iastore, 1) := by decide +kernel
theorem dX9_alone_58 : decode cX9_alone 58 = .ok (.aload_n 0, 1) := by decide +kernel
theorem dX9_alone_59 : decode cX9_alone 59 = .ok (.getfield 105, 3) := by decide +kernel
theorem dX9_alone_62 : decode cX9_alone 62 = .ok (.iload 4, 2) := by decide +kernel
theorem dX9_alone_64 : decode cX9_alone 64 = .ok (.iconst 0, 1) := by decide +kernel
theorem dX9_alone_65 : decode cX9_alone 65 = .ok (.iastore, 1) := by decide +kernel
theorem dX9_alone_66 : decode cX9_alone 66 = .ok (.aload_n 0, 1) := by decide +kernel
theorem dX9_alone_67 : decode cX9_alone 67 = .ok (.getfield 108, 3) := by decide +kernel
theorem dX9_alone_70 : decode cX9_alone 70 = .ok (.iload 4, 2) := by decide +kernel
theorem dX9_alone_72 : decode cX9_alone 72 = .ok (.iconst 1, 1) := by decide +kernel
theorem dX9_alone_73 : decode cX9_alone 73 = .ok (.bastore, 1) := by decide +kernel
theorem dX9_alone_74 : decode cX9_alone 74 = .ok (.iinc 4 1, 3) := by decide +kernel
theorem dX9_alone_77 : decode cX9_alone 77 = .ok (.goto (-42), 3) := by decide +kernel
theorem dX9_alone_80 : decode cX9_alone 80 = .ok (.iconst 0, 1) := by decide +kernel
theorem dX9_alone_81 : decode cX9_alone 81 = .ok (.istore 4, 2) := by decide +kernel
theorem dX9_alone_83 : decode cX9_alone 83 = .ok (.iload 4, 2) := by decide +kernel
theorem dX9_alone_85 : decode cX9_alone 85 = .ok (.iload_n 2, 1) := by decide +kernel
theorem dX9_alone_86 : decode cX9_alone 86 = .ok (.if_icmp .ge 13, 3) := by decide +kernel
theorem dX9_alone_89 : decode cX9_alone 89 = .ok (.aload_n 0, 1) := by decide +kernel
theorem dX9_alone_90 : decode cX9_alone 90 = .ok (.invokevirtual 235, 3) := by decide +kernel
theorem dX9_alone_93 : decode cX9_alone 93 = .ok (.iinc 4 1, 3) := by decide +kernel
theorem dX9_alone_96 : decode cX9_alone 96 = .ok (.goto (-13), 3) := by decide +kernel
theorem dX9_alone_99 : decode cX9_alone 99 = .ok (.iload_n 3, 1) := by decide +kernel
theorem dX9_alone_100 : decode cX9_alone 100 = .ok (.ifCond .ne 13, 3) := by decide +kernel
theorem dX9_alone_103 : decode cX9_alone 103 = .ok (.aload_n 0, 1) := by decide +kernel
theorem dX9_alone_104 : decode cX9_alone 104 = .ok (.getfield 102, 3) := by decide +kernel
theorem dX9_alone_107 : decode cX9_alone 107 = .ok (.iload_n 1, 1) := by decide +kernel
theorem dX9_alone_108 : decode cX9_alone 108 = .ok (.iaload, 1) := by decide +kernel
theorem dX9_alone_109 : decode cX9_alone 109 = .ok (.i2l, 1) := by decide +kernel
theorem dX9_alone_110 : decode cX9_alone 110 = .ok (.goto 32, 3) := by decide +kernel
theorem dX9_alone_113 : decode cX9_alone 113 = .ok (.iload_n 3, 1) := by decide +kernel
theorem dX9_alone_114 : decode cX9_alone 114 = .ok (.iconst 1, 1) := by decide +kernel
theorem dX9_alone_115 : decode cX9_alone 115 = .ok (.if_icmp .ne 13, 3) := by decide +kernel
theorem dX9_alone_118 : decode cX9_alone 118 = .ok (.aload_n 0, 1) := by decide +kernel
theorem dX9_alone_119 : decode cX9_alone 119 = .ok (.getfield 105, 3) := by decide +kernel
theorem dX9_alone_122 : decode cX9_alone 122 = .ok (.iload_n 1, 1) := by decide +kernel
theorem dX9_alone_123 : decode cX9_alone 123 = .ok (.iaload, 1) := by decide +kernel
theorem dX9_alone_124 : decode cX9_alone 124 = .ok (.i2l, 1) := by decide +kernel
theorem dX9_alone_125 : decode cX9_alone 125 = .ok (.goto 17, 3) := by decide +kernel
theorem dX9_alone_128 : decode cX9_alone 128 = .ok (.aload_n 0, 1) := by decide +kernel
theorem dX9_alone_129 : decode cX9_alone 129 = .ok (.getfield 108, 3) := by decide +kernel
theorem dX9_alone_132 : decode cX9_alone 132 = .ok (.iload_n 1, 1) := by decide +kernel
theorem dX9_alone_133 : decode cX9_alone 133 = .ok (.baload, 1) := by decide +kernel
theorem dX9_alone_134 : decode cX9_alone 134 = .ok (.ifCond .eq 7, 3) := by decide +kernel
theorem dX9_alone_137 : decode cX9_alone 137 = .ok (.lconst 1, 1) := by decide +kernel
theorem dX9_alone_138 : decode cX9_alone 138 = .ok (.goto 4, 3) := by decide +kernel
theorem dX9_alone_141 : decode cX9_alone 141 = .ok (.lconst 0, 1) := by decide +kernel
theorem dX9_alone_142 : decode cX9_alone 142 = .ok (.lreturn, 1) := by decide +kernel
theorem dX9_node_0 : decode cX9_node 0 = .ok (.aload_n 0, 1) := by decide +kernel
theorem dX9_node_1 : decode cX9_node 1 = .ok (.iload_n 1, 1) := by decide +kernel
theorem dX9_node_2 : decode cX9_node 2 = .ok (.invokevirtual 147, 3) := by decide +kernel
theorem dX9_node_5 : decode cX9_node 5 = .ok (.ifCond .eq 12, 3) := by decide +kernel
theorem dX9_node_8 : decode cX9_node 8 = .ok (.iload_n 2, 1) := by decide +kernel
theorem dX9_node_9 : decode cX9_node 9 = .ok (.iconst 0, 1) := by decide +kernel
theorem dX9_node_10 : decode cX9_node 10 = .ok (.iconst 5, 1) := by decide +kernel
theorem dX9_node_11 : decode cX9_node 11 = .ok (.invokestatic 143, 3) := by decide +kernel
theorem dX9_node_14 : decode cX9_node 14 = .ok (.ifCond .ne 5, 3) := by decide +kernel
theorem dX9_node_17 : decode cX9_node 17 = .ok (.iconst (-1), 1) := by decide +kernel
theorem dX9_node_18 : decode cX9_node 18 = .ok (.ireturn, 1) := by decide +kernel
theorem dX9_node_19 : decode cX9_node 19 = .ok (.iconst 0, 1) := by decide +kernel
theorem dX9_node_20 : decode cX9_node 20 = .ok (.istore_n 3, 1) := by decide +kernel
theorem dX9_node_21 : decode cX9_node 21 = .ok (.iload_n 2, 1) := by decide +kernel
theorem dX9_node_22 : decode cX9_node 22 = .ok (.tableswitch 116 0 4 #[34, 41, 56, 71, 77], 34) := by decide +kernel
theorem dX9_node_56 : decode cX9_node 56 = .ok (.aload_n 0, 1) := by decide +kernel
theorem dX9_node_57 : decode cX9_node 57 = .ok (.getfield 39, 3) := by decide +kernel
theorem dX9_node_60 : decode cX9_node 60 = .ok (.iload_n 1, 1) := by decide +kernel
theorem dX9_node_61 : decode cX9_node 61 = .ok (.iaload, 1) := by decide +kernel
theorem dX9_node_62 : decode cX9_node 62 = .ok (.ireturn, 1) := by decide +kernel
theorem dX9_node_63 : decode cX9_node 63 = .ok (.aload_n 0, 1) := by decide +kernel
theorem dX9_node_64 : decode cX9_node 64 = .ok (.getfield 42, 3) := by decide +kernel
theorem dX9_node_67 : decode cX9_node 67 = .ok (.iload_n 1, 1) := by decide +kernel
theorem dX9_node_68 : decode cX9_node 68 = .ok (.baload, 1) := by decide +kernel
theorem dX9_node_69 : decode cX9_node 69 = .ok (.ifCond .eq 7, 3) := by decide +kernel
theorem dX9_node_72 : decode cX9_node 72 = .ok (.iconst 1, 1) := by decide +kernel
theorem dX9_node_73 : decode cX9_node 73 = .ok (.goto 4, 3) := by decide +kernel
theorem dX9_node_76 : decode cX9_node 76 = .ok (.iconst 0, 1) := by decide +kernel
theorem dX9_node_77 : decode cX9_node 77 = .ok (.ireturn, 1) := by decide +kernel
theorem dX9_node_78 : decode cX9_node 78 = .ok (.aload_n 0, 1) := by decide +kernel
theorem dX9_node_79 : decode cX9_node 79 = .ok (.getfield 45, 3) := by decide +kernel
theorem dX9_node_82 : decode cX9_node 82 = .ok (.iload_n 1, 1) := by decide +kernel
theorem dX9_node_83 : decode cX9_node 83 = .ok (.baload, 1) := by decide +kernel
theorem dX9_node_84 : decode cX9_node 84 = .ok (.ifCond .eq 7, 3) := by decide +kernel
theorem dX9_node_87 : decode cX9_node 87 = .ok (.iconst 1, 1) := by decide +kernel
theorem dX9_node_88 : decode cX9_node 88 = .ok (.goto 4, 3) := by decide +kernel
theorem dX9_node_91 : decode cX9_node 91 = .ok (.iconst 0, 1) := by decide +kernel
theorem dX9_node_92 : decode cX9_node 92 = .ok (.ireturn, 1) := by decide +kernel
theorem dX9_node_93 : decode cX9_node 93 = .ok (.aload_n 0, 1) := by decide +kernel
theorem dX9_node_94 : decode cX9_node 94 = .ok (.iload_n 1, 1) := by decide +kernel
theorem dX9_node_95 : decode cX9_node 95 = .ok (.invokevirtual 199, 3) := by decide +kernel
theorem dX9_node_98 : decode cX9_node 98 = .ok (.ireturn, 1) := by decide +kernel
theorem dX9_node_99 : decode cX9_node 99 = .ok (.iconst 0, 1) := by decide +kernel
theorem dX9_node_100 : decode cX9_node 100 = .ok (.istore 4, 2) := by decide +kernel
theorem dX9_node_102 : decode cX9_node 102 = .ok (.iload 4, 2) := by decide +kernel
theorem dX9_node_104 : decode cX9_node 104 = .ok (.aload_n 0, 1) := by decide +kernel
theorem dX9_node_105 : decode cX9_node 105 = .ok (.getfield 115, 3) := by decide +kernel
theorem dX9_node_108 : decode cX9_node 108 = .ok (.if_icmp .ge 28, 3) := by decide +kernel
theorem dX9_node_111 : decode cX9_node 111 = .ok (.iload_n 3, 1) := by decide +kernel
theorem dX9_node_112 : decode cX9_node 112 = .ok (.aload_n 0, 1) := by decide +kernel
theorem dX9_node_113 : decode cX9_node 113 = .ok (.getfield 27, 3) := by decide +kernel
theorem dX9_node_116 : decode cX9_node 116 = .ok (.iload 4, 2) := by decide +kernel
theorem dX9_node_118 : decode cX9_node 118 = .ok (.iaload, 1) := by decide +kernel
theorem dX9_node_119 : decode cX9_node 119 = .ok (.iload_n 1, 1) := by decide +kernel
theorem dX9_node_120 : decode cX9_node 120 = .ok (.if_icmp .ne 7, 3) := by decide +kernel
theorem dX9_node_123 : decode cX9_node 123 = .ok (.iconst 1, 1) := by decide +kernel
theorem dX9_node_124 : decode cX9_node 124 = .ok (.goto 4, 3) := by decide +kernel
theorem dX9_node_127 : decode cX9_node 127 = .ok (.iconst 0, 1) := by decide +kernel
theorem dX9_node_128 : decode cX9_node 128 = .ok (.iadd, 1) := by decide +kernel
theorem dX9_node_129 : decode cX9_node 129 = .ok (.istore_n 3, 1) := by decide +kernel
theorem dX9_node_130 : decode cX9_node 130 = .ok (.iinc 4 1, 3) := by decide +kernel
theorem dX9_node_133 : decode cX9_node 133 = .ok (.goto (-31), 3) := by decide +kernel
theorem dX9_node_136 : decode cX9_node 136 = .ok (.iload_n 3, 1) := by decide +kernel
theorem dX9_node_137 : decode cX9_node 137 = .ok (.ireturn, 1) := by decide +kernel
theorem dX9_node_138 : decode cX9_node 138 = .ok (.aload_n 0, 1) := by decide +kernel
theorem dX9_node_139 : decode cX9_node 139 = .ok (.getfield 78, 3) := by decide +kernel
theorem dX9_node_142 : decode cX9_node 142 = .ok (.iconst 2, 1) := by decide +kernel
theorem dX9_node_143 : decode cX9_node 143 = .ok (.iload_n 1, 1) := by decide +kernel
theorem dX9_node_144 : decode cX9_node 144 = .ok (.imul, 1) := by decide +kernel
theorem dX9_node_145 : decode cX9_node 145 = .ok (.iconst 1, 1) := by decide +kernel
theorem dX9_node_146 : decode cX9_node 146 = .ok (.iadd, 1) := by decide +kernel
theorem dX9_node_147 : decode cX9_node 147 = .ok (.iaload, 1) := by decide +kernel
theorem dX9_node_148 : decode cX9_node 148 = .ok (.ireturn, 1) := by decide +kernel
theorem dX9_told_0 : decode cX9_told 0 = .ok (.iload_n 1, 1) := by decide +kernel
theorem dX9_told_1 : decode cX9_told 1 = .ok (.tableswitch 131 0 11 #[63, 68, 73, 78, 83, 88, 93, 100, 107, 114, 121, 126], 63) := by decide +kernel
theorem dX9_told_64 : decode cX9_told 64 = .ok (.aload_n 0, 1) := by decide +kernel
theorem dX9_told_65 : decode cX9_told 65 = .ok (.getfield 115, 3) := by decide +kernel
theorem dX9_told_68 : decode cX9_told 68 = .ok (.ireturn, 1) := by decide +kernel
theorem dX9_told_69 : decode cX9_told 69 = .ok (.aload_n 0, 1) := by decide +kernel
theorem dX9_told_70 : decode cX9_told 70 = .ok (.getfield 118, 3) := by decide +kernel
theorem dX9_told_73 : decode cX9_told 73 = .ok (.ireturn, 1) := by decide +kernel
theorem dX9_told_74 : decode cX9_told 74 = .ok (.aload_n 0, 1) := by decide +kernel
theorem dX9_told_75 : decode cX9_told 75 = .ok (.getfield 7, 3) := by decide +kernel
theorem dX9_told_78 : decode cX9_told 78 = .ok (.ireturn, 1) := by decide +kernel
theorem dX9_told_79 : decode cX9_told 79 = .ok (.aload_n 0, 1) := by decide +kernel
theorem dX9_told_80 : decode cX9_told 80 = .ok (.getfield 121, 3) := by decide +kernel
theorem dX9_told_83 : decode cX9_told 83 = .ok (.ireturn, 1) := by decide +kernel
theorem dX9_told_84 : decode cX9_told 84 = .ok (.aload_n 0, 1) := by decide +kernel
theorem dX9_told_85 : decode cX9_told 85 = .ok (.getfield 134, 3) := by decide +kernel
theorem dX9_told_88 : decode cX9_told 88 = .ok (.ireturn, 1) := by decide +kernel
theorem dX9_told_89 : decode cX9_told 89 = .ok (.aload_n 0, 1) := by decide +kernel
theorem dX9_told_90 : decode cX9_told 90 = .ok (.getfield 140, 3) := by decide +kernel
theorem dX9_told_93 : decode cX9_told 93 = .ok (.ireturn, 1) := by decide +kernel
theorem dX9_told_94 : decode cX9_told 94 = .ok (.aload_n 0, 1) := by decide +kernel
theorem dX9_told_95 : decode cX9_told 95 = .ok (.getfield 90, 3) := by decide +kernel
theorem dX9_told_98 : decode cX9_told 98 = .ok (.iconst 0, 1) := by decide +kernel
theorem dX9_told_99 : decode cX9_told 99 = .ok (.iaload, 1) := by decide +kernel
theorem dX9_told_100 : decode cX9_told 100 = .ok (.ireturn, 1) := by decide +kernel
theorem dX9_told_101 : decode cX9_told 101 = .ok (.aload_n 0, 1) := by decide +kernel
theorem dX9_told_102 : decode cX9_told 102 = .ok (.getfield 90, 3) := by decide +kernel
theorem dX9_told_105 : decode cX9_told 105 = .ok (.iconst 1, 1) := by decide +kernel
theorem dX9_told_106 : decode cX9_told 106 = .ok (.iaload, 1) := by decide +kernel
theorem dX9_told_107 : decode cX9_told 107 = .ok (.ireturn, 1) := by decide +kernel
theorem dX9_told_108 : decode cX9_told 108 = .ok (.aload_n 0, 1) := by decide +kernel
theorem dX9_told_109 : decode cX9_told 109 = .ok (.getfield 90, 3) := by decide +kernel
theorem dX9_told_112 : decode cX9_told 112 = .ok (.iconst 2, 1) := by decide +kernel
theorem dX9_told_113 : decode cX9_told 113 = .ok (.iaload, 1) := by decide +kernel
theorem dX9_told_114 : decode cX9_told 114 = .ok (.ireturn, 1) := by decide +kernel
theorem dX9_told_115 : decode cX9_told 115 = .ok (.aload_n 0, 1) := by decide +kernel
theorem dX9_told_116 : decode cX9_told 116 = .ok (.getfield 90, 3) := by decide +kernel
theorem dX9_told_119 : decode cX9_told 119 = .ok (.iconst 3, 1) := by decide +kernel
theorem dX9_told_120 : decode cX9_told 120 = .ok (.iaload, 1) := by decide +kernel
theorem dX9_told_121 : decode cX9_told 121 = .ok (.ireturn, 1) := by decide +kernel
theorem dX9_told_122 : decode cX9_told 122 = .ok (.aload_n 0, 1) := by decide +kernel
theorem dX9_told_123 : decode cX9_told 123 = .ok (.getfield 137, 3) := by decide +kernel
theorem dX9_told_126 : decode cX9_told 126 = .ok (.ireturn, 1) := by decide +kernel
theorem dX9_told_127 : decode cX9_told 127 = .ok (.aload_n 0, 1) := by decide +kernel
theorem dX9_told_128 : decode cX9_told 128 = .ok (.getfield 128, 3) := by decide +kernel
theorem dX9_told_131 : decode cX9_told 131 = .ok (.ireturn, 1) := by decide +kernel
theorem dX9_told_132 : decode cX9_told 132 = .ok (.iconst (-1), 1) := by decide +kernel
theorem dX9_told_133 : decode cX9_told 133 = .ok (.ireturn, 1) := by decide +kernel
theorem dJ9_max_7cf53_0 : decode cJ9_max_7cf53 0 = .ok (.iload_n 0, 1) := by decide +kernel
theorem dJ9_max_7cf53_1 : decode cJ9_max_7cf53 1 = .ok (.iload_n 1, 1) := by decide +kernel
theorem dJ9_max_7cf53_2 : decode cJ9_max_7cf53 2 = .ok (.if_icmp .lt 7, 3) := by decide +kernel
theorem dJ9_max_7cf53_5 : decode cJ9_max_7cf53 5 = .ok (.iload_n 0, 1) := by decide +kernel
theorem dJ9_max_7cf53_6 : decode cJ9_max_7cf53 6 = .ok (.goto 4, 3) := by decide +kernel
theorem dJ9_max_7cf53_9 : decode cJ9_max_7cf53 9 = .ok (.iload_n 1, 1) := by decide +kernel
theorem dJ9_max_7cf53_10 : decode cJ9_max_7cf53 10 = .ok (.ireturn, 1) := by decide +kernel
theorem dJ9_min_7cf53_0 : decode cJ9_min_7cf53 0 = .ok (.iload_n 0, 1) := by decide +kernel
theorem dJ9_min_7cf53_1 : decode cJ9_min_7cf53 1 = .ok (.iload_n 1, 1) := by decide +kernel
theorem dJ9_min_7cf53_2 : decode cJ9_min_7cf53 2 = .ok (.if_icmp .gt 7, 3) := by decide +kernel
theorem dJ9_min_7cf53_5 : decode cJ9_min_7cf53 5 = .ok (.iload_n 0, 1) := by decide +kernel
theorem dJ9_min_7cf53_6 : decode cJ9_min_7cf53 6 = .ok (.goto 4, 3) := by decide +kernel
theorem dJ9_min_7cf53_9 : decode cJ9_min_7cf53 9 = .ok (.iload_n 1, 1) := by decide +kernel
theorem dJ9_min_7cf53_10 : decode cJ9_min_7cf53 10 = .ok (.ireturn, 1) := by decide +kernel
theorem dJ7_fill_53178_0 : decode cJ7_fill_53178 0 = .ok (.iconst 0, 1) := by decide +kernel
theorem dJ7_fill_53178_1 : decode cJ7_fill_53178 1 = .ok (.istore_n 2, 1) := by decide +kernel
theorem dJ7_fill_53178_2 : decode cJ7_fill_53178 2 = .ok (.aload_n 0, 1) := by decide +kernel
theorem dJ7_fill_53178_3 : decode cJ7_fill_53178 3 = .ok (.arraylength, 1) := by decide +kernel
theorem dJ7_fill_53178_4 : decode cJ7_fill_53178 4 = .ok (.istore_n 3, 1) := by decide +kernel
theorem dJ7_fill_53178_5 : decode cJ7_fill_53178 5 = .ok (.iload_n 2, 1) := by decide +kernel
theorem dJ7_fill_53178_6 : decode cJ7_fill_53178 6 = .ok (.iload_n 3, 1) := by decide +kernel
theorem dJ7_fill_53178_7 : decode cJ7_fill_53178 7 = .ok (.if_icmp .ge 13, 3) := by decide +kernel
theorem dJ7_fill_53178_10 : decode cJ7_fill_53178 10 = .ok (.aload_n 0, 1) := by decide +kernel
theorem dJ7_fill_53178_11 : decode cJ7_fill_53178 11 = .ok (.iload_n 2, 1) := by decide +kernel
theorem dJ7_fill_53178_12 : decode cJ7_fill_53178 12 = .ok (.iload_n 1, 1) := by decide +kernel
theorem dJ7_fill_53178_13 : decode cJ7_fill_53178 13 = .ok (.iastore, 1) := by decide +kernel
theorem dJ7_fill_53178_14 : decode cJ7_fill_53178 14 = .ok (.iinc 2 1, 3) := by decide +kernel
theorem dJ7_fill_53178_17 : decode cJ7_fill_53178 17 = .ok (.goto (-12), 3) := by decide +kernel
theorem dJ7_fill_53178_20 : decode cJ7_fill_53178 20 = .ok (.return_, 1) := by decide +kernel
theorem dJ7_copyOf_59c91_0 : decode cJ7_copyOf_59c91 0 = .ok (.iload_n 1, 1) := by decide +kernel
theorem dJ7_copyOf_59c91_1 : decode cJ7_copyOf_59c91 1 = .ok (.aload_n 0, 1) := by decide +kernel
theorem dJ7_copyOf_59c91_2 : decode cJ7_copyOf_59c91 2 = .ok (.arraylength, 1) := by decide +kernel
theorem dJ7_copyOf_59c91_3 : decode cJ7_copyOf_59c91 3 = .ok (.if_icmp .ne 11, 3) := by decide +kernel
theorem dJ7_copyOf_59c91_6 : decode cJ7_copyOf_59c91 6 = .ok (.aload_n 0, 1) := by decide +kernel
theorem dJ7_copyOf_59c91_7 : decode cJ7_copyOf_59c91 7 = .ok (.invokevirtual 316, 3) := by decide +kernel
theorem dJ7_copyOf_59c91_10 : decode cJ7_copyOf_59c91 10 = .ok (.checkcast 317, 3) := by decide +kernel
theorem dJ7_copyOf_59c91_13 : decode cJ7_copyOf_59c91 13 = .ok (.areturn, 1) := by decide +kernel
theorem dJ7_copyOf_59c91_14 : decode cJ7_copyOf_59c91 14 = .ok (.iload_n 1, 1) := by decide +kernel
theorem dJ7_copyOf_59c91_15 : decode cJ7_copyOf_59c91 15 = .ok (.newarray .int, 2) := by decide +kernel
theorem dJ7_copyOf_59c91_17 : decode cJ7_copyOf_59c91 17 = .ok (.astore_n 2, 1) := by decide +kernel
theorem dJ7_copyOf_59c91_18 : decode cJ7_copyOf_59c91 18 = .ok (.aload_n 0, 1) := by decide +kernel
theorem dJ7_copyOf_59c91_19 : decode cJ7_copyOf_59c91 19 = .ok (.iconst 0, 1) := by decide +kernel
theorem dJ7_copyOf_59c91_20 : decode cJ7_copyOf_59c91 20 = .ok (.aload_n 2, 1) := by decide +kernel
theorem dJ7_copyOf_59c91_21 : decode cJ7_copyOf_59c91 21 = .ok (.iconst 0, 1) := by decide +kernel
theorem dJ7_copyOf_59c91_22 : decode cJ7_copyOf_59c91 22 = .ok (.aload_n 0, 1) := by decide +kernel
theorem dJ7_copyOf_59c91_23 : decode cJ7_copyOf_59c91 23 = .ok (.arraylength, 1) := by decide +kernel
theorem dJ7_copyOf_59c91_24 : decode cJ7_copyOf_59c91 24 = .ok (.iload_n 1, 1) := by decide +kernel
theorem dJ7_copyOf_59c91_25 : decode cJ7_copyOf_59c91 25 = .ok (.invokestatic 304, 3) := by decide +kernel
theorem dJ7_copyOf_59c91_28 : decode cJ7_copyOf_59c91 28 = .ok (.invokestatic 150, 3) := by decide +kernel
theorem dJ7_copyOf_59c91_31 : decode cJ7_copyOf_59c91 31 = .ok (.aload_n 2, 1) := by decide +kernel
theorem dJ7_copyOf_59c91_32 : decode cJ7_copyOf_59c91 32 = .ok (.areturn, 1) := by decide +kernel
theorem dL_law_0 : decode cL_law 0 = .ok (.new 7, 3) := by decide +kernel
theorem dL_law_3 : decode cL_law 3 = .ok (.dup, 1) := by decide +kernel
theorem dL_law_4 : decode cL_law 4 = .ok (.invokespecial 9, 3) := by decide +kernel
theorem dL_law_7 : decode cL_law 7 = .ok (.astore_n 1, 1) := by decide +kernel
theorem dL_law_8 : decode cL_law 8 = .ok (.new 10, 3) := by decide +kernel
theorem dL_law_11 : decode cL_law 11 = .ok (.dup, 1) := by decide +kernel
theorem dL_law_12 : decode cL_law 12 = .ok (.invokespecial 12, 3) := by decide +kernel
theorem dL_law_15 : decode cL_law 15 = .ok (.astore_n 2, 1) := by decide +kernel
theorem dL_law_16 : decode cL_law 16 = .ok (.iconst 0, 1) := by decide +kernel
theorem dL_law_17 : decode cL_law 17 = .ok (.istore_n 3, 1) := by decide +kernel
theorem dL_law_18 : decode cL_law 18 = .ok (.iload_n 3, 1) := by decide +kernel
theorem dL_law_19 : decode cL_law 19 = .ok (.aload_n 0, 1) := by decide +kernel
theorem dL_law_20 : decode cL_law 20 = .ok (.arraylength, 1) := by decide +kernel
theorem dL_law_21 : decode cL_law 21 = .ok (.iconst 4, 1) := by decide +kernel
theorem dL_law_22 : decode cL_law 22 = .ok (.isub, 1) := by decide +kernel
theorem dL_law_23 : decode cL_law 23 = .ok (.if_icmp .gt 690, 3) := by decide +kernel
theorem dL_law_26 : decode cL_law 26 = .ok (.aload_n 0, 1) := by decide +kernel
theorem dL_law_27 : decode cL_law 27 = .ok (.iload_n 3, 1) := by decide +kernel
theorem dL_law_28 : decode cL_law 28 = .ok (.iaload, 1) := by decide +kernel
theorem dL_law_29 : decode cL_law 29 = .ok (.bipush 31, 2) := by decide +kernel
theorem dL_law_31 : decode cL_law 31 = .ok (.iand, 1) := by decide +kernel
theorem dL_law_32 : decode cL_law 32 = .ok (.tableswitch 675 0 19 #[96, 119, 152, 195, 218, 257, 280, 293, 326, 370, 393, 416, 439, 472, 495, 508, 541, 575, 619, 652], 96) := by decide +kernel
theorem dL_law_128 : decode cL_law 128 = .ok (.aload_n 1, 1) := by decide +kernel
theorem dL_law_129 : decode cL_law 129 = .ok (.aload_n 0, 1) := by decide +kernel
theorem dL_law_130 : decode cL_law 130 = .ok (.iload_n 3, 1) := by decide +kernel
theorem dL_law_131 : decode cL_law 131 = .ok (.iconst 1, 1) := by decide +kernel
theorem dL_law_132 : decode cL_law 132 = .ok (.iadd, 1) := by decide +kernel
theorem dL_law_133 : decode cL_law 133 = .ok (.iaload, 1) := by decide +kernel
theorem dL_law_134 : decode cL_law 134 = .ok (.invokevirtual 13, 3) := by decide +kernel
theorem dL_law_137 : decode cL_law 137 = .ok (.aload_n 2, 1) := by decide +kernel
theorem dL_law_138 : decode cL_law 138 = .ok (.aload_n 0, 1) := by decide +kernel
theorem dL_law_139 : decode cL_law 139 = .ok (.iload_n 3, 1) := by decide +kernel
theorem dL_law_140 : decode cL_law 140 = .ok (.iconst 1, 1) := by decide +kernel
theorem dL_law_141 : decode cL_law 141 = .ok (.iadd, 1) := by decide +kernel
theorem dL_law_142 : decode cL_law 142 = .ok (.iaload, 1) := by decide +kernel
theorem dL_law_143 : decode cL_law 143 = .ok (.invokevirtual 17, 3) := by decide +kernel
theorem dL_law_146 : decode cL_law 146 = .ok (.if_icmp .eq 561, 3) := by decide +kernel
theorem dL_law_149 : decode cL_law 149 = .ok (.iconst 0, 1) := by decide +kernel
theorem dL_law_150 : decode cL_law 150 = .ok (.ireturn, 1) := by decide +kernel
theorem dL_law_151 : decode cL_law 151 = .ok (.aload_n 1, 1) := by decide +kernel
theorem dL_law_152 : decode cL_law 152 = .ok (.aload_n 0, 1) := by decide +kernel
theorem dL_law_153 : decode cL_law 153 = .ok (.iload_n 3, 1) := by decide +kernel
theorem dL_law_154 : decode cL_law 154 = .ok (.iconst 1, 1) := by decide +kernel
theorem dL_law_155 : decode cL_law 155 = .ok (.iadd, 1) := by decide +kernel
theorem dL_law_156 : decode cL_law 156 = .ok (.iaload, 1) := by decide +kernel
theorem dL_law_157 : decode cL_law 157 = .ok (.aload_n 0, 1) := by decide +kernel
theorem dL_law_158 : decode cL_law 158 = .ok (.iload_n 3, 1) := by decide +kernel
theorem dL_law_159 : decode cL_law 159 = .ok (.iconst 2, 1) := by decide +kernel
theorem dL_law_160 : decode cL_law 160 = .ok (.iadd, 1) := by decide +kernel
theorem dL_law_161 : decode cL_law 161 = .ok (.iaload, 1) := by decide +kernel
theorem dL_law_162 : decode cL_law 162 = .ok (.invokevirtual 18, 3) := by decide +kernel
theorem dL_law_165 : decode cL_law 165 = .ok (.aload_n 2, 1) := by decide +kernel
theorem dL_law_166 : decode cL_law 166 = .ok (.aload_n 0, 1) := by decide +kernel
theorem dL_law_167 : decode cL_law 167 = .ok (.iload_n 3, 1) := by decide +kernel
theorem dL_law_168 : decode cL_law 168 = .ok (.iconst 1, 1) := by decide +kernel
theorem dL_law_169 : decode cL_law 169 = .ok (.iadd, 1) := by decide +kernel
theorem dL_law_170 : decode cL_law 170 = .ok (.iaload, 1) := by decide +kernel
theorem dL_law_171 : decode cL_law 171 = .ok (.aload_n 0, 1) := by decide +kernel
theorem dL_law_172 : decode cL_law 172 = .ok (.iload_n 3, 1) := by decide +kernel
theorem dL_law_173 : decode cL_law 173 = .ok (.iconst 2, 1) := by decide +kernel
theorem dL_law_174 : decode cL_law 174 = .ok (.iadd, 1) := by decide +kernel
theorem dL_law_175 : decode cL_law 175 = .ok (.iaload, 1) := by decide +kernel
theorem dL_law_176 : decode cL_law 176 = .ok (.invokevirtual 22, 3) := by decide +kernel
theorem dL_law_179 : decode cL_law 179 = .ok (.if_icmp .eq 528, 3) := by decide +kernel
theorem dL_law_182 : decode cL_law 182 = .ok (.iconst 0, 1) := by decide +kernel
theorem dL_law_183 : decode cL_law 183 = .ok (.ireturn, 1) := by decide +kernel
theorem dL_law_184 : decode cL_law 184 = .ok (.aload_n 1, 1) := by decide +kernel
theorem dL_law_185 : decode cL_law 185 = .ok (.aload_n 0, 1) := by decide +kernel
theorem dL_law_186 : decode cL_law 186 = .ok (.iload_n 3, 1) := by decide +kernel
theorem dL_law_187 : decode cL_law 187 = .ok (.iconst 1, 1) := by decide +kernel
theorem dL_law_188 : decode cL_law 188 = .ok (.iadd, 1) := by decide +kernel
theorem dL_law_189 : decode cL_law 189 = .ok (.iaload, 1) := by decide +kernel
theorem dL_law_190 : decode cL_law 190 = .ok (.aload_n 0, 1) := by decide +kernel
theorem dL_law_191 : decode cL_law 191 = .ok (.iload_n 3, 1) := by decide +kernel
theorem dL_law_192 : decode cL_law 192 = .ok (.iconst 2, 1) := by decide +kernel
theorem dL_law_193 : decode cL_law 193 = .ok (.iadd, 1) := by decide +kernel
theorem dL_law_194 : decode cL_law 194 = .ok (.iaload, 1) := by decide +kernel
theorem dL_law_195 : decode cL_law 195 = .ok (.aload_n 0, 1) := by decide +kernel
theorem dL_law_196 : decode cL_law 196 = .ok (.iload_n 3, 1) := by decide +kernel
theorem dL_law_197 : decode cL_law 197 = .ok (.iconst 3, 1) := by decide +kernel
theorem dL_law_198 : decode cL_law 198 = .ok (.iadd, 1) := by decide +kernel
theorem dL_law_199 : decode cL_law 199 = .ok (.iaload, 1) := by decide +kernel
theorem dL_law_200 : decode cL_law 200 = .ok (.invokevirtual 23, 3) := by decide +kernel
theorem dL_law_203 : decode cL_law 203 = .ok (.aload_n 2, 1) := by decide +kernel
theorem dL_law_204 : decode cL_law 204 = .ok (.aload_n 0, 1) := by decide +kernel
theorem dL_law_205 : decode cL_law 205 = .ok (.iload_n 3, 1) := by decide +kernel
theorem dL_law_206 : decode cL_law 206 = .ok (.iconst 1, 1) := by decide +kernel
theorem dL_law_207 : decode cL_law 207 = .ok (.iadd, 1) := by decide +kernel
theorem dL_law_208 : decode cL_law 208 = .ok (.iaload, 1) := by decide +kernel
theorem dL_law_209 : decode cL_law 209 = .ok (.aload_n 0, 1) := by decide +kernel
theorem dL_law_210 : decode cL_law 210 = .ok (.iload_n 3, 1) := by decide +kernel
theorem dL_law_211 : decode cL_law 211 = .ok (.iconst 2, 1) := by decide +kernel
theorem dL_law_212 : decode cL_law 212 = .ok (.iadd, 1) := by decide +kernel
theorem dL_law_213 : decode cL_law 213 = .ok (.iaload, 1) := by decide +kernel
theorem dL_law_214 : decode cL_law 214 = .ok (.aload_n 0, 1) := by decide +kernel
theorem dL_law_215 : decode cL_law 215 = .ok (.iload_n 3, 1) := by decide +kernel
theorem dL_law_216 : decode cL_law 216 = .ok (.iconst 3, 1) := by decide +kernel
theorem dL_law_217 : decode cL_law 217 = .ok (.iadd, 1) := by decide +kernel
theorem dL_law_218 : decode cL_law 218 = .ok (.iaload, 1) := by decide +kernel
theorem dL_law_219 : decode cL_law 219 = .ok (.invokevirtual 27, 3) := by decide +kernel
theorem dL_law_222 : decode cL_law 222 = .ok (.if_icmp .eq 485, 3) := by decide +kernel
theorem dL_law_225 : decode cL_law 225 = .ok (.iconst 0, 1) := by decide +kernel
theorem dL_law_226 : decode cL_law 226 = .ok (.ireturn, 1) := by decide +kernel
theorem dL_law_227 : decode cL_law 227 = .ok (.aload_n 1, 1) := by decide +kernel
theorem dL_law_228 : decode cL_law 228 = .ok (.aload_n 0, 1) := by decide +kernel
theorem dL_law_229 : decode cL_law 229 = .ok (.iload_n 3, 1) := by decide +kernel
theorem dL_law_230 : decode cL_law 230 = .ok (.iconst 1, 1) := by decide +kernel
theorem dL_law_231 : decode cL_law 231 = .ok (.iadd, 1) := by decide +kernel
theorem dL_law_232 : decode cL_law 232 = .ok (.iaload, 1) := by decide +kernel
theorem dL_law_233 : decode cL_law 233 = .ok (.invokevirtual 28, 3) := by decide +kernel
theorem dL_law_236 : decode cL_law 236 = .ok (.aload_n 2, 1) := by decide +kernel
theorem dL_law_237 : decode cL_law 237 = .ok (.aload_n 0, 1) := by decide +kernel
theorem dL_law_238 : decode cL_law 238 = .ok (.iload_n 3, 1) := by decide +kernel
theorem dL_law_239 : decode cL_law 239 = .ok (.iconst 1, 1) := by decide +kernel
theorem dL_law_240 : decode cL_law 240 = .ok (.iadd, 1) := by decide +kernel
theorem dL_law_241 : decode cL_law 241 = .ok (.iaload, 1) := by decide +kernel
theorem dL_law_242 : decode cL_law 242 = .ok (.invokevirtual 31, 3) := by decide +kernel
theorem dL_law_245 : decode cL_law 245 = .ok (.if_icmp .eq 462, 3) := by decide +kernel
theorem dL_law_248 : decode cL_law 248 = .ok (.iconst 0, 1) := by decide +kernel
theorem dL_law_249 : decode cL_law 249 = .ok (.ireturn, 1) := by decide +kernel
theorem dL_law_250 : decode cL_law 250 = .ok (.aload_n 1, 1) := by decide +kernel
theorem dL_law_251 : decode cL_law 251 = .ok (.aload_n 0, 1) := by decide +kernel
theorem dL_law_252 : decode cL_law 252 = .ok (.iload_n 3, 1) := by decide +kernel
theorem dL_law_253 : decode cL_law 253 = .ok (.iconst 1, 1) := by decide +kernel
theorem dL_law_254 : decode cL_law 254 = .ok (.iadd, 1) := by decide +kernel
theorem dL_law_255 : decode cL_law 255 = .ok (.iaload, 1) := by decide +kernel
theorem dL_law_256 : decode cL_law 256 = .ok (.ifCond .eq 7, 3) := by decide +kernel
theorem dL_law_259 : decode cL_law 259 = .ok (.iconst 1, 1) := by decide +kernel
theorem dL_law_260 : decode cL_law 260 = .ok (.goto 4, 3) := by decide +kernel
theorem dL_law_263 : decode cL_law 263 = .ok (.iconst 0, 1) := by decide +kernel
theorem dL_law_264 : decode cL_law 264 = .ok (.invokevirtual 32, 3) := by decide +kernel
theorem dL_law_267 : decode cL_law 267 = .ok (.aload_n 2, 1) := by decide +kernel
theorem dL_law_268 : decode cL_law 268 = .ok (.aload_n 0, 1) := by decide +kernel
theorem dL_law_269 : decode cL_law 269 = .ok (.iload_n 3, 1) := by decide +kernel
theorem dL_law_270 : decode cL_law 270 = .ok (.iconst 1, 1) := by decide +kernel
theorem dL_law_271 : decode cL_law 271 = .ok (.iadd, 1) := by decide +kernel
theorem dL_law_272 : decode cL_law 272 = .ok (.iaload, 1) := by decide +kernel
theorem dL_law_273 : decode cL_law 273 = .ok (.ifCond .eq 7, 3) := by decide +kernel
theorem dL_law_276 : decode cL_law 276 = .ok (.iconst 1, 1) := by decide +kernel
theorem dL_law_277 : decode cL_law 277 = .ok (.goto 4, 3) := by decide +kernel
theorem dL_law_280 : decode cL_law 280 = .ok (.iconst 0, 1) := by decide +kernel
theorem dL_law_281 : decode cL_law 281 = .ok (.invokevirtual 36, 3) := by decide +kernel
theorem dL_law_284 : decode cL_law 284 = .ok (.if_icmp .eq 423, 3) := by decide +kernel
theorem dL_law_287 : decode cL_law 287 = .ok (.iconst 0, 1) := by decide +kernel
theorem dL_law_288 : decode cL_law 288 = .ok (.ireturn, 1) := by decide +kernel
theorem dL_law_289 : decode cL_law 289 = .ok (.aload_n 1, 1) := by decide +kernel
theorem dL_law_290 : decode cL_law 290 = .ok (.aload_n 0, 1) := by decide +kernel
theorem dL_law_291 : decode cL_law 291 = .ok (.iload_n 3, 1) := by decide +kernel
theorem dL_law_292 : decode cL_law 292 = .ok (.iconst 1, 1) := by decide +kernel
theorem dL_law_293 : decode cL_law 293 = .ok (.iadd, 1) := by decide +kernel
theorem dL_law_294 : decode cL_law 294 = .ok (.iaload, 1) := by decide +kernel
theorem dL_law_295 : decode cL_law 295 = .ok (.invokevirtual 37, 3) := by decide +kernel
theorem dL_law_298 : decode cL_law 298 = .ok (.aload_n 2, 1) := by decide +kernel
theorem dL_law_299 : decode cL_law 299 = .ok (.aload_n 0, 1) := by decide +kernel
theorem dL_law_300 : decode cL_law 300 = .ok (.iload_n 3, 1) := by decide +kernel
theorem dL_law_301 : decode cL_law 301 = .ok (.iconst 1, 1) := by decide +kernel
theorem dL_law_302 : decode cL_law 302 = .ok (.iadd, 1) := by decide +kernel
theorem dL_law_303 : decode cL_law 303 = .ok (.iaload, 1) := by decide +kernel
theorem dL_law_304 : decode cL_law 304 = .ok (.invokevirtual 40, 3) := by decide +kernel
theorem dL_law_307 : decode cL_law 307 = .ok (.if_icmp .eq 400, 3) := by decide +kernel
theorem dL_law_310 : decode cL_law 310 = .ok (.iconst 0, 1) := by decide +kernel
theorem dL_law_311 : decode cL_law 311 = .ok (.ireturn, 1) := by decide +kernel
theorem dL_law_312 : decode cL_law 312 = .ok (.aload_n 1, 1) := by decide +kernel
theorem dL_law_313 : decode cL_law 313 = .ok (.invokevirtual 41, 3) := by decide +kernel
theorem dL_law_316 : decode cL_law 316 = .ok (.aload_n 2, 1) := by decide +kernel
theorem dL_law_317 : decode cL_law 317 = .ok (.invokevirtual 45, 3) := by decide +kernel
theorem dL_law_320 : decode cL_law 320 = .ok (.if_icmp .eq 387, 3) := by decide +kernel
theorem dL_law_323 : decode cL_law 323 = .ok (.iconst 0, 1) := by decide +kernel
theorem dL_law_324 : decode cL_law 324 = .ok (.ireturn, 1) := by decide +kernel
theorem dL_law_325 : decode cL_law 325 = .ok (.aload_n 1, 1) := by decide +kernel
theorem dL_law_326 : decode cL_law 326 = .ok (.aload_n 0, 1) := by decide +kernel
theorem dL_law_327 : decode cL_law 327 = .ok (.iload_n 3, 1) := by decide +kernel
theorem dL_law_328 : decode cL_law 328 = .ok (.iconst 1, 1) := by decide +kernel
theorem dL_law_329 : decode cL_law 329 = .ok (.iadd, 1) := by decide +kernel
theorem dL_law_330 : decode cL_law 330 = .ok (.iaload, 1) := by decide +kernel
theorem dL_law_331 : decode cL_law 331 = .ok (.aload_n 0, 1) := by decide +kernel
theorem dL_law_332 : decode cL_law 332 = .ok (.iload_n 3, 1) := by decide +kernel
theorem dL_law_333 : decode cL_law 333 = .ok (.iconst 2, 1) := by decide +kernel
theorem dL_law_334 : decode cL_law 334 = .ok (.iadd, 1) := by decide +kernel
theorem dL_law_335 : decode cL_law 335 = .ok (.iaload, 1) := by decide +kernel
theorem dL_law_336 : decode cL_law 336 = .ok (.invokevirtual 46, 3) := by decide +kernel
theorem dL_law_339 : decode cL_law 339 = .ok (.aload_n 2, 1) := by decide +kernel
theorem dL_law_340 : decode cL_law 340 = .ok (.aload_n 0, 1) := by decide +kernel
theorem dL_law_341 : decode cL_law 341 = .ok (.iload_n 3, 1) := by decide +kernel
theorem dL_law_342 : decode cL_law 342 = .ok (.iconst 1, 1) := by decide +kernel
theorem dL_law_343 : decode cL_law 343 = .ok (.iadd, 1) := by decide +kernel
theorem dL_law_344 : decode cL_law 344 = .ok (.iaload, 1) := by decide +kernel
theorem dL_law_345 : decode cL_law 345 = .ok (.aload_n 0, 1) := by decide +kernel
theorem dL_law_346 : decode cL_law 346 = .ok (.iload_n 3, 1) := by decide +kernel
theorem dL_law_347 : decode cL_law 347 = .ok (.iconst 2, 1) := by decide +kernel
theorem dL_law_348 : decode cL_law 348 = .ok (.iadd, 1) := by decide +kernel
theorem dL_law_349 : decode cL_law 349 = .ok (.iaload, 1) := by decide +kernel
theorem dL_law_350 : decode cL_law 350 = .ok (.invokevirtual 49, 3) := by decide +kernel
theorem dL_law_353 : decode cL_law 353 = .ok (.if_icmp .eq 354, 3) := by decide +kernel
theorem dL_law_356 : decode cL_law 356 = .ok (.iconst 0, 1) := by decide +kernel
theorem dL_law_357 : decode cL_law 357 = .ok (.ireturn, 1) := by decide +kernel
theorem dL_law_358 : decode cL_law 358 = .ok (.aload_n 1, 1) := by decide +kernel
theorem dL_law_359 : decode cL_law 359 = .ok (.aload_n 0, 1) := by decide +kernel
theorem dL_law_360 : decode cL_law 360 = .ok (.iload_n 3, 1) := by decide +kernel
theorem dL_law_361 : decode cL_law 361 = .ok (.iconst 1, 1) := by decide +kernel
theorem dL_law_362 : decode cL_law 362 = .ok (.iadd, 1) := by decide +kernel
theorem dL_law_363 : decode cL_law 363 = .ok (.iaload, 1) := by decide +kernel
theorem dL_law_364 : decode cL_law 364 = .ok (.aload_n 0, 1) := by decide +kernel
theorem dL_law_365 : decode cL_law 365 = .ok (.iload_n 3, 1) := by decide +kernel
theorem dL_law_366 : decode cL_law 366 = .ok (.iconst 2, 1) := by decide +kernel
theorem dL_law_367 : decode cL_law 367 = .ok (.iadd, 1) := by decide +kernel
theorem dL_law_368 : decode cL_law 368 = .ok (.iaload, 1) := by decide +kernel
theorem dL_law_369 : decode cL_law 369 = .ok (.aload_n 0, 1) := by decide +kernel
theorem dL_law_370 : decode cL_law 370 = .ok (.iload_n 3, 1) := by decide +kernel
theorem dL_law_371 : decode cL_law 371 = .ok (.iconst 3, 1) := by decide +kernel
theorem dL_law_372 : decode cL_law 372 = .ok (.iadd, 1) := by decide +kernel
theorem dL_law_373 : decode cL_law 373 = .ok (.iaload, 1) := by decide +kernel
theorem dL_law_374 : decode cL_law 374 = .ok (.invokevirtual 50, 3) := by decide +kernel
theorem dL_law_377 : decode cL_law 377 = .ok (.aload_n 2, 1) := by decide +kernel
theorem dL_law_378 : decode cL_law 378 = .ok (.aload_n 0, 1) := by decide +kernel
theorem dL_law_379 : decode cL_law 379 = .ok (.iload_n 3, 1) := by decide +kernel
theorem dL_law_380 : decode cL_law 380 = .ok (.iconst 1, 1) := by decide +kernel
theorem dL_law_381 : decode cL_law 381 = .ok (.iadd, 1) := by decide +kernel
theorem dL_law_382 : decode cL_law 382 = .ok (.iaload, 1) := by decide +kernel
theorem dL_law_383 : decode cL_law 383 = .ok (.aload_n 0, 1) := by decide +kernel
theorem dL_law_384 : decode cL_law 384 = .ok (.iload_n 3, 1) := by decide +kernel
theorem dL_law_385 : decode cL_law 385 = .ok (.iconst 2, 1) := by decide +kernel
theorem dL_law_386 : decode cL_law 386 = .ok (.iadd, 1) := by decide +kernel
theorem dL_law_387 : decode cL_law 387 = .ok (.iaload, 1) := by decide +kernel
theorem dL_law_388 : decode cL_law 388 = .ok (.aload_n 0, 1) := by decide +kernel
theorem dL_law_389 : decode cL_law 389 = .ok (.iload_n 3, 1) := by decide +kernel
theorem dL_law_390 : decode cL_law 390 = .ok (.iconst 3, 1) := by decide +kernel
theorem dL_law_391 : decode cL_law 391 = .ok (.iadd, 1) := by decide +kernel
theorem dL_law_392 : decode cL_law 392 = .ok (.iaload, 1) := by decide +kernel
theorem dL_law_393 : decode cL_law 393 = .ok (.invokevirtual 54, 3) := by decide +kernel
theorem dL_law_396 : decode cL_law 396 = .ok (.lcmp, 1) := by decide +kernel
theorem dL_law_397 : decode cL_law 397 = .ok (.ifCond .eq 310, 3) := by decide +kernel
theorem dL_law_400 : decode cL_law 400 = .ok (.iconst 0, 1) := by decide +kernel
theorem dL_law_401 : decode cL_law 401 = .ok (.ireturn, 1) := by decide +kernel
theorem dL_law_402 : decode cL_law 402 = .ok (.aload_n 1, 1) := by decide +kernel
theorem dL_law_403 : decode cL_law 403 = .ok (.aload_n 0, 1) := by decide +kernel
theorem dL_law_404 : decode cL_law 404 = .ok (.iload_n 3, 1) := by decide +kernel
theorem dL_law_405 : decode cL_law 405 = .ok (.iconst 1, 1) := by decide +kernel
theorem dL_law_406 : decode cL_law 406 = .ok (.iadd, 1) := by decide +kernel
theorem dL_law_407 : decode cL_law 407 = .ok (.iaload, 1) := by decide +kernel
theorem dL_law_408 : decode cL_law 408 = .ok (.invokevirtual 55, 3) := by decide +kernel
theorem dL_law_411 : decode cL_law 411 = .ok (.aload_n 2, 1) := by decide +kernel
theorem dL_law_412 : decode cL_law 412 = .ok (.aload_n 0, 1) := by decide +kernel
theorem dL_law_413 : decode cL_law 413 = .ok (.iload_n 3, 1) := by decide +kernel
theorem dL_law_414 : decode cL_law 414 = .ok (.iconst 1, 1) := by decide +kernel
theorem dL_law_415 : decode cL_law 415 = .ok (.iadd, 1) := by decide +kernel
theorem dL_law_416 : decode cL_law 416 = .ok (.iaload, 1) := by decide +kernel
theorem dL_law_417 : decode cL_law 417 = .ok (.invokevirtual 58, 3) := by decide +kernel
theorem dL_law_420 : decode cL_law 420 = .ok (.if_icmp .eq 287, 3) := by decide +kernel
theorem dL_law_423 : decode cL_law 423 = .ok (.iconst 0, 1) := by decide +kernel
theorem dL_law_424 : decode cL_law 424 = .ok (.ireturn, 1) := by decide +kernel
theorem dL_law_425 : decode cL_law 425 = .ok (.aload_n 1, 1) := by decide +kernel
theorem dL_law_426 : decode cL_law 426 = .ok (.aload_n 0, 1) := by decide +kernel
theorem dL_law_427 : decode cL_law 427 = .ok (.iload_n 3, 1) := by decide +kernel
theorem dL_law_428 : decode cL_law 428 = .ok (.iconst 1, 1) := by decide +kernel
theorem dL_law_429 : decode cL_law 429 = .ok (.iadd, 1) := by decide +kernel
theorem dL_law_430 : decode cL_law 430 = .ok (.iaload, 1) := by decide +kernel
theorem dL_law_431 : decode cL_law 431 = .ok (.invokevirtual 59, 3) := by decide +kernel
theorem dL_law_434 : decode cL_law 434 = .ok (.aload_n 2, 1) := by decide +kernel
theorem dL_law_435 : decode cL_law 435 = .ok (.aload_n 0, 1) := by decide +kernel
theorem dL_law_436 : decode cL_law 436 = .ok (.iload_n 3, 1) := by decide +kernel
theorem dL_law_437 : decode cL_law 437 = .ok (.iconst 1, 1) := by decide +kernel
theorem dL_law_438 : decode cL_law 438 = .ok (.iadd, 1) := by decide +kernel
theorem dL_law_439 : decode cL_law 439 = .ok (.iaload, 1) := by decide +kernel
theorem dL_law_440 : decode cL_law 440 = .ok (.invokevirtual 62, 3) := by decide +kernel
theorem dL_law_443 : decode cL_law 443 = .ok (.if_icmp .eq 264, 3) := by decide +kernel
theorem dL_law_446 : decode cL_law 446 = .ok (.iconst 0, 1) := by decide +kernel
theorem dL_law_447 : decode cL_law 447 = .ok (.ireturn, 1) := by decide +kernel
theorem dL_law_448 : decode cL_law 448 = .ok (.aload_n 1, 1) := by decide +kernel
theorem dL_law_449 : decode cL_law 449 = .ok (.aload_n 0, 1) := by decide +kernel
theorem dL_law_450 : decode cL_law 450 = .ok (.iload_n 3, 1) := by decide +kernel
theorem dL_law_451 : decode cL_law 451 = .ok (.iconst 1, 1) := by decide +kernel
theorem dL_law_452 : decode cL_law 452 = .ok (.iadd, 1) := by decide +kernel
theorem dL_law_453 : decode cL_law 453 = .ok (.iaload, 1) := by decide +kernel
theorem dL_law_454 : decode cL_law 454 = .ok (.invokevirtual 63, 3) := by decide +kernel
theorem dL_law_457 : decode cL_law 457 = .ok (.aload_n 2, 1) := by decide +kernel
theorem dL_law_458 : decode cL_law 458 = .ok (.aload_n 0, 1) := by decide +kernel
theorem dL_law_459 : decode cL_law 459 = .ok (.iload_n 3, 1) := by decide +kernel
theorem dL_law_460 : decode cL_law 460 = .ok (.iconst 1, 1) := by decide +kernel
theorem dL_law_461 : decode cL_law 461 = .ok (.iadd, 1) := by decide +kernel
theorem dL_law_462 : decode cL_law 462 = .ok (.iaload, 1) := by decide +kernel
theorem dL_law_463 : decode cL_law 463 = .ok (.invokevirtual 66, 3) := by decide +kernel
theorem dL_law_466 : decode cL_law 466 = .ok (.if_icmp .eq 241, 3) := by decide +kernel
theorem dL_law_469 : decode cL_law 469 = .ok (.iconst 0, 1) := by decide +kernel
theorem dL_law_470 : decode cL_law 470 = .ok (.ireturn, 1) := by decide +kernel
theorem dL_law_471 : decode cL_law 471 = .ok (.aload_n 1, 1) := by decide +kernel
theorem dL_law_472 : decode cL_law 472 = .ok (.aload_n 0, 1) := by decide +kernel
theorem dL_law_473 : decode cL_law 473 = .ok (.iload_n 3, 1) := by decide +kernel
theorem dL_law_474 : decode cL_law 474 = .ok (.iconst 1, 1) := by decide +kernel
theorem dL_law_475 : decode cL_law 475 = .ok (.iadd, 1) := by decide +kernel
theorem dL_law_476 : decode cL_law 476 = .ok (.iaload, 1) := by decide +kernel
theorem dL_law_477 : decode cL_law 477 = .ok (.aload_n 0, 1) := by decide +kernel
theorem dL_law_478 : decode cL_law 478 = .ok (.iload_n 3, 1) := by decide +kernel
theorem dL_law_479 : decode cL_law 479 = .ok (.iconst 2, 1) := by decide +kernel
theorem dL_law_480 : decode cL_law 480 = .ok (.iadd, 1) := by decide +kernel
theorem dL_law_481 : decode cL_law 481 = .ok (.iaload, 1) := by decide +kernel
theorem dL_law_482 : decode cL_law 482 = .ok (.invokevirtual 67, 3) := by decide +kernel
theorem dL_law_485 : decode cL_law 485 = .ok (.aload_n 2, 1) := by decide +kernel
theorem dL_law_486 : decode cL_law 486 = .ok (.aload_n 0, 1) := by decide +kernel
theorem dL_law_487 : decode cL_law 487 = .ok (.iload_n 3, 1) := by decide +kernel
theorem dL_law_488 : decode cL_law 488 = .ok (.iconst 1, 1) := by decide +kernel
theorem dL_law_489 : decode cL_law 489 = .ok (.iadd, 1) := by decide +kernel
theorem dL_law_490 : decode cL_law 490 = .ok (.iaload, 1) := by decide +kernel
theorem dL_law_491 : decode cL_law 491 = .ok (.aload_n 0, 1) := by decide +kernel
theorem dL_law_492 : decode cL_law 492 = .ok (.iload_n 3, 1) := by decide +kernel
theorem dL_law_493 : decode cL_law 493 = .ok (.iconst 2, 1) := by decide +kernel
theorem dL_law_494 : decode cL_law 494 = .ok (.iadd, 1) := by decide +kernel
theorem dL_law_495 : decode cL_law 495 = .ok (.iaload, 1) := by decide +kernel
theorem dL_law_496 : decode cL_law 496 = .ok (.invokevirtual 70, 3) := by decide +kernel
theorem dL_law_499 : decode cL_law 499 = .ok (.if_icmp .eq 208, 3) := by decide +kernel
theorem dL_law_502 : decode cL_law 502 = .ok (.iconst 0, 1) := by decide +kernel
theorem dL_law_503 : decode cL_law 503 = .ok (.ireturn, 1) := by decide +kernel
theorem dL_law_504 : decode cL_law 504 = .ok (.aload_n 1, 1) := by decide +kernel
theorem dL_law_505 : decode cL_law 505 = .ok (.aload_n 0, 1) := by decide +kernel
theorem dL_law_506 : decode cL_law 506 = .ok (.iload_n 3, 1) := by decide +kernel
theorem dL_law_507 : decode cL_law 507 = .ok (.iconst 1, 1) := by decide +kernel
theorem dL_law_508 : decode cL_law 508 = .ok (.iadd, 1) := by decide +kernel
theorem dL_law_509 : decode cL_law 509 = .ok (.iaload, 1) := by decide +kernel
theorem dL_law_510 : decode cL_law 510 = .ok (.invokevirtual 71, 3) := by decide +kernel
theorem dL_law_513 : decode cL_law 513 = .ok (.aload_n 2, 1) := by decide +kernel
theorem dL_law_514 : decode cL_law 514 = .ok (.aload_n 0, 1) := by decide +kernel
theorem dL_law_515 : decode cL_law 515 = .ok (.iload_n 3, 1) := by decide +kernel
theorem dL_law_516 : decode cL_law 516 = .ok (.iconst 1, 1) := by decide +kernel
theorem dL_law_517 : decode cL_law 517 = .ok (.iadd, 1) := by decide +kernel
theorem dL_law_518 : decode cL_law 518 = .ok (.iaload, 1) := by decide +kernel
theorem dL_law_519 : decode cL_law 519 = .ok (.invokevirtual 74, 3) := by decide +kernel
theorem dL_law_522 : decode cL_law 522 = .ok (.if_icmp .eq 185, 3) := by decide +kernel
theorem dL_law_525 : decode cL_law 525 = .ok (.iconst 0, 1) := by decide +kernel
theorem dL_law_526 : decode cL_law 526 = .ok (.ireturn, 1) := by decide +kernel
theorem dL_law_527 : decode cL_law 527 = .ok (.aload_n 1, 1) := by decide +kernel
theorem dL_law_528 : decode cL_law 528 = .ok (.invokevirtual 75, 3) := by decide +kernel
theorem dL_law_531 : decode cL_law 531 = .ok (.aload_n 2, 1) := by decide +kernel
theorem dL_law_532 : decode cL_law 532 = .ok (.invokevirtual 78, 3) := by decide +kernel
theorem dL_law_535 : decode cL_law 535 = .ok (.if_icmp .eq 172, 3) := by decide +kernel
theorem dL_law_538 : decode cL_law 538 = .ok (.iconst 0, 1) := by decide +kernel
theorem dL_law_539 : decode cL_law 539 = .ok (.ireturn, 1) := by decide +kernel
theorem dL_law_540 : decode cL_law 540 = .ok (.aload_n 1, 1) := by decide +kernel
theorem dL_law_541 : decode cL_law 541 = .ok (.aload_n 0, 1) := by decide +kernel
theorem dL_law_542 : decode cL_law 542 = .ok (.iload_n 3, 1) := by decide +kernel
theorem dL_law_543 : decode cL_law 543 = .ok (.iconst 1, 1) := by decide +kernel
theorem dL_law_544 : decode cL_law 544 = .ok (.iadd, 1) := by decide +kernel
theorem dL_law_545 : decode cL_law 545 = .ok (.iaload, 1) := by decide +kernel
theorem dL_law_546 : decode cL_law 546 = .ok (.aload_n 0, 1) := by decide +kernel
theorem dL_law_547 : decode cL_law 547 = .ok (.iload_n 3, 1) := by decide +kernel
theorem dL_law_548 : decode cL_law 548 = .ok (.iconst 2, 1) := by decide +kernel
theorem dL_law_549 : decode cL_law 549 = .ok (.iadd, 1) := by decide +kernel
theorem dL_law_550 : decode cL_law 550 = .ok (.iaload, 1) := by decide +kernel
theorem dL_law_551 : decode cL_law 551 = .ok (.invokevirtual 79, 3) := by decide +kernel
theorem dL_law_554 : decode cL_law 554 = .ok (.aload_n 2, 1) := by decide +kernel
theorem dL_law_555 : decode cL_law 555 = .ok (.aload_n 0, 1) := by decide +kernel
theorem dL_law_556 : decode cL_law 556 = .ok (.iload_n 3, 1) := by decide +kernel
theorem dL_law_557 : decode cL_law 557 = .ok (.iconst 1, 1) := by decide +kernel
theorem dL_law_558 : decode cL_law 558 = .ok (.iadd, 1) := by decide +kernel
theorem dL_law_559 : decode cL_law 559 = .ok (.iaload, 1) := by decide +kernel
theorem dL_law_560 : decode cL_law 560 = .ok (.aload_n 0, 1) := by decide +kernel
theorem dL_law_561 : decode cL_law 561 = .ok (.iload_n 3, 1) := by decide +kernel
theorem dL_law_562 : decode cL_law 562 = .ok (.iconst 2, 1) := by decide +kernel
theorem dL_law_563 : decode cL_law 563 = .ok (.iadd, 1) := by decide +kernel
theorem dL_law_564 : decode cL_law 564 = .ok (.iaload, 1) := by decide +kernel
theorem dL_law_565 : decode cL_law 565 = .ok (.invokevirtual 82, 3) := by decide +kernel
theorem dL_law_568 : decode cL_law 568 = .ok (.if_icmp .eq 139, 3) := by decide +kernel
theorem dL_law_571 : decode cL_law 571 = .ok (.iconst 0, 1) := by decide +kernel
theorem dL_law_572 : decode cL_law 572 = .ok (.ireturn, 1) := by decide +kernel
theorem dL_law_573 : decode cL_law 573 = .ok (.aload_n 1, 1) := by decide +kernel
theorem dL_law_574 : decode cL_law 574 = .ok (.aload_n 0, 1) := by decide +kernel
theorem dL_law_575 : decode cL_law 575 = .ok (.iload_n 3, 1) := by decide +kernel
theorem dL_law_576 : decode cL_law 576 = .ok (.iconst 1, 1) := by decide +kernel
theorem dL_law_577 : decode cL_law 577 = .ok (.iadd, 1) := by decide +kernel
theorem dL_law_578 : decode cL_law 578 = .ok (.iaload, 1) := by decide +kernel
theorem dL_law_579 : decode cL_law 579 = .ok (.aload_n 0, 1) := by decide +kernel
theorem dL_law_580 : decode cL_law 580 = .ok (.iload_n 3, 1) := by decide +kernel
theorem dL_law_581 : decode cL_law 581 = .ok (.iconst 2, 1) := by decide +kernel
theorem dL_law_582 : decode cL_law 582 = .ok (.iadd, 1) := by decide +kernel
theorem dL_law_583 : decode cL_law 583 = .ok (.iaload, 1) := by decide +kernel
theorem dL_law_584 : decode cL_law 584 = .ok (.invokevirtual 83, 3) := by decide +kernel
theorem dL_law_587 : decode cL_law 587 = .ok (.aload_n 2, 1) := by decide +kernel
theorem dL_law_588 : decode cL_law 588 = .ok (.aload_n 0, 1) := by decide +kernel
theorem dL_law_589 : decode cL_law 589 = .ok (.iload_n 3, 1) := by decide +kernel
theorem dL_law_590 : decode cL_law 590 = .ok (.iconst 1, 1) := by decide +kernel
theorem dL_law_591 : decode cL_law 591 = .ok (.iadd, 1) := by decide +kernel
theorem dL_law_592 : decode cL_law 592 = .ok (.iaload, 1) := by decide +kernel
theorem dL_law_593 : decode cL_law 593 = .ok (.aload_n 0, 1) := by decide +kernel
theorem dL_law_594 : decode cL_law 594 = .ok (.iload_n 3, 1) := by decide +kernel
theorem dL_law_595 : decode cL_law 595 = .ok (.iconst 2, 1) := by decide +kernel
theorem dL_law_596 : decode cL_law 596 = .ok (.iadd, 1) := by decide +kernel
theorem dL_law_597 : decode cL_law 597 = .ok (.iaload, 1) := by decide +kernel
theorem dL_law_598 : decode cL_law 598 = .ok (.invokevirtual 87, 3) := by decide +kernel
theorem dL_law_601 : decode cL_law 601 = .ok (.lcmp, 1) := by decide +kernel
theorem dL_law_602 : decode cL_law 602 = .ok (.ifCond .eq 105, 3) := by decide +kernel
theorem dL_law_605 : decode cL_law 605 = .ok (.iconst 0, 1) := by decide +kernel
theorem dL_law_606 : decode cL_law 606 = .ok (.ireturn, 1) := by decide +kernel
theorem dL_law_607 : decode cL_law 607 = .ok (.aload_n 1, 1) := by decide +kernel
theorem dL_law_608 : decode cL_law 608 = .ok (.aload_n 0, 1) := by decide +kernel
theorem dL_law_609 : decode cL_law 609 = .ok (.iload_n 3, 1) := by decide +kernel
theorem dL_law_610 : decode cL_law 610 = .ok (.iconst 1, 1) := by decide +kernel
theorem dL_law_611 : decode cL_law 611 = .ok (.iadd, 1) := by decide +kernel
theorem dL_law_612 : decode cL_law 612 = .ok (.iaload, 1) := by decide +kernel
theorem dL_law_613 : decode cL_law 613 = .ok (.aload_n 0, 1) := by decide +kernel
theorem dL_law_614 : decode cL_law 614 = .ok (.iload_n 3, 1) := by decide +kernel
theorem dL_law_615 : decode cL_law 615 = .ok (.iconst 2, 1) := by decide +kernel
theorem dL_law_616 : decode cL_law 616 = .ok (.iadd, 1) := by decide +kernel
theorem dL_law_617 : decode cL_law 617 = .ok (.iaload, 1) := by decide +kernel
theorem dL_law_618 : decode cL_law 618 = .ok (.aload_n 0, 1) := by decide +kernel
theorem dL_law_619 : decode cL_law 619 = .ok (.iload_n 3, 1) := by decide +kernel
theorem dL_law_620 : decode cL_law 620 = .ok (.iconst 3, 1) := by decide +kernel
theorem dL_law_621 : decode cL_law 621 = .ok (.iadd, 1) := by decide +kernel
theorem dL_law_622 : decode cL_law 622 = .ok (.iaload, 1) := by decide +kernel
theorem dL_law_623 : decode cL_law 623 = .ok (.invokevirtual 88, 3) := by decide +kernel
theorem dL_law_626 : decode cL_law 626 = .ok (.aload_n 2, 1) := by decide +kernel
theorem dL_law_627 : decode cL_law 627 = .ok (.aload_n 0, 1) := by decide +kernel
theorem dL_law_628 : decode cL_law 628 = .ok (.iload_n 3, 1) := by decide +kernel
theorem dL_law_629 : decode cL_law 629 = .ok (.iconst 1, 1) := by decide +kernel
theorem dL_law_630 : decode cL_law 630 = .ok (.iadd, 1) := by decide +kernel
theorem dL_law_631 : decode cL_law 631 = .ok (.iaload, 1) := by decide +kernel
theorem dL_law_632 : decode cL_law 632 = .ok (.aload_n 0, 1) := by decide +kernel
theorem dL_law_633 : decode cL_law 633 = .ok (.iload_n 3, 1) := by decide +kernel
theorem dL_law_634 : decode cL_law 634 = .ok (.iconst 2, 1) := by decide +kernel
theorem dL_law_635 : decode cL_law 635 = .ok (.iadd, 1) := by decide +kernel
theorem dL_law_636 : decode cL_law 636 = .ok (.iaload, 1) := by decide +kernel
theorem dL_law_637 : decode cL_law 637 = .ok (.aload_n 0, 1) := by decide +kernel
theorem dL_law_638 : decode cL_law 638 = .ok (.iload_n 3, 1) := by decide +kernel
theorem dL_law_639 : decode cL_law 639 = .ok (.iconst 3, 1) := by decide +kernel
theorem dL_law_640 : decode cL_law 640 = .ok (.iadd, 1) := by decide +kernel
theorem dL_law_641 : decode cL_law 641 = .ok (.iaload, 1) := by decide +kernel
theorem dL_law_642 : decode cL_law 642 = .ok (.invokevirtual 91, 3) := by decide +kernel
theorem dL_law_645 : decode cL_law 645 = .ok (.lcmp, 1) := by decide +kernel
theorem dL_law_646 : decode cL_law 646 = .ok (.ifCond .eq 61, 3) := by decide +kernel
theorem dL_law_649 : decode cL_law 649 = .ok (.iconst 0, 1) := by decide +kernel
theorem dL_law_650 : decode cL_law 650 = .ok (.ireturn, 1) := by decide +kernel
theorem dL_law_651 : decode cL_law 651 = .ok (.aload_n 1, 1) := by decide +kernel
theorem dL_law_652 : decode cL_law 652 = .ok (.aload_n 0, 1) := by decide +kernel
theorem dL_law_653 : decode cL_law 653 = .ok (.iload_n 3, 1) := by decide +kernel
theorem dL_law_654 : decode cL_law 654 = .ok (.iconst 1, 1) := by decide +kernel
theorem dL_law_655 : decode cL_law 655 = .ok (.iadd, 1) := by decide +kernel
theorem dL_law_656 : decode cL_law 656 = .ok (.iaload, 1) := by decide +kernel
theorem dL_law_657 : decode cL_law 657 = .ok (.aload_n 0, 1) := by decide +kernel
theorem dL_law_658 : decode cL_law 658 = .ok (.iload_n 3, 1) := by decide +kernel
theorem dL_law_659 : decode cL_law 659 = .ok (.iconst 2, 1) := by decide +kernel
theorem dL_law_660 : decode cL_law 660 = .ok (.iadd, 1) := by decide +kernel
theorem dL_law_661 : decode cL_law 661 = .ok (.iaload, 1) := by decide +kernel
theorem dL_law_662 : decode cL_law 662 = .ok (.invokevirtual 92, 3) := by decide +kernel
theorem dL_law_665 : decode cL_law 665 = .ok (.aload_n 2, 1) := by decide +kernel
theorem dL_law_666 : decode cL_law 666 = .ok (.aload_n 0, 1) := by decide +kernel
theorem dL_law_667 : decode cL_law 667 = .ok (.iload_n 3, 1) := by decide +kernel
theorem dL_law_668 : decode cL_law 668 = .ok (.iconst 1, 1) := by decide +kernel
theorem dL_law_669 : decode cL_law 669 = .ok (.iadd, 1) := by decide +kernel
theorem dL_law_670 : decode cL_law 670 = .ok (.iaload, 1) := by decide +kernel
theorem dL_law_671 : decode cL_law 671 = .ok (.aload_n 0, 1) := by decide +kernel
theorem dL_law_672 : decode cL_law 672 = .ok (.iload_n 3, 1) := by decide +kernel
theorem dL_law_673 : decode cL_law 673 = .ok (.iconst 2, 1) := by decide +kernel
theorem dL_law_674 : decode cL_law 674 = .ok (.iadd, 1) := by decide +kernel
theorem dL_law_675 : decode cL_law 675 = .ok (.iaload, 1) := by decide +kernel
theorem dL_law_676 : decode cL_law 676 = .ok (.invokevirtual 95, 3) := by decide +kernel
theorem dL_law_679 : decode cL_law 679 = .ok (.if_icmp .eq 28, 3) := by decide +kernel
theorem dL_law_682 : decode cL_law 682 = .ok (.iconst 0, 1) := by decide +kernel
theorem dL_law_683 : decode cL_law 683 = .ok (.ireturn, 1) := by decide +kernel
theorem dL_law_684 : decode cL_law 684 = .ok (.aload_n 1, 1) := by decide +kernel
theorem dL_law_685 : decode cL_law 685 = .ok (.aload_n 0, 1) := by decide +kernel
theorem dL_law_686 : decode cL_law 686 = .ok (.iload_n 3, 1) := by decide +kernel
theorem dL_law_687 : decode cL_law 687 = .ok (.iconst 1, 1) := by decide +kernel
theorem dL_law_688 : decode cL_law 688 = .ok (.iadd, 1) := by decide +kernel
theorem dL_law_689 : decode cL_law 689 = .ok (.iaload, 1) := by decide +kernel
theorem dL_law_690 : decode cL_law 690 = .ok (.invokevirtual 96, 3) := by decide +kernel
theorem dL_law_693 : decode cL_law 693 = .ok (.aload_n 2, 1) := by decide +kernel
theorem dL_law_694 : decode cL_law 694 = .ok (.aload_n 0, 1) := by decide +kernel
theorem dL_law_695 : decode cL_law 695 = .ok (.iload_n 3, 1) := by decide +kernel
theorem dL_law_696 : decode cL_law 696 = .ok (.iconst 1, 1) := by decide +kernel
theorem dL_law_697 : decode cL_law 697 = .ok (.iadd, 1) := by decide +kernel
theorem dL_law_698 : decode cL_law 698 = .ok (.iaload, 1) := by decide +kernel
theorem dL_law_699 : decode cL_law 699 = .ok (.invokevirtual 99, 3) := by decide +kernel
theorem dL_law_702 : decode cL_law 702 = .ok (.if_icmp .eq 5, 3) := by decide +kernel
theorem dL_law_705 : decode cL_law 705 = .ok (.iconst 0, 1) := by decide +kernel
theorem dL_law_706 : decode cL_law 706 = .ok (.ireturn, 1) := by decide +kernel
theorem dL_law_707 : decode cL_law 707 = .ok (.iinc 3 4, 3) := by decide +kernel
theorem dL_law_710 : decode cL_law 710 = .ok (.goto (-692), 3) := by decide +kernel
theorem dL_law_713 : decode cL_law 713 = .ok (.iconst 1, 1) := by decide +kernel
theorem dL_law_714 : decode cL_law 714 = .ok (.ireturn, 1) := by decide +kernel
