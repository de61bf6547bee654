theorem dX9_lay_97 : decode cX9_lay 97 = .ok (.getfield 69, 3) := by decide +kernel
theorem dX9_lay_100 : decode cX9_lay 100 = .ok (.bipush 40, 2) := by decide +kernel
theorem dX9_lay_102 : decode cX9_lay 102 = .ok (.iload_n 2, 1) := by decide +kernel
theorem dX9_lay_103 : decode cX9_lay 103 = .ok (.imul, 1) := by decide +kernel
theorem dX9_lay_104 : decode cX9_lay 104 = .ok (.iload_n 3, 1) := by decide +kernel
theorem dX9_lay_105 : decode cX9_lay 105 = .ok (.iadd, 1) := by decide +kernel
theorem dX9_lay_106 : decode cX9_lay 106 = .ok (.aload_n 0, 1) := by decide +kernel
theorem dX9_lay_107 : decode cX9_lay 107 = .ok (.getfield 69, 3) := by decide +kernel
theorem dX9_lay_110 : decode cX9_lay 110 = .ok (.bipush 40, 2) := by decide +kernel
theorem dX9_lay_112 : decode cX9_lay 112 = .ok (.iload_n 1, 1) := by decide +kernel
theorem dX9_lay_113 : decode cX9_lay 113 = .ok (.imul, 1) := by decide +kernel
theorem dX9_lay_114 : decode cX9_lay 114 = .ok (.iload_n 3, 1) := by decide +kernel
theorem dX9_lay_115 : decode cX9_lay 115 = .ok (.iadd, 1) := by decide +kernel
theorem dX9_lay_116 : decode cX9_lay 116 = .ok (.iaload, 1) := by decide +kernel
theorem dX9_lay_117 : decode cX9_lay 117 = .ok (.iastore, 1) := by decide +kernel
theorem dX9_lay_118 : decode cX9_lay 118 = .ok (.aload_n 0, 1) := by decide +kernel
theorem dX9_lay_119 : decode cX9_lay 119 = .ok (.getfield 72, 3) := by decide +kernel
theorem dX9_lay_122 : decode cX9_lay 122 = .ok (.bipush 40, 2) := by decide +kernel
theorem dX9_lay_124 : decode cX9_lay 124 = .ok (.iload_n 2, 1) := by decide +kernel
theorem dX9_lay_125 : decode cX9_lay 125 = .ok (.imul, 1) := by decide +kernel
theorem dX9_lay_126 : decode cX9_lay 126 = .ok (.iload_n 3, 1) := by decide +kernel
theorem dX9_lay_127 : decode cX9_lay 127 = .ok (.iadd, 1) := by decide +kernel
theorem dX9_lay_128 : decode cX9_lay 128 = .ok (.aload_n 0, 1) := by decide +kernel
theorem dX9_lay_129 : decode cX9_lay 129 = .ok (.getfield 72, 3) := by decide +kernel
theorem dX9_lay_132 : decode cX9_lay 132 = .ok (.bipush 40, 2) := by decide +kernel
theorem dX9_lay_134 : decode cX9_lay 134 = .ok (.iload_n 1, 1) := by decide +kernel
theorem dX9_lay_135 : decode cX9_lay 135 = .ok (.imul, 1) := by decide +kernel
theorem dX9_lay_136 : decode cX9_lay 136 = .ok (.iload_n 3, 1) := by decide +kernel
theorem dX9_lay_137 : decode cX9_lay 137 = .ok (.iadd, 1) := by decide +kernel
theorem dX9_lay_138 : decode cX9_lay 138 = .ok (.iaload, 1) := by decide +kernel
theorem dX9_lay_139 : decode cX9_lay 139 = .ok (.iastore, 1) := by decide +kernel
theorem dX9_lay_140 : decode cX9_lay 140 = .ok (.aload_n 0, 1) := by decide +kernel
theorem dX9_lay_141 : decode cX9_lay 141 = .ok (.getfield 75, 3) := by decide +kernel
theorem dX9_lay_144 : decode cX9_lay 144 = .ok (.bipush 40, 2) := by decide +kernel
theorem dX9_lay_146 : decode cX9_lay 146 = .ok (.iload_n 2, 1) := by decide +kernel
theorem dX9_lay_147 : decode cX9_lay 147 = .ok (.imul, 1) := by decide +kernel
theorem dX9_lay_148 : decode cX9_lay 148 = .ok (.iload_n 3, 1) := by decide +kernel
theorem dX9_lay_149 : decode cX9_lay 149 = .ok (.iadd, 1) := by decide +kernel
theorem dX9_lay_150 : decode cX9_lay 150 = .ok (.aload_n 0, 1) := by decide +kernel
theorem dX9_lay_151 : decode cX9_lay 151 = .ok (.getfield 75, 3) := by decide +kernel
theorem dX9_lay_154 : decode cX9_lay 154 = .ok (.bipush 40, 2) := by decide +kernel
theorem dX9_lay_156 : decode cX9_lay 156 = .ok (.iload_n 1, 1) := by decide +kernel
theorem dX9_lay_157 : decode cX9_lay 157 = .ok (.imul, 1) := by decide +kernel
theorem dX9_lay_158 : decode cX9_lay 158 = .ok (.iload_n 3, 1) := by decide +kernel
theorem dX9_lay_159 : decode cX9_lay 159 = .ok (.iadd, 1) := by decide +kernel
theorem dX9_lay_160 : decode cX9_lay 160 = .ok (.iaload, 1) := by decide +kernel
theorem dX9_lay_161 : decode cX9_lay 161 = .ok (.iastore, 1) := by decide +kernel
theorem dX9_lay_162 : decode cX9_lay 162 = .ok (.iinc 3 1, 3) := by decide +kernel
theorem dX9_lay_165 : decode cX9_lay 165 = .ok (.goto (-79), 3) := by decide +kernel
theorem dX9_lay_168 : decode cX9_lay 168 = .ok (.return_, 1) := by decide +kernel
theorem dX9_keeps_0 : decode cX9_keeps 0 = .ok (.bipush 60, 2) := by decide +kernel
theorem dX9_keeps_2 : decode cX9_keeps 2 = .ok (.bipush 10, 2) := by decide +kernel
theorem dX9_keeps_4 : decode cX9_keeps 4 = .ok (.iload_n 1, 1) := by decide +kernel
theorem dX9_keeps_5 : decode cX9_keeps 5 = .ok (.imul, 1) := by decide +kernel
theorem dX9_keeps_6 : decode cX9_keeps 6 = .ok (.iadd, 1) := by decide +kernel
theorem dX9_keeps_7 : decode cX9_keeps 7 = .ok (.iconst 5, 1) := by decide +kernel
theorem dX9_keeps_8 : decode cX9_keeps 8 = .ok (.iload_n 2, 1) := by decide +kernel
theorem dX9_keeps_9 : decode cX9_keeps 9 = .ok (.imul, 1) := by decide +kernel
theorem dX9_keeps_10 : decode cX9_keeps 10 = .ok (.iadd, 1) := by decide +kernel
theorem dX9_keeps_11 : decode cX9_keeps 11 = .ok (.iload_n 3, 1) := by decide +kernel
theorem dX9_keeps_12 : decode cX9_keeps 12 = .ok (.iadd, 1) := by decide +kernel
theorem dX9_keeps_13 : decode cX9_keeps 13 = .ok (.ireturn, 1) := by decide +kernel
theorem dX9_has_0 : decode cX9_has 0 = .ok (.bipush 110, 2) := by decide +kernel
theorem dX9_has_2 : decode cX9_has 2 = .ok (.bipush 10, 2) := by decide +kernel
theorem dX9_has_4 : decode cX9_has 4 = .ok (.iload_n 1, 1) := by decide +kernel
theorem dX9_has_5 : decode cX9_has 5 = .ok (.imul, 1) := by decide +kernel
theorem dX9_has_6 : decode cX9_has 6 = .ok (.iadd, 1) := by decide +kernel
theorem dX9_has_7 : decode cX9_has 7 = .ok (.iconst 5, 1) := by decide +kernel
theorem dX9_has_8 : decode cX9_has 8 = .ok (.iload_n 2, 1) := by decide +kernel
theorem dX9_has_9 : decode cX9_has 9 = .ok (.imul, 1) := by decide +kernel
theorem dX9_has_10 : decode cX9_has 10 = .ok (.iadd, 1) := by decide +kernel
theorem dX9_has_11 : decode cX9_has 11 = .ok (.iload_n 3, 1) := by decide +kernel
theorem dX9_has_12 : decode cX9_has 12 = .ok (.iadd, 1) := by decide +kernel
theorem dX9_has_13 : decode cX9_has 13 = .ok (.ireturn, 1) := by decide +kernel
theorem dX9_activeAt_0 : decode cX9_activeAt 0 = .ok (.iconst 0, 1) := by decide +kernel
theorem dX9_activeAt_1 : decode cX9_activeAt 1 = .ok (.istore_n 2, 1) := by decide +kernel
theorem dX9_activeAt_2 : decode cX9_activeAt 2 = .ok (.iconst 0, 1) := by decide +kernel
theorem dX9_activeAt_3 : decode cX9_activeAt 3 = .ok (.istore_n 3, 1) := by decide +kernel
theorem dX9_activeAt_4 : decode cX9_activeAt 4 = .ok (.iload_n 3, 1) := by decide +kernel
theorem dX9_activeAt_5 : decode cX9_activeAt 5 = .ok (.aload_n 0, 1) := by decide +kernel
theorem dX9_activeAt_6 : decode cX9_activeAt 6 = .ok (.getfield 115, 3) := by decide +kernel
theorem dX9_activeAt_9 : decode cX9_activeAt 9 = .ok (.if_icmp .ge 36, 3) := by decide +kernel
theorem dX9_activeAt_12 : decode cX9_activeAt 12 = .ok (.iload_n 2, 1) := by decide +kernel
theorem dX9_activeAt_13 : decode cX9_activeAt 13 = .ok (.aload_n 0, 1) := by decide +kernel
theorem dX9_activeAt_14 : decode cX9_activeAt 14 = .ok (.getfield 27, 3) := by decide +kernel
theorem dX9_activeAt_17 : decode cX9_activeAt 17 = .ok (.iload_n 3, 1) := by decide +kernel
theorem dX9_activeAt_18 : decode cX9_activeAt 18 = .ok (.iaload, 1) := by decide +kernel
theorem dX9_activeAt_19 : decode cX9_activeAt 19 = .ok (.iload_n 1, 1) := by decide +kernel
theorem dX9_activeAt_20 : decode cX9_activeAt 20 = .ok (.if_icmp .ne 16, 3) := by decide +kernel
theorem dX9_activeAt_23 : decode cX9_activeAt 23 = .ok (.aload_n 0, 1) := by decide +kernel
theorem dX9_activeAt_24 : decode cX9_activeAt 24 = .ok (.getfield 23, 3) := by decide +kernel
theorem dX9_activeAt_27 : decode cX9_activeAt 27 = .ok (.iload_n 3, 1) := by decide +kernel
theorem dX9_activeAt_28 : decode cX9_activeAt 28 = .ok (.baload, 1) := by decide +kernel
theorem dX9_activeAt_29 : decode cX9_activeAt 29 = .ok (.ifCond .eq 7, 3) := by decide +kernel
theorem dX9_activeAt_32 : decode cX9_activeAt 32 = .ok (.iconst 1, 1) := by decide +kernel
theorem dX9_activeAt_33 : decode cX9_activeAt 33 = .ok (.goto 4, 3) := by decide +kernel
theorem dX9_activeAt_36 : decode cX9_activeAt 36 = .ok (.iconst 0, 1) := by decide +kernel
theorem dX9_activeAt_37 : decode cX9_activeAt 37 = .ok (.iadd, 1) := by decide +kernel
theorem dX9_activeAt_38 : decode cX9_activeAt 38 = .ok (.istore_n 2, 1) := by decide +kernel
theorem dX9_activeAt_39 : decode cX9_activeAt 39 = .ok (.iinc 3 1, 3) := by decide +kernel
theorem dX9_activeAt_42 : decode cX9_activeAt 42 = .ok (.goto (-38), 3) := by decide +kernel
theorem dX9_activeAt_45 : decode cX9_activeAt 45 = .ok (.iload_n 2, 1) := by decide +kernel
theorem dX9_activeAt_46 : decode cX9_activeAt 46 = .ok (.ireturn, 1) := by decide +kernel
theorem dX9_addEntry_0 : decode cX9_addEntry 0 = .ok (.iconst 0, 1) := by decide +kernel
theorem dX9_addEntry_1 : decode cX9_addEntry 1 = .ok (.istore 5, 2) := by decide +kernel
theorem dX9_addEntry_3 : decode cX9_addEntry 3 = .ok (.aload_n 0, 1) := by decide +kernel
theorem dX9_addEntry_4 : decode cX9_addEntry 4 = .ok (.getfield 124, 3) := by decide +kernel
theorem dX9_addEntry_7 : decode cX9_addEntry 7 = .ok (.ifCond .eq 66, 3) := by decide +kernel
theorem dX9_addEntry_10 : decode cX9_addEntry 10 = .ok (.iload 5, 2) := by decide +kernel
theorem dX9_addEntry_12 : decode cX9_addEntry 12 = .ok (.aload_n 0, 1) := by decide +kernel
theorem dX9_addEntry_13 : decode cX9_addEntry 13 = .ok (.getfield 66, 3) := by decide +kernel
theorem dX9_addEntry_16 : decode cX9_addEntry 16 = .ok (.iload_n 1, 1) := by decide +kernel
theorem dX9_addEntry_17 : decode cX9_addEntry 17 = .ok (.iaload, 1) := by decide +kernel
theorem dX9_addEntry_18 : decode cX9_addEntry 18 = .ok (.if_icmp .ge 55, 3) := by decide +kernel
theorem dX9_addEntry_21 : decode cX9_addEntry 21 = .ok (.aload_n 0, 1) := by decide +kernel
theorem dX9_addEntry_22 : decode cX9_addEntry 22 = .ok (.getfield 69, 3) := by decide +kernel
theorem dX9_addEntry_25 : decode cX9_addEntry 25 = .ok (.bipush 40, 2) := by decide +kernel
theorem dX9_addEntry_27 : decode cX9_addEntry 27 = .ok (.iload_n 1, 1) := by decide +kernel
theorem dX9_addEntry_28 : decode cX9_addEntry 28 = .ok (.imul, 1) := by decide +kernel
theorem dX9_addEntry_29 : decode cX9_addEntry 29 = .ok (.iload 5, 2) := by decide +kernel
theorem dX9_addEntry_31 : decode cX9_addEntry 31 = .ok (.iadd, 1) := by decide +kernel
theorem dX9_addEntry_32 : decode cX9_addEntry 32 = .ok (.iaload, 1) := by decide +kernel
theorem dX9_addEntry_33 : decode cX9_addEntry 33 = .ok (.iload_n 2, 1) := by decide +kernel
theorem dX9_addEntry_34 : decode cX9_addEntry 34 = .ok (.if_icmp .ne 33, 3) := by decide +kernel
theorem dX9_addEntry_37 : decode cX9_addEntry 37 = .ok (.aload_n 0, 1) := by decide +kernel
theorem dX9_addEntry_38 : decode cX9_addEntry 38 = .ok (.getfield 72, 3) := by decide +kernel
theorem dX9_addEntry_41 : decode cX9_addEntry 41 = .ok (.bipush 40, 2) := by decide +kernel
theorem dX9_addEntry_43 : decode cX9_addEntry 43 = .ok (.iload_n 1, 1) := by decide +kernel
theorem dX9_addEntry_44 : decode cX9_addEntry 44 = .ok (.imul, 1) := by decide +kernel
theorem dX9_addEntry_45 : decode cX9_addEntry 45 = .ok (.iload 5, 2) := by decide +kernel
theorem dX9_addEntry_47 : decode cX9_addEntry 47 = .ok (.iadd, 1) := by decide +kernel
theorem dX9_addEntry_48 : decode cX9_addEntry 48 = .ok (.aload_n 0, 1) := by decide +kernel
theorem dX9_addEntry_49 : decode cX9_addEntry 49 = .ok (.aload_n 0, 1) := by decide +kernel
theorem dX9_addEntry_50 : decode cX9_addEntry 50 = .ok (.getfield 72, 3) := by decide +kernel
theorem dX9_addEntry_53 : decode cX9_addEntry 53 = .ok (.bipush 40, 2) := by decide +kernel
theorem dX9_addEntry_55 : decode cX9_addEntry 55 = .ok (.iload_n 1, 1) := by decide +kernel
theorem dX9_addEntry_56 : decode cX9_addEntry 56 = .ok (.imul, 1) := by decide +kernel
theorem dX9_addEntry_57 : decode cX9_addEntry 57 = .ok (.iload 5, 2) := by decide +kernel
theorem dX9_addEntry_59 : decode cX9_addEntry 59 = .ok (.iadd, 1) := by decide +kernel
theorem dX9_addEntry_60 : decode cX9_addEntry 60 = .ok (.iaload, 1) := by decide +kernel
theorem dX9_addEntry_61 : decode cX9_addEntry 61 = .ok (.iload_n 3, 1) := by decide +kernel
theorem dX9_addEntry_62 : decode cX9_addEntry 62 = .ok (.invokevirtual 154, 3) := by decide +kernel
theorem dX9_addEntry_65 : decode cX9_addEntry 65 = .ok (.iastore, 1) := by decide +kernel
theorem dX9_addEntry_66 : decode cX9_addEntry 66 = .ok (.return_, 1) := by decide +kernel
theorem dX9_addEntry_67 : decode cX9_addEntry 67 = .ok (.iinc 5 1, 3) := by decide +kernel
theorem dX9_addEntry_70 : decode cX9_addEntry 70 = .ok (.goto (-67), 3) := by decide +kernel
theorem dX9_addEntry_73 : decode cX9_addEntry 73 = .ok (.bipush 40, 2) := by decide +kernel
theorem dX9_addEntry_75 : decode cX9_addEntry 75 = .ok (.iload_n 1, 1) := by decide +kernel
theorem dX9_addEntry_76 : decode cX9_addEntry 76 = .ok (.imul, 1) := by decide +kernel
theorem dX9_addEntry_77 : decode cX9_addEntry 77 = .ok (.aload_n 0, 1) := by decide +kernel
theorem dX9_addEntry_78 : decode cX9_addEntry 78 = .ok (.getfield 66, 3) := by decide +kernel
theorem dX9_addEntry_81 : decode cX9_addEntry 81 = .ok (.iload_n 1, 1) := by decide +kernel
theorem dX9_addEntry_82 : decode cX9_addEntry 82 = .ok (.iaload, 1) := by decide +kernel
theorem dX9_addEntry_83 : decode cX9_addEntry 83 = .ok (.iadd, 1) := by decide +kernel
theorem dX9_addEntry_84 : decode cX9_addEntry 84 = .ok (.istore 5, 2) := by decide +kernel
theorem dX9_addEntry_86 : decode cX9_addEntry 86 = .ok (.aload_n 0, 1) := by decide +kernel
theorem dX9_addEntry_87 : decode cX9_addEntry 87 = .ok (.getfield 69, 3) := by decide +kernel
theorem dX9_addEntry_90 : decode cX9_addEntry 90 = .ok (.iload 5, 2) := by decide +kernel
theorem dX9_addEntry_92 : decode cX9_addEntry 92 = .ok (.iload_n 2, 1) := by decide +kernel
theorem dX9_addEntry_93 : decode cX9_addEntry 93 = .ok (.iastore, 1) := by decide +kernel
theorem dX9_addEntry_94 : decode cX9_addEntry 94 = .ok (.aload_n 0, 1) := by decide +kernel
theorem dX9_addEntry_95 : decode cX9_addEntry 95 = .ok (.getfield 72, 3) := by decide +kernel
theorem dX9_addEntry_98 : decode cX9_addEntry 98 = .ok (.iload 5, 2) := by decide +kernel
theorem dX9_addEntry_100 : decode cX9_addEntry 100 = .ok (.iload_n 3, 1) := by decide +kernel
theorem dX9_addEntry_101 : decode cX9_addEntry 101 = .ok (.iastore, 1) := by decide +kernel
theorem dX9_addEntry_102 : decode cX9_addEntry 102 = .ok (.aload_n 0, 1) := by decide +kernel
theorem dX9_addEntry_103 : decode cX9_addEntry 103 = .ok (.getfield 75, 3) := by decide +kernel
theorem dX9_addEntry_106 : decode cX9_addEntry 106 = .ok (.iload 5, 2) := by decide +kernel
theorem dX9_addEntry_108 : decode cX9_addEntry 108 = .ok (.iload 4, 2) := by decide +kernel
theorem dX9_addEntry_110 : decode cX9_addEntry 110 = .ok (.iastore, 1) := by decide +kernel
theorem dX9_addEntry_111 : decode cX9_addEntry 111 = .ok (.aload_n 0, 1) := by decide +kernel
theorem dX9_addEntry_112 : decode cX9_addEntry 112 = .ok (.getfield 66, 3) := by decide +kernel
theorem dX9_addEntry_115 : decode cX9_addEntry 115 = .ok (.iload_n 1, 1) := by decide +kernel
theorem dX9_addEntry_116 : decode cX9_addEntry 116 = .ok (.dup2, 1) := by decide +kernel
theorem dX9_addEntry_117 : decode cX9_addEntry 117 = .ok (.iaload, 1) := by decide +kernel
theorem dX9_addEntry_118 : decode cX9_addEntry 118 = .ok (.iconst 1, 1) := by decide +kernel
theorem dX9_addEntry_119 : decode cX9_addEntry 119 = .ok (.iadd, 1) := by decide +kernel
theorem dX9_addEntry_120 : decode cX9_addEntry 120 = .ok (.iastore, 1) := by decide +kernel
theorem dX9_addEntry_121 : decode cX9_addEntry 121 = .ok (.return_, 1) := by decide +kernel
theorem dX9_write_0 : decode cX9_write 0 = .ok (.iconst 0, 1) := by decide +kernel
theorem dX9_write_1 : decode cX9_write 1 = .ok (.istore_n 2, 1) := by decide +kernel
theorem dX9_write_2 : decode cX9_write 2 = .ok (.iload_n 2, 1) := by decide +kernel
theorem dX9_write_3 : decode cX9_write 3 = .ok (.aload_n 0, 1) := by decide +kernel
theorem dX9_write_4 : decode cX9_write 4 = .ok (.getfield 7, 3) := by decide +kernel
theorem dX9_write_7 : decode cX9_write 7 = .ok (.if_icmp .ge 241, 3) := by decide +kernel
theorem dX9_write_10 : decode cX9_write 10 = .ok (.iload_n 2, 1) := by decide +kernel
theorem dX9_write_11 : decode cX9_write 11 = .ok (.iload_n 1, 1) := by decide +kernel
theorem dX9_write_12 : decode cX9_write 12 = .ok (.if_icmp .ne 6, 3) := by decide +kernel
theorem dX9_write_15 : decode cX9_write 15 = .ok (.goto 227, 3) := by decide +kernel
theorem dX9_write_18 : decode cX9_write 18 = .ok (.aload_n 0, 1) := by decide +kernel
theorem dX9_write_19 : decode cX9_write 19 = .ok (.iload_n 1, 1) := by decide +kernel
theorem dX9_write_20 : decode cX9_write 20 = .ok (.iconst 1, 1) := by decide +kernel
theorem dX9_write_21 : decode cX9_write 21 = .ok (.iload_n 2, 1) := by decide +kernel
theorem dX9_write_22 : decode cX9_write 22 = .ok (.invokevirtual 158, 3) := by decide +kernel
theorem dX9_write_25 : decode cX9_write 25 = .ok (.istore_n 3, 1) := by decide +kernel
theorem dX9_write_26 : decode cX9_write 26 = .ok (.aload_n 0, 1) := by decide +kernel
theorem dX9_write_27 : decode cX9_write 27 = .ok (.getfield 48, 3) := by decide +kernel
theorem dX9_write_30 : decode cX9_write 30 = .ok (.iload_n 3, 1) := by decide +kernel
theorem dX9_write_31 : decode cX9_write 31 = .ok (.iconst 1, 1) := by decide +kernel
theorem dX9_write_32 : decode cX9_write 32 = .ok (.bastore, 1) := by decide +kernel
theorem dX9_write_33 : decode cX9_write 33 = .ok (.aload_n 0, 1) := by decide +kernel
theorem dX9_write_34 : decode cX9_write 34 = .ok (.getfield 51, 3) := by decide +kernel
theorem dX9_write_37 : decode cX9_write 37 = .ok (.iload_n 3, 1) := by decide +kernel
theorem dX9_write_38 : decode cX9_write 38 = .ok (.aload_n 0, 1) := by decide +kernel
theorem dX9_write_39 : decode cX9_write 39 = .ok (.getfield 137, 3) := by decide +kernel
theorem dX9_write_42 : decode cX9_write 42 = .ok (.iastore, 1) := by decide +kernel
theorem dX9_write_43 : decode cX9_write 43 = .ok (.aload_n 0, 1) := by decide +kernel
theorem dX9_write_44 : decode cX9_write 44 = .ok (.getfield 54, 3) := by decide +kernel
theorem dX9_write_47 : decode cX9_write 47 = .ok (.iload_n 3, 1) := by decide +kernel
theorem dX9_write_48 : decode cX9_write 48 = .ok (.aload_n 0, 1) := by decide +kernel
theorem dX9_write_49 : decode cX9_write 49 = .ok (.getfield 39, 3) := by decide +kernel
theorem dX9_write_52 : decode cX9_write 52 = .ok (.iload_n 1, 1) := by decide +kernel
theorem dX9_write_53 : decode cX9_write 53 = .ok (.iaload, 1) := by decide +kernel
theorem dX9_write_54 : decode cX9_write 54 = .ok (.iastore, 1) := by decide +kernel
theorem dX9_write_55 : decode cX9_write 55 = .ok (.aload_n 0, 1) := by decide +kernel
theorem dX9_write_56 : decode cX9_write 56 = .ok (.getfield 57, 3) := by decide +kernel
theorem dX9_write_59 : decode cX9_write 59 = .ok (.iload_n 3, 1) := by decide +kernel
theorem dX9_write_60 : decode cX9_write 60 = .ok (.iload_n 1, 1) := by decide +kernel
theorem dX9_write_61 : decode cX9_write 61 = .ok (.iastore, 1) := by decide +kernel
theorem dX9_write_62 : decode cX9_write 62 = .ok (.aload_n 0, 1) := by decide +kernel
theorem dX9_write_63 : decode cX9_write 63 = .ok (.getfield 60, 3) := by decide +kernel
theorem dX9_write_66 : decode cX9_write 66 = .ok (.iload_n 3, 1) := by decide +kernel
theorem dX9_write_67 : decode cX9_write 67 = .ok (.iload_n 2, 1) := by decide +kernel
theorem dX9_write_68 : decode cX9_write 68 = .ok (.iastore, 1) := by decide +kernel
theorem dX9_write_69 : decode cX9_write 69 = .ok (.aload_n 0, 1) := by decide +kernel
theorem dX9_write_70 : decode cX9_write 70 = .ok (.getfield 63, 3) := by decide +kernel
theorem dX9_write_73 : decode cX9_write 73 = .ok (.iload_n 3, 1) := by decide +kernel
theorem dX9_write_74 : decode cX9_write 74 = .ok (.aload_n 0, 1) := by decide +kernel
theorem dX9_write_75 : decode cX9_write 75 = .ok (.iload_n 1, 1) := by decide +kernel
theorem dX9_write_76 : decode cX9_write 76 = .ok (.invokevirtual 162, 3) := by decide +kernel
theorem dX9_write_79 : decode cX9_write 79 = .ok (.iastore, 1) := by decide +kernel
theorem dX9_write_80 : decode cX9_write 80 = .ok (.aload_n 0, 1) := by decide +kernel
theorem dX9_write_81 : decode cX9_write 81 = .ok (.getfield 66, 3) := by decide +kernel
theorem dX9_write_84 : decode cX9_write 84 = .ok (.iload_n 3, 1) := by decide +kernel
theorem dX9_write_85 : decode cX9_write 85 = .ok (.iconst 0, 1) := by decide +kernel
theorem dX9_write_86 : decode cX9_write 86 = .ok (.iastore, 1) := by decide +kernel
theorem dX9_write_87 : decode cX9_write 87 = .ok (.iconst 0, 1) := by decide +kernel
theorem dX9_write_88 : decode cX9_write 88 = .ok (.istore 4, 2) := by decide +kernel
theorem dX9_write_90 : decode cX9_write 90 = .ok (.iload 4, 2) := by decide +kernel
theorem dX9_write_92 : decode cX9_write 92 = .ok (.aload_n 0, 1) := by decide +kernel
theorem dX9_write_93 : decode cX9_write 93 = .ok (.getfield 115, 3) := by decide +kernel
theorem dX9_write_96 : decode cX9_write 96 = .ok (.if_icmp .ge 108, 3) := by decide +kernel
theorem dX9_write_99 : decode cX9_write 99 = .ok (.iconst 0, 1) := by decide +kernel
theorem dX9_write_100 : decode cX9_write 100 = .ok (.istore 5, 2) := by decide +kernel
theorem dX9_write_102 : decode cX9_write 102 = .ok (.iload 5, 2) := by decide +kernel
theorem dX9_write_104 : decode cX9_write 104 = .ok (.aload_n 0, 1) := by decide +kernel
theorem dX9_write_105 : decode cX9_write 105 = .ok (.getfield 118, 3) := by decide +kernel
theorem dX9_write_108 : decode cX9_write 108 = .ok (.if_icmp .ge 90, 3) := by decide +kernel
theorem dX9_write_111 : decode cX9_write 111 = .ok (.aload_n 0, 1) := by decide +kernel
theorem dX9_write_112 : decode cX9_write 112 = .ok (.getfield 27, 3) := by decide +kernel
theorem dX9_write_115 : decode cX9_write 115 = .ok (.iload 4, 2) := by decide +kernel
theorem dX9_write_117 : decode cX9_write 117 = .ok (.iaload, 1) := by decide +kernel
theorem dX9_write_118 : decode cX9_write 118 = .ok (.iload_n 1, 1) := by decide +kernel
theorem dX9_write_119 : decode cX9_write 119 = .ok (.if_icmp .ne 73, 3) := by decide +kernel
theorem dX9_write_122 : decode cX9_write 122 = .ok (.aload_n 0, 1) := by decide +kernel
theorem dX9_write_123 : decode cX9_write 123 = .ok (.getfield 23, 3) := by decide +kernel
theorem dX9_write_126 : decode cX9_write 126 = .ok (.iload 4, 2) := by decide +kernel
theorem dX9_write_128 : decode cX9_write 128 = .ok (.baload, 1) := by decide +kernel
theorem dX9_write_129 : decode cX9_write 129 = .ok (.ifCond .eq 63, 3) := by decide +kernel
theorem dX9_write_132 : decode cX9_write 132 = .ok (.aload_n 0, 1) := by decide +kernel
theorem dX9_write_133 : decode cX9_write 133 = .ok (.getfield 30, 3) := by decide +kernel
theorem dX9_write_136 : decode cX9_write 136 = .ok (.iload 5, 2) := by decide +kernel
theorem dX9_write_138 : decode cX9_write 138 = .ok (.iaload, 1) := by decide +kernel
theorem dX9_write_139 : decode cX9_write 139 = .ok (.iload 4, 2) := by decide +kernel
theorem dX9_write_141 : decode cX9_write 141 = .ok (.if_icmp .ne 51, 3) := by decide +kernel
theorem dX9_write_144 : decode cX9_write 144 = .ok (.aload_n 0, 1) := by decide +kernel
theorem dX9_write_145 : decode cX9_write 145 = .ok (.getfield 27, 3) := by decide +kernel
theorem dX9_write_148 : decode cX9_write 148 = .ok (.aload_n 0, 1) := by decide +kernel
theorem dX9_write_149 : decode cX9_write 149 = .ok (.getfield 33, 3) := by decide +kernel
theorem dX9_write_152 : decode cX9_write 152 = .ok (.iload 5, 2) := by decide +kernel
theorem dX9_write_154 : decode cX9_write 154 = .ok (.iaload, 1) := by decide +kernel
theorem dX9_write_155 : decode cX9_write 155 = .ok (.iaload, 1) := by decide +kernel
theorem dX9_write_156 : decode cX9_write 156 = .ok (.iload_n 2, 1) := by decide +kernel
theorem dX9_write_157 : decode cX9_write 157 = .ok (.if_icmp .ne 35, 3) := by decide +kernel
theorem dX9_write_160 : decode cX9_write 160 = .ok (.aload_n 0, 1) := by decide +kernel
theorem dX9_write_161 : decode cX9_write 161 = .ok (.iload_n 3, 1) := by decide +kernel
theorem dX9_write_162 : decode cX9_write 162 = .ok (.aload_n 0, 1) := by decide +kernel
theorem dX9_write_163 : decode cX9_write 163 = .ok (.getfield 33, 3) := by decide +kernel
theorem dX9_write_166 : decode cX9_write 166 = .ok (.iload 5, 2) := by decide +kernel
theorem dX9_write_168 : decode cX9_write 168 = .ok (.iaload, 1) := by decide +kernel
theorem dX9_write_169 : decode cX9_write 169 = .ok (.aload_n 0, 1) := by decide +kernel
theorem dX9_write_170 : decode cX9_write 170 = .ok (.aload_n 0, 1) := by decide +kernel
theorem dX9_write_171 : decode cX9_write 171 = .ok (.getfield 17, 3) := by decide +kernel
theorem dX9_write_174 : decode cX9_write 174 = .ok (.iload 4, 2) := by decide +kernel
theorem dX9_write_176 : decode cX9_write 176 = .ok (.iaload, 1) := by decide +kernel
theorem dX9_write_177 : decode cX9_write 177 = .ok (.aload_n 0, 1) := by decide +kernel
theorem dX9_write_178 : decode cX9_write 178 = .ok (.getfield 36, 3) := by decide +kernel
theorem dX9_write_181 : decode cX9_write 181 = .ok (.iload 5, 2) := by decide +kernel
theorem dX9_write_183 : decode cX9_write 183 = .ok (.iaload, 1) := by decide +kernel
theorem dX9_write_184 : decode cX9_write 184 = .ok (.invokevirtual 166, 3) := by decide +kernel
theorem dX9_write_187 : decode cX9_write 187 = .ok (.iload 5, 2) := by decide +kernel
theorem dX9_write_189 : decode cX9_write 189 = .ok (.invokevirtual 169, 3) := by decide +kernel
theorem dX9_write_192 : decode cX9_write 192 = .ok (.iinc 5 1, 3) := by decide +kernel
theorem dX9_write_195 : decode cX9_write 195 = .ok (.goto (-93), 3) := by decide +kernel
theorem dX9_write_198 : decode cX9_write 198 = .ok (.iinc 4 1, 3) := by decide +kernel
theorem dX9_write_201 : decode cX9_write 201 = .ok (.goto (-111), 3) := by decide +kernel
theorem dX9_write_204 : decode cX9_write 204 = .ok (.aload_n 0, 1) := by decide +kernel
theorem dX9_write_205 : decode cX9_write 205 = .ok (.dup, 1) := by decide +kernel
theorem dX9_write_206 : decode cX9_write 206 = .ok (.getfield 140, 3) := by decide +kernel
theorem dX9_write_209 : decode cX9_write 209 = .ok (.iconst 1, 1) := by decide +kernel
theorem dX9_write_210 : decode cX9_write 210 = .ok (.iadd, 1) := by decide +kernel
theorem dX9_write_211 : decode cX9_write 211 = .ok (.putfield 140, 3) := by decide +kernel
theorem dX9_write_214 : decode cX9_write 214 = .ok (.aload_n 0, 1) := by decide +kernel
theorem dX9_write_215 : decode cX9_write 215 = .ok (.getfield 134, 3) := by decide +kernel
theorem dX9_write_218 : decode cX9_write 218 = .ok (.bipush 60, 2) := by decide +kernel
theorem dX9_write_220 : decode cX9_write 220 = .ok (.if_icmp .ge 22, 3) := by decide +kernel
theorem dX9_write_223 : decode cX9_write 223 = .ok (.aload_n 0, 1) := by decide +kernel
theorem dX9_write_224 : decode cX9_write 224 = .ok (.iload_n 3, 1) := by decide +kernel
theorem dX9_write_225 : decode cX9_write 225 = .ok (.aload_n 0, 1) := by decide +kernel
theorem dX9_write_226 : decode cX9_write 226 = .ok (.getfield 134, 3) := by decide +kernel
theorem dX9_write_229 : decode cX9_write 229 = .ok (.invokevirtual 173, 3) := by decide +kernel
theorem dX9_write_232 : decode cX9_write 232 = .ok (.aload_n 0, 1) := by decide +kernel
theorem dX9_write_233 : decode cX9_write 233 = .ok (.dup, 1) := by decide +kernel
theorem dX9_write_234 : decode cX9_write 234 = .ok (.getfield 134, 3) := by decide +kernel
theorem dX9_write_237 : decode cX9_write 237 = .ok (.iconst 1, 1) := by decide +kernel
theorem dX9_write_238 : decode cX9_write 238 = .ok (.iadd, 1) := by decide +kernel
theorem dX9_write_239 : decode cX9_write 239 = .ok (.putfield 134, 3) := by decide +kernel
theorem dX9_write_242 : decode cX9_write 242 = .ok (.iinc 2 1, 3) := by decide +kernel
theorem dX9_write_245 : decode cX9_write 245 = .ok (.goto (-243), 3) := by decide +kernel
theorem dX9_write_248 : decode cX9_write 248 = .ok (.return_, 1) := by decide +kernel
theorem dX9_takeOut_0 : decode cX9_takeOut 0 = .ok (.aload_n 0, 1) := by decide +kernel
theorem dX9_takeOut_1 : decode cX9_takeOut 1 = .ok (.dup, 1) := by decide +kernel
theorem dX9_takeOut_2 : decode cX9_takeOut 2 = .ok (.getfield 134, 3) := by decide +kernel
theorem dX9_takeOut_5 : decode cX9_takeOut 5 = .ok (.iconst 1, 1) := by decide +kernel
theorem dX9_takeOut_6 : decode cX9_takeOut 6 = .ok (.isub, 1) := by decide +kernel
theorem dX9_takeOut_7 : decode cX9_takeOut 7 = .ok (.putfield 134, 3) := by decide +kernel
theorem dX9_takeOut_10 : decode cX9_takeOut 10 = .ok (.iload_n 1, 1) := by decide +kernel
theorem dX9_takeOut_11 : decode cX9_takeOut 11 = .ok (.istore_n 2, 1) := by decide +kernel
theorem dX9_takeOut_12 : decode cX9_takeOut 12 = .ok (.iload_n 2, 1) := by decide +kernel
theorem dX9_takeOut_13 : decode cX9_takeOut 13 = .ok (.aload_n 0, 1) := by decide +kernel
theorem dX9_takeOut_14 : decode cX9_takeOut 14 = .ok (.getfield 134, 3) := by decide +kernel
theorem dX9_takeOut_17 : decode cX9_takeOut 17 = .ok (.if_icmp .ge 17, 3) := by decide +kernel
theorem dX9_takeOut_20 : decode cX9_takeOut 20 = .ok (.aload_n 0, 1) := by decide +kernel
theorem dX9_takeOut_21 : decode cX9_takeOut 21 = .ok (.iload_n 2, 1) := by decide +kernel
theorem dX9_takeOut_22 : decode cX9_takeOut 22 = .ok (.iconst 1, 1) := by decide +kernel
theorem dX9_takeOut_23 : decode cX9_takeOut 23 = .ok (.iadd, 1) := by decide +kernel
theorem dX9_takeOut_24 : decode cX9_takeOut 24 = .ok (.iload_n 2, 1) := by decide +kernel
theorem dX9_takeOut_25 : decode cX9_takeOut 25 = .ok (.invokevirtual 173, 3) := by decide +kernel
theorem dX9_takeOut_28 : decode cX9_takeOut 28 = .ok (.iinc 2 1, 3) := by decide +kernel
theorem dX9_takeOut_31 : decode cX9_takeOut 31 = .ok (.goto (-19), 3) := by decide +kernel
theorem dX9_takeOut_34 : decode cX9_takeOut 34 = .ok (.return_, 1) := by decide +kernel
theorem dX9_mark_0 : decode cX9_mark 0 = .ok (.aload_n 0, 1) := by decide +kernel
theorem dX9_mark_1 : decode cX9_mark 1 = .ok (.getfield 78, 3) := by decide +kernel
theorem dX9_mark_4 : decode cX9_mark 4 = .ok (.iconst 2, 1) := by decide +kernel
theorem dX9_mark_5 : decode cX9_mark 5 = .ok (.iload_n 1, 1) := by decide +kernel
theorem dX9_mark_6 : decode cX9_mark 6 = .ok (.imul, 1) := by decide +kernel
theorem dX9_mark_7 : decode cX9_mark 7 = .ok (.aload_n 0, 1) := by decide +kernel
theorem dX9_mark_8 : decode cX9_mark 8 = .ok (.getfield 78, 3) := by decide +kernel
theorem dX9_mark_11 : decode cX9_mark 11 = .ok (.iconst 2, 1) := by decide +kernel
theorem dX9_mark_12 : decode cX9_mark 12 = .ok (.iload_n 1, 1) := by decide +kernel
theorem dX9_mark_13 : decode cX9_mark 13 = .ok (.imul, 1) := by decide +kernel
theorem dX9_mark_14 : decode cX9_mark 14 = .ok (.iconst 1, 1) := by decide +kernel
theorem dX9_mark_15 : decode cX9_mark 15 = .ok (.iadd, 1) := by decide +kernel
theorem dX9_mark_16 : decode cX9_mark 16 = .ok (.iaload, 1) := by decide +kernel
theorem dX9_mark_17 : decode cX9_mark 17 = .ok (.iastore, 1) := by decide +kernel
theorem dX9_mark_18 : decode cX9_mark 18 = .ok (.iconst 0, 1) := by decide +kernel
theorem dX9_mark_19 : decode cX9_mark 19 = .ok (.istore_n 2, 1) := by decide +kernel
theorem dX9_mark_20 : decode cX9_mark 20 = .ok (.iload_n 2, 1) := by decide +kernel
theorem dX9_mark_21 : decode cX9_mark 21 = .ok (.bipush 16, 2) := by decide +kernel
theorem dX9_mark_23 : decode cX9_mark 23 = .ok (.if_icmp .ge 22, 3) := by decide +kernel
theorem dX9_mark_26 : decode cX9_mark 26 = .ok (.aload_n 0, 1) := by decide +kernel
theorem dX9_mark_27 : decode cX9_mark 27 = .ok (.iconst 2, 1) := by decide +kernel
theorem dX9_mark_28 : decode cX9_mark 28 = .ok (.iload_n 1, 1) := by decide +kernel
theorem dX9_mark_29 : decode cX9_mark 29 = .ok (.imul, 1) := by decide +kernel
theorem dX9_mark_30 : decode cX9_mark 30 = .ok (.iconst 1, 1) := by decide +kernel
theorem dX9_mark_31 : decode cX9_mark 31 = .ok (.iadd, 1) := by decide +kernel
theorem dX9_mark_32 : decode cX9_mark 32 = .ok (.iconst 2, 1) := by decide +kernel
theorem dX9_mark_33 : decode cX9_mark 33 = .ok (.iload_n 1, 1) := by decide +kernel
theorem dX9_mark_34 : decode cX9_mark 34 = .ok (.imul, 1) := by decide +kernel
theorem dX9_mark_35 : decode cX9_mark 35 = .ok (.iload_n 2, 1) := by decide +kernel
theorem dX9_mark_36 : decode cX9_mark 36 = .ok (.invokevirtual 177, 3) := by decide +kernel
theorem dX9_mark_39 : decode cX9_mark 39 = .ok (.iinc 2 1, 3) := by decide +kernel
theorem dX9_mark_42 : decode cX9_mark 42 = .ok (.goto (-22), 3) := by decide +kernel
theorem dX9_mark_45 : decode cX9_mark 45 = .ok (.aload_n 0, 1) := by decide +kernel
theorem dX9_mark_46 : decode cX9_mark 46 = .ok (.getfield 78, 3) := by decide +kernel
theorem dX9_mark_49 : decode cX9_mark 49 = .ok (.iconst 2, 1) := by decide +kernel
theorem dX9_mark_50 : decode cX9_mark 50 = .ok (.iload_n 1, 1) := by decide +kernel
theorem dX9_mark_51 : decode cX9_mark 51 = .ok (.imul, 1) := by decide +kernel
theorem dX9_mark_52 : decode cX9_mark 52 = .ok (.iconst 1, 1) := by decide +kernel
theorem dX9_mark_53 : decode cX9_mark 53 = .ok (.iadd, 1) := by decide +kernel
theorem dX9_mark_54 : decode cX9_mark 54 = .ok (.aload_n 0, 1) := by decide +kernel
theorem dX9_mark_55 : decode cX9_mark 55 = .ok (.getfield 39, 3) := by decide +kernel
theorem dX9_mark_58 : decode cX9_mark 58 = .ok (.iload_n 1, 1) := by decide +kernel
theorem dX9_mark_59 : decode cX9_mark 59 = .ok (.iaload, 1) := by decide +kernel
theorem dX9_mark_60 : decode cX9_mark 60 = .ok (.iastore, 1) := by decide +kernel
theorem dX9_mark_61 : decode cX9_mark 61 = .ok (.iconst 0, 1) := by decide +kernel
theorem dX9_mark_62 : decode cX9_mark 62 = .ok (.istore_n 2, 1) := by decide +kernel
theorem dX9_mark_63 : decode cX9_mark 63 = .ok (.iload_n 2, 1) := by decide +kernel
theorem dX9_mark_64 : decode cX9_mark 64 = .ok (.aload_n 0, 1) := by decide +kernel
theorem dX9_mark_65 : decode cX9_mark 65 = .ok (.getfield 115, 3) := by decide +kernel
theorem dX9_mark_68 : decode cX9_mark 68 = .ok (.if_icmp .ge 56, 3) := by decide +kernel
theorem dX9_mark_71 : decode cX9_mark 71 = .ok (.bipush 16, 2) := by decide +kernel
theorem dX9_mark_73 : decode cX9_mark 73 = .ok (.iconst 2, 1) := by decide +kernel
theorem dX9_mark_74 : decode cX9_mark 74 = .ok (.iload_n 1, 1) := by decide +kernel
theorem dX9_mark_75 : decode cX9_mark 75 = .ok (.imul, 1) := by decide +kernel
theorem dX9_mark_76 : decode cX9_mark 76 = .ok (.iconst 1, 1) := by decide +kernel
theorem dX9_mark_77 : decode cX9_mark 77 = .ok (.iadd, 1) := by decide +kernel
theorem dX9_mark_78 : decode cX9_mark 78 = .ok (.imul, 1) := by decide +kernel
theorem dX9_mark_79 : decode cX9_mark 79 = .ok (.iload_n 2, 1) := by decide +kernel
theorem dX9_mark_80 : decode cX9_mark 80 = .ok (.iadd, 1) := by decide +kernel
theorem dX9_mark_81 : decode cX9_mark 81 = .ok (.istore_n 3, 1) := by decide +kernel
theorem dX9_mark_82 : decode cX9_mark 82 = .ok (.aload_n 0, 1) := by decide +kernel
theorem dX9_mark_83 : decode cX9_mark 83 = .ok (.getfield 81, 3) := by decide +kernel
theorem dX9_mark_86 : decode cX9_mark 86 = .ok (.iload_n 3, 1) := by decide +kernel
theorem dX9_mark_87 : decode cX9_mark 87 = .ok (.aload_n 0, 1) := by decide +kernel
theorem dX9_mark_88 : decode cX9_mark 88 = .ok (.getfield 17, 3) := by decide +kernel
theorem dX9_mark_91 : decode cX9_mark 91 = .ok (.iload_n 2, 1) := by decide +kernel
theorem dX9_mark_92 : decode cX9_mark 92 = .ok (.iaload, 1) := by decide +kernel
theorem dX9_mark_93 : decode cX9_mark 93 = .ok (.iastore, 1) := by decide +kernel
theorem dX9_mark_94 : decode cX9_mark 94 = .ok (.aload_n 0, 1) := by decide +kernel
theorem dX9_mark_95 : decode cX9_mark 95 = .ok (.getfield 84, 3) := by decide +kernel
theorem dX9_mark_98 : decode cX9_mark 98 = .ok (.iload_n 3, 1) := by decide +kernel
theorem dX9_mark_99 : decode cX9_mark 99 = .ok (.aload_n 0, 1) := by decide +kernel
theorem dX9_mark_100 : decode cX9_mark 100 = .ok (.getfield 20, 3) := by decide +kernel
theorem dX9_mark_103 : decode cX9_mark 103 = .ok (.iload_n 2, 1) := by decide +kernel
theorem dX9_mark_104 : decode cX9_mark 104 = .ok (.iaload, 1) := by decide +kernel
theorem dX9_mark_105 : decode cX9_mark 105 = .ok (.iastore, 1) := by decide +kernel
theorem dX9_mark_106 : decode cX9_mark 106 = .ok (.aload_n 0, 1) := by decide +kernel
theorem dX9_mark_107 : decode cX9_mark 107 = .ok (.getfield 87, 3) := by decide +kernel
theorem dX9_mark_110 : decode cX9_mark 110 = .ok (.iload_n 3, 1) := by decide +kernel
theorem dX9_mark_111 : decode cX9_mark 111 = .ok (.aload_n 0, 1) := by decide +kernel
theorem dX9_mark_112 : decode cX9_mark 112 = .ok (.getfield 23, 3) := by decide +kernel
theorem dX9_mark_115 : decode cX9_mark 115 = .ok (.iload_n 2, 1) := by decide +kernel
theorem dX9_mark_116 : decode cX9_mark 116 = .ok (.baload, 1) := by decide +kernel
theorem dX9_mark_117 : decode cX9_mark 117 = .ok (.bastore, 1) := by decide +kernel
theorem dX9_mark_118 : decode cX9_mark 118 = .ok (.iinc 2 1, 3) := by decide +kernel
theorem dX9_mark_121 : decode cX9_mark 121 = .ok (.goto (-58), 3) := by decide +kernel
theorem dX9_mark_124 : decode cX9_mark 124 = .ok (.return_, 1) := by decide +kernel
theorem dX9_layMark_0 : decode cX9_layMark 0 = .ok (.aload_n 0, 1) := by decide +kernel
theorem dX9_layMark_1 : decode cX9_layMark 1 = .ok (.getfield 81, 3) := by decide +kernel
theorem dX9_layMark_4 : decode cX9_layMark 4 = .ok (.bipush 16, 2) := by decide +kernel
theorem dX9_layMark_6 : decode cX9_layMark 6 = .ok (.iload_n 2, 1) := by decide +kernel
theorem dX9_layMark_7 : decode cX9_layMark 7 = .ok (.imul, 1) := by decide +kernel
theorem dX9_layMark_8 : decode cX9_layMark 8 = .ok (.iload_n 3, 1) := by decide +kernel
theorem dX9_layMark_9 : decode cX9_layMark 9 = .ok (.iadd, 1) := by decide +kernel
theorem dX9_layMark_10 : decode cX9_layMark 10 = .ok (.aload_n 0, 1) := by decide +kernel
theorem dX9_layMark_11 : decode cX9_layMark 11 = .ok (.getfield 81, 3) := by decide +kernel
theorem dX9_layMark_14 : decode cX9_layMark 14 = .ok (.bipush 16, 2) := by decide +kernel
theorem dX9_layMark_16 : decode cX9_layMark 16 = .ok (.iload_n 1, 1) := by decide +kernel
theorem dX9_layMark_17 : decode cX9_layMark 17 = .ok (.imul, 1) := by decide +kernel
theorem dX9_layMark_18 : decode cX9_layMark 18 = .ok (.iload_n 3, 1) := by decide +kernel
theorem dX9_layMark_19 : decode cX9_layMark 19 = .ok (.iadd, 1) := by decide +kernel
theorem dX9_layMark_20 : decode cX9_layMark 20 = .ok (.iaload, 1) := by decide +kernel
theorem dX9_layMark_21 : decode cX9_layMark 21 = .ok (.iastore, 1) := by decide +kernel
theorem dX9_layMark_22 : decode cX9_layMark 22 = .ok (.aload_n 0, 1) := by decide +kernel
theorem dX9_layMark_23 : decode cX9_layMark 23 = .ok (.getfield 84, 3) := by decide +kernel
theorem dX9_layMark_26 : decode cX9_layMark 26 = .ok (.bipush 16, 2) := by decide +kernel
theorem dX9_layMark_28 : decode cX9_layMark 28 = .ok (.iload_n 2, 1) := by decide +kernel
theorem dX9_layMark_29 : decode cX9_layMark 29 = .ok (.imul, 1) := by decide +kernel
theorem dX9_layMark_30 : decode cX9_layMark 30 = .ok (.iload_n 3, 1) := by decide +kernel
theorem dX9_layMark_31 : decode cX9_layMark 31 = .ok (.iadd, 1) := by decide +kernel
theorem dX9_layMark_32 : decode cX9_layMark 32 = .ok (.aload_n 0, 1) := by decide +kernel
theorem dX9_layMark_33 : decode cX9_layMark 33 = .ok (.getfield 84, 3) := by decide +kernel
theorem dX9_layMark_36 : decode cX9_layMark 36 = .ok (.bipush 16, 2) := by decide +kernel
theorem dX9_layMark_38 : decode cX9_layMark 38 = .ok (.iload_n 1, 1) := by decide +kernel
theorem dX9_layMark_39 : decode cX9_layMark 39 = .ok (.imul, 1) := by decide +kernel
theorem dX9_layMark_40 : decode cX9_layMark 40 = .ok (.iload_n 3, 1) := by decide +kernel
theorem dX9_layMark_41 : decode cX9_layMark 41 = .ok (.iadd, 1) := by decide +kernel
theorem dX9_layMark_42 : decode cX9_layMark 42 = .ok (.iaload, 1) := by decide +kernel
theorem dX9_layMark_43 : decode cX9_layMark 43 = .ok (.iastore, 1) := by decide +kernel
theorem dX9_layMark_44 : decode cX9_layMark 44 = .ok (.aload_n 0, 1) := by decide +kernel
theorem dX9_layMark_45 : decode cX9_layMark 45 = .ok (.getfield 87, 3) := by decide +kernel
theorem dX9_layMark_48 : decode cX9_layMark 48 = .ok (.bipush 16, 2) := by decide +kernel
theorem dX9_layMark_50 : decode cX9_layMark 50 = .ok (.iload_n 2, 1) := by decide +kernel
theorem dX9_layMark_51 : decode cX9_layMark 51 = .ok (.imul, 1) := by decide +kernel
theorem dX9_layMark_52 : decode cX9_layMark 52 = .ok (.iload_n 3, 1) := by decide +kernel
theorem dX9_layMark_53 : decode cX9_layMark 53 = .ok (.iadd, 1) := by decide +kernel
theorem dX9_layMark_54 : decode cX9_layMark 54 = .ok (.aload_n 0, 1) := by decide +kernel
theorem dX9_layMark_55 : decode cX9_layMark 55 = .ok (.getfield 87, 3) := by decide +kernel
theorem dX9_layMark_58 : decode cX9_layMark 58 = .ok (.bipush 16, 2) := by decide +kernel
theorem dX9_layMark_60 : decode cX9_layMark 60 = .ok (.iload_n 1, 1) := by decide +kernel
theorem dX9_layMark_61 : decode cX9_layMark 61 = .ok (.imul, 1) := by decide +kernel
theorem dX9_layMark_62 : decode cX9_layMark 62 = .ok (.iload_n 3, 1) := by decide +kernel
theorem dX9_layMark_63 : decode cX9_layMark 63 = .ok (.iadd, 1) := by decide +kernel
theorem dX9_layMark_64 : decode cX9_layMark 64 = .ok (.baload, 1) := by decide +kernel
theorem dX9_layMark_65 : decode cX9_layMark 65 = .ok (.bastore, 1) := by decide +kernel
theorem dX9_layMark_66 : decode cX9_layMark 66 = .ok (.return_, 1) := by decide +kernel
theorem dX9_come_0 : decode cX9_come 0 = .ok (.aload_n 0, 1) := by decide +kernel
theorem dX9_come_1 : decode cX9_come 1 = .ok (.getfield 39, 3) := by decide +kernel
theorem dX9_come_4 : decode cX9_come 4 = .ok (.iload_n 1, 1) := by decide +kernel
theorem dX9_come_5 : decode cX9_come 5 = .ok (.iload_n 2, 1) := by decide +kernel
theorem dX9_come_6 : decode cX9_come 6 = .ok (.iastore, 1) := by decide +kernel
theorem dX9_come_7 : decode cX9_come 7 = .ok (.iconst 0, 1) := by decide +kernel
theorem dX9_come_8 : decode cX9_come 8 = .ok (.istore_n 3, 1) := by decide +kernel
theorem dX9_come_9 : decode cX9_come 9 = .ok (.iload_n 3, 1) := by decide +kernel
theorem dX9_come_10 : decode cX9_come 10 = .ok (.iconst 5, 1) := by decide +kernel
theorem dX9_come_11 : decode cX9_come 11 = .ok (.if_icmp .ge 71, 3) := by decide +kernel
theorem dX9_come_14 : decode cX9_come 14 = .ok (.aload_n 0, 1) := by decide +kernel
theorem dX9_come_15 : decode cX9_come 15 = .ok (.aload_n 0, 1) := by decide +kernel
theorem dX9_come_16 : decode cX9_come 16 = .ok (.iload_n 1, 1) := by decide +kernel
theorem dX9_come_17 : decode cX9_come 17 = .ok (.iconst 1, 1) := by decide +kernel
theorem dX9_come_18 : decode cX9_come 18 = .ok (.iload_n 3, 1) := by decide +kernel
theorem dX9_come_19 : decode cX9_come 19 = .ok (.invokevirtual 181, 3) := by decide +kernel
theorem dX9_come_22 : decode cX9_come 22 = .ok (.aload_n 0, 1) := by decide +kernel
theorem dX9_come_23 : decode cX9_come 23 = .ok (.iload_n 1, 1) := by decide +kernel
theorem dX9_come_24 : decode cX9_come 24 = .ok (.iconst 0, 1) := by decide +kernel
theorem dX9_come_25 : decode cX9_come 25 = .ok (.iload_n 3, 1) := by decide +kernel
theorem dX9_come_26 : decode cX9_come 26 = .ok (.invokevirtual 181, 3) := by decide +kernel
theorem dX9_come_29 : decode cX9_come 29 = .ok (.invokevirtual 173, 3) := by decide +kernel
theorem dX9_come_32 : decode cX9_come 32 = .ok (.aload_n 0, 1) := by decide +kernel
theorem dX9_come_33 : decode cX9_come 33 = .ok (.getfield 48, 3) := by decide +kernel
theorem dX9_come_36 : decode cX9_come 36 = .ok (.aload_n 0, 1) := by decide +kernel
theorem dX9_come_37 : decode cX9_come 37 = .ok (.iload_n 1, 1) := by decide +kernel
theorem dX9_come_38 : decode cX9_come 38 = .ok (.iconst 1, 1) := by decide +kernel
theorem dX9_come_39 : decode cX9_come 39 = .ok (.iload_n 3, 1) := by decide +kernel
theorem dX9_come_40 : decode cX9_come 40 = .ok (.invokevirtual 181, 3) := by decide +kernel
theorem dX9_come_43 : decode cX9_come 43 = .ok (.iconst 0, 1) := by decide +kernel
theorem dX9_come_44 : decode cX9_come 44 = .ok (.bastore, 1) := by decide +kernel
theorem dX9_come_45 : decode cX9_come 45 = .ok (.aload_n 0, 1) := by decide +kernel
theorem dX9_come_46 : decode cX9_come 46 = .ok (.aload_n 0, 1) := by decide +kernel
theorem dX9_come_47 : decode cX9_come 47 = .ok (.iload_n 1, 1) := by decide +kernel
theorem dX9_come_48 : decode cX9_come 48 = .ok (.iconst 1, 1) := by decide +kernel
theorem dX9_come_49 : decode cX9_come 49 = .ok (.iload_n 3, 1) := by decide +kernel
theorem dX9_come_50 : decode cX9_come 50 = .ok (.invokevirtual 158, 3) := by decide +kernel
theorem dX9_come_53 : decode cX9_come 53 = .ok (.aload_n 0, 1) := by decide +kernel
theorem dX9_come_54 : decode cX9_come 54 = .ok (.iload_n 1, 1) := by decide +kernel
theorem dX9_come_55 : decode cX9_come 55 = .ok (.iconst 0, 1) := by decide +kernel
theorem dX9_come_56 : decode cX9_come 56 = .ok (.iload_n 3, 1) := by decide +kernel
theorem dX9_come_57 : decode cX9_come 57 = .ok (.invokevirtual 158, 3) := by decide +kernel
theorem dX9_come_60 : decode cX9_come 60 = .ok (.invokevirtual 173, 3) := by decide +kernel
theorem dX9_come_63 : decode cX9_come 63 = .ok (.aload_n 0, 1) := by decide +kernel
theorem dX9_come_64 : decode cX9_come 64 = .ok (.getfield 48, 3) := by decide +kernel
theorem dX9_come_67 : decode cX9_come 67 = .ok (.aload_n 0, 1) := by decide +kernel
theorem dX9_come_68 : decode cX9_come 68 = .ok (.iload_n 1, 1) := by decide +kernel
theorem dX9_come_69 : decode cX9_come 69 = .ok (.iconst 1, 1) := by decide +kernel
theorem dX9_come_70 : decode cX9_come 70 = .ok (.iload_n 3, 1) := by decide +kernel
theorem dX9_come_71 : decode cX9_come 71 = .ok (.invokevirtual 158, 3) := by decide +kernel
theorem dX9_come_74 : decode cX9_come 74 = .ok (.iconst 0, 1) := by decide +kernel
theorem dX9_come_75 : decode cX9_come 75 = .ok (.bastore, 1) := by decide +kernel
theorem dX9_come_76 : decode cX9_come 76 = .ok (.iinc 3 1, 3) := by decide +kernel
theorem dX9_come_79 : decode cX9_come 79 = .ok (.goto (-70), 3) := by decide +kernel
theorem dX9_come_82 : decode cX9_come 82 = .ok (.iload_n 2, 1) := by decide +kernel
theorem dX9_come_83 : decode cX9_come 83 = .ok (.sipush 200, 3) := by decide +kernel
theorem dX9_come_86 : decode cX9_come 86 = .ok (.if_icmp .ne 11, 3) := by decide +kernel
theorem dX9_come_89 : decode cX9_come 89 = .ok (.aload_n 0, 1) := by decide +kernel
theorem dX9_come_90 : decode cX9_come 90 = .ok (.getfield 42, 3) := by decide +kernel
theorem dX9_come_93 : decode cX9_come 93 = .ok (.iload_n 1, 1) := by decide +kernel
theorem dX9_come_94 : decode cX9_come 94 = .ok (.iconst 1, 1) := by decide +kernel
theorem dX9_come_95 : decode cX9_come 95 = .ok (.bastore, 1) := by decide +kernel
theorem dX9_come_96 : decode cX9_come 96 = .ok (.return_, 1) := by decide +kernel
theorem dX9_come_97 : decode cX9_come 97 = .ok (.aload_n 0, 1) := by decide +kernel
theorem dX9_come_98 : decode cX9_come 98 = .ok (.getfield 128, 3) := by decide +kernel
theorem dX9_come_101 : decode cX9_come 101 = .ok (.ifCond .ne 10, 3) := by decide +kernel
theorem dX9_come_104 : decode cX9_come 104 = .ok (.iload_n 2, 1) := by decide +kernel
theorem dX9_come_105 : decode cX9_come 105 = .ok (.ifCond .ne 20, 3) := by decide +kernel
theorem dX9_come_108 : decode cX9_come 108 = .ok (.goto 12, 3) := by decide +kernel
theorem dX9_come_111 : decode cX9_come 111 = .ok (.iload_n 2, 1) := by decide +kernel
theorem dX9_come_112 : decode cX9_come 112 = .ok (.aload_n 0, 1) := by decide +kernel
theorem dX9_come_113 : decode cX9_come 113 = .ok (.getfield 128, 3) := by decide +kernel
theorem dX9_come_116 : decode cX9_come 116 = .ok (.irem, 1) := by decide +kernel
theorem dX9_come_117 : decode cX9_come 117 = .ok (.ifCond .ne 8, 3) := by decide +kernel
theorem dX9_come_120 : decode cX9_come 120 = .ok (.aload_n 0, 1) := by decide +kernel
theorem dX9_come_121 : decode cX9_come 121 = .ok (.iload_n 1, 1) := by decide +kernel
theorem dX9_come_122 : decode cX9_come 122 = .ok (.invokevirtual 184, 3) := by decide +kernel
theorem dX9_come_125 : decode cX9_come 125 = .ok (.aload_n 0, 1) := by decide +kernel
theorem dX9_come_126 : decode cX9_come 126 = .ok (.iload_n 1, 1) := by decide +kernel
theorem dX9_come_127 : decode cX9_come 127 = .ok (.invokevirtual 187, 3) := by decide +kernel
theorem dX9_come_130 : decode cX9_come 130 = .ok (.return_, 1) := by decide +kernel
theorem dX9_begin_0 : decode cX9_begin 0 = .ok (.iconst 0, 1) := by decide +kernel
theorem dX9_begin_1 : decode cX9_begin 1 = .ok (.istore_n 1, 1) := by decide +kernel
theorem dX9_begin_2 : decode cX9_begin 2 = .ok (.iload_n 1, 1) := by decide +kernel
theorem dX9_begin_3 : decode cX9_begin 3 = .ok (.bipush 16, 2) := by decide +kernel
theorem dX9_begin_5 : decode cX9_begin 5 = .ok (.if_icmp .ge 16, 3) := by decide +kernel
theorem dX9_begin_8 : decode cX9_begin 8 = .ok (.aload_n 0, 1) := by decide +kernel
theorem dX9_begin_9 : decode cX9_begin 9 = .ok (.getfield 93, 3) := by decide +kernel
theorem dX9_begin_12 : decode cX9_begin 12 = .ok (.iload_n 1, 1) := by decide +kernel
theorem dX9_begin_13 : decode cX9_begin 13 = .ok (.iconst 0, 1) := by decide +kernel
theorem dX9_begin_14 : decode cX9_begin 14 = .ok (.bastore, 1) := by decide +kernel
theorem dX9_begin_15 : decode cX9_begin 15 = .ok (.iinc 1 1, 3) := by decide +kernel
theorem dX9_begin_18 : decode cX9_begin 18 = .ok (.goto (-16), 3) := by decide +kernel
theorem dX9_begin_21 : decode cX9_begin 21 = .ok (.return_, 1) := by decide +kernel
theorem dX9_hear_0 : decode cX9_hear 0 = .ok (.aload_n 0, 1) := by decide +kernel
theorem dX9_hear_1 : decode cX9_hear 1 = .ok (.getfield 93, 3) := by decide +kernel
theorem dX9_hear_4 : decode cX9_hear 4 = .ok (.iload_n 1, 1) := by decide +kernel
theorem dX9_hear_5 : decode cX9_hear 5 = .ok (.baload, 1) := by decide +kernel
theorem dX9_hear_6 : decode cX9_hear 6 = .ok (.ifCond .ne 20, 3) := by decide +kernel
theorem dX9_hear_9 : decode cX9_hear 9 = .ok (.aload_n 0, 1) := by decide +kernel
theorem dX9_hear_10 : decode cX9_hear 10 = .ok (.getfield 96, 3) := by decide +kernel
theorem dX9_hear_13 : decode cX9_hear 13 = .ok (.iload_n 1, 1) := by decide +kernel
theorem dX9_hear_14 : decode cX9_hear 14 = .ok (.iload_n 2, 1) := by decide +kernel
theorem dX9_hear_15 : decode cX9_hear 15 = .ok (.iastore, 1) := by decide +kernel
theorem dX9_hear_16 : decode cX9_hear 16 = .ok (.aload_n 0, 1) := by decide +kernel
theorem dX9_hear_17 : decode cX9_hear 17 = .ok (.getfield 99, 3) := by decide +kernel
theorem dX9_hear_20 : decode cX9_hear 20 = .ok (.iload_n 1, 1) := by decide +kernel
theorem dX9_hear_21 : decode cX9_hear 21 = .ok (.iload_n 3, 1) := by decide +kernel
theorem dX9_hear_22 : decode cX9_hear 22 = .ok (.iastore, 1) := by decide +kernel
theorem dX9_hear_23 : decode cX9_hear 23 = .ok (.goto 55, 3) := by decide +kernel
theorem dX9_hear_26 : decode cX9_hear 26 = .ok (.aload_n 0, 1) := by decide +kernel
theorem dX9_hear_27 : decode cX9_hear 27 = .ok (.getfield 121, 3) := by decide +kernel
theorem dX9_hear_30 : decode cX9_hear 30 = .ok (.iconst 3, 1) := by decide +kernel
theorem dX9_hear_31 : decode cX9_hear 31 = .ok (.if_icmp .ge 23, 3) := by decide +kernel
theorem dX9_hear_34 : decode cX9_hear 34 = .ok (.aload_n 0, 1) := by decide +kernel
theorem dX9_hear_35 : decode cX9_hear 35 = .ok (.getfield 96, 3) := by decide +kernel
theorem dX9_hear_38 : decode cX9_hear 38 = .ok (.iload_n 1, 1) := by decide +kernel
theorem dX9_hear_39 : decode cX9_hear 39 = .ok (.aload_n 0, 1) := by decide +kernel
theorem dX9_hear_40 : decode cX9_hear 40 = .ok (.aload_n 0, 1) := by decide +kernel
theorem dX9_hear_41 : decode cX9_hear 41 = .ok (.getfield 96, 3) := by decide +kernel
theorem dX9_hear_44 : decode cX9_hear 44 = .ok (.iload_n 1, 1) := by decide +kernel
theorem dX9_hear_45 : decode cX9_hear 45 = .ok (.iaload, 1) := by decide +kernel
theorem dX9_hear_46 : decode cX9_hear 46 = .ok (.iload_n 2, 1) := by decide +kernel
theorem dX9_hear_47 : decode cX9_hear 47 = .ok (.invokevirtual 154, 3) := by decide +kernel
theorem dX9_hear_50 : decode cX9_hear 50 = .ok (.iastore, 1) := by decide +kernel
theorem dX9_hear_51 : decode cX9_hear 51 = .ok (.goto 27, 3) := by decide +kernel
theorem dX9_hear_54 : decode cX9_hear 54 = .ok (.iload_n 3, 1) := by decide +kernel
theorem dX9_hear_55 : decode cX9_hear 55 = .ok (.aload_n 0, 1) := by decide +kernel
theorem dX9_hear_56 : decode cX9_hear 56 = .ok (.getfield 99, 3) := by decide +kernel
theorem dX9_hear_59 : decode cX9_hear 59 = .ok (.iload_n 1, 1) := by decide +kernel
theorem dX9_hear_60 : decode cX9_hear 60 = .ok (.iaload, 1) := by decide +kernel
theorem dX9_hear_61 : decode cX9_hear 61 = .ok (.if_icmp .le 17, 3) := by decide +kernel
theorem dX9_hear_64 : decode cX9_hear 64 = .ok (.aload_n 0, 1) := by decide +kernel
theorem dX9_hear_65 : decode cX9_hear 65 = .ok (.getfield 96, 3) := by decide +kernel
theorem dX9_hear_68 : decode cX9_hear 68 = .ok (.iload_n 1, 1) := by decide +kernel
theorem dX9_hear_69 : decode cX9_hear 69 = .ok (.iload_n 2, 1) := by decide +kernel
theorem dX9_hear_70 : decode cX9_hear 70 = .ok (.iastore, 1) := by decide +kernel
theorem dX9_hear_71 : decode cX9_hear 71 = .ok (.aload_n 0, 1) := by decide +kernel
theorem dX9_hear_72 : decode cX9_hear 72 = .ok (.getfield 99, 3) := by decide +kernel
theorem dX9_hear_75 : decode cX9_hear 75 = .ok (.iload_n 1, 1) := by decide +kernel
theorem dX9_hear_76 : decode cX9_hear 76 = .ok (.iload_n 3, 1) := by decide +kernel
theorem dX9_hear_77 : decode cX9_hear 77 = .ok (.iastore, 1) := by decide +kernel
theorem dX9_hear_78 : decode cX9_hear 78 = .ok (.aload_n 0, 1) := by decide +kernel
theorem dX9_hear_79 : decode cX9_hear 79 = .ok (.getfield 93, 3) := by decide +kernel
theorem dX9_hear_82 : decode cX9_hear 82 = .ok (.iload_n 1, 1) := by decide +kernel
theorem dX9_hear_83 : decode cX9_hear 83 = .ok (.iconst 1, 1) := by decide +kernel
theorem dX9_hear_84 : decode cX9_hear 84 = .ok (.bastore, 1) := by decide +kernel
theorem dX9_hear_85 : decode cX9_hear 85 = .ok (.return_, 1) := by decide +kernel
theorem dX9_behind_0 : decode cX9_behind 0 = .ok (.aload_n 0, 1) := by decide +kernel
theorem dX9_behind_1 : decode cX9_behind 1 = .ok (.getfield 121, 3) := by decide +kernel
theorem dX9_behind_4 : decode cX9_behind 4 = .ok (.iconst 2, 1) := by decide +kernel
theorem dX9_behind_5 : decode cX9_behind 5 = .ok (.if_icmp .ne 23, 3) := by decide +kernel
theorem dX9_behind_8 : decode cX9_behind 8 = .ok (.aload_n 0, 1) := by decide +kernel
theorem dX9_behind_9 : decode cX9_behind 9 = .ok (.getfield 93, 3) := by decide +kernel
theorem dX9_behind_12 : decode cX9_behind 12 = .ok (.iload_n 1, 1) := by decide +kernel
theorem dX9_behind_13 : decode cX9_behind 13 = .ok (.baload, 1) := by decide +kernel
theorem dX9_behind_14 : decode cX9_behind 14 = .ok (.ifCond .eq 12, 3) := by decide +kernel
theorem dX9_behind_17 : decode cX9_behind 17 = .ok (.aload_n 0, 1) := by decide +kernel
theorem dX9_behind_18 : decode cX9_behind 18 = .ok (.getfield 96, 3) := by decide +kernel
theorem dX9_behind_21 : decode cX9_behind 21 = .ok (.iload_n 1, 1) := by decide +kernel
theorem dX9_behind_22 : decode cX9_behind 22 = .ok (.iaload, 1) := by decide +kernel
theorem dX9_behind_23 : decode cX9_behind 23 = .ok (.goto 4, 3) := by decide +kernel
theorem dX9_behind_26 : decode cX9_behind 26 = .ok (.iconst 0, 1) := by decide +kernel
theorem dX9_behind_27 : decode cX9_behind 27 = .ok (.ireturn, 1) := by decide +kernel
theorem dX9_behind_28 : decode cX9_behind 28 = .ok (.aload_n 0, 1) := by decide +kernel
theorem dX9_behind_29 : decode cX9_behind 29 = .ok (.getfield 93, 3) := by decide +kernel
theorem dX9_behind_32 : decode cX9_behind 32 = .ok (.iload_n 1, 1) := by decide +kernel
theorem dX9_behind_33 : decode cX9_behind 33 = .ok (.baload, 1) := by decide +kernel
theorem dX9_behind_34 : decode cX9_behind 34 = .ok (.ifCond .ne 7, 3) := by decide +kernel
theorem dX9_behind_37 : decode cX9_behind 37 = .ok (.iload_n 2, 1) := by decide +kernel
theorem dX9_behind_38 : decode cX9_behind 38 = .ok (.goto 31, 3) := by decide +kernel
theorem dX9_behind_41 : decode cX9_behind 41 = .ok (.aload_n 0, 1) := by decide +kernel
theorem dX9_behind_42 : decode cX9_behind 42 = .ok (.getfield 121, 3) := by decide +kernel
theorem dX9_behind_45 : decode cX9_behind 45 = .ok (.iconst 3, 1) := by decide +kernel
theorem dX9_behind_46 : decode cX9_behind 46 = .ok (.if_icmp .ne 12, 3) := by decide +kernel
theorem dX9_behind_49 : decode cX9_behind 49 = .ok (.aload_n 0, 1) := by decide +kernel
theorem dX9_behind_50 : decode cX9_behind 50 = .ok (.getfield 96, 3) := by decide +kernel
theorem dX9_behind_53 : decode cX9_behind 53 = .ok (.iload_n 1, 1) := by decide +kernel
theorem dX9_behind_54 : decode cX9_behind 54 = .ok (.iaload, 1) := by decide +kernel
theorem dX9_behind_55 : decode cX9_behind 55 = .ok (.goto 14, 3) := by decide +kernel
theorem dX9_behind_58 : decode cX9_behind 58 = .ok (.aload_n 0, 1) := by decide +kernel
theorem dX9_behind_59 : decode cX9_behind 59 = .ok (.iload_n 2, 1) := by decide +kernel
theorem dX9_behind_60 : decode cX9_behind 60 = .ok (.aload_n 0, 1) := by decide +kernel
theorem dX9_behind_61 : decode cX9_behind 61 = .ok (.getfield 96, 3) := by decide +kernel
theorem dX9_behind_64 : decode cX9_behind 64 = .ok (.iload_n 1, 1) := by decide +kernel
theorem dX9_behind_65 : decode cX9_behind 65 = .ok (.iaload, 1) := by decide +kernel
theorem dX9_behind_66 : decode cX9_behind 66 = .ok (.invokevirtual 154, 3) := by decide +kernel
theorem dX9_behind_69 : decode cX9_behind 69 = .ok (.ireturn, 1) := by decide +kernel
theorem dX9_take_0 : decode cX9_take 0 = .ok (.aload_n 0, 1) := by decide +kernel
theorem dX9_take_1 : decode cX9_take 1 = .ok (.invokevirtual 190, 3) := by decide +kernel
theorem dX9_take_4 : decode cX9_take 4 = .ok (.iconst 0, 1) := by decide +kernel
theorem dX9_take_5 : decode cX9_take 5 = .ok (.istore_n 2, 1) := by decide +kernel
theorem dX9_take_6 : decode cX9_take 6 = .ok (.iload_n 2, 1) := by decide +kernel
theorem dX9_take_7 : decode cX9_take 7 = .ok (.aload_n 0, 1) := by decide +kernel
theorem dX9_take_8 : decode cX9_take 8 = .ok (.getfield 118, 3) := by decide +kernel
theorem dX9_take_11 : decode cX9_take 11 = .ok (.if_icmp .ge 85, 3) := by decide +kernel
theorem dX9_take_14 : decode cX9_take 14 = .ok (.aload_n 0, 1) := by decide +kernel
theorem dX9_take_15 : decode cX9_take 15 = .ok (.getfield 27, 3) := by decide +kernel
theorem dX9_take_18 : decode cX9_take 18 = .ok (.aload_n 0, 1) := by decide +kernel
theorem dX9_take_19 : decode cX9_take 19 = .ok (.getfield 30, 3) := by decide +kernel
theorem dX9_take_22 : decode cX9_take 22 = .ok (.iload_n 2, 1) := by decide +kernel
theorem dX9_take_23 : decode cX9_take 23 = .ok (.iaload, 1) := by decide +kernel
theorem dX9_take_24 : decode cX9_take 24 = .ok (.iaload, 1) := by decide +kernel
theorem dX9_take_25 : decode cX9_take 25 = .ok (.iload_n 1, 1) := by decide +kernel
theorem dX9_take_26 : decode cX9_take 26 = .ok (.if_icmp .ne 64, 3) := by decide +kernel
theorem dX9_take_29 : decode cX9_take 29 = .ok (.aload_n 0, 1) := by decide +kernel
theorem dX9_take_30 : decode cX9_take 30 = .ok (.getfield 27, 3) := by decide +kernel
theorem dX9_take_33 : decode cX9_take 33 = .ok (.aload_n 0, 1) := by decide +kernel
theorem dX9_take_34 : decode cX9_take 34 = .ok (.getfield 33, 3) := by decide +kernel
theorem dX9_take_37 : decode cX9_take 37 = .ok (.iload_n 2, 1) := by decide +kernel
theorem dX9_take_38 : decode cX9_take 38 = .ok (.iaload, 1) := by decide +kernel
theorem dX9_take_39 : decode cX9_take 39 = .ok (.iaload, 1) := by decide +kernel
theorem dX9_take_40 : decode cX9_take 40 = .ok (.iload_n 1, 1) := by decide +kernel
theorem dX9_take_41 : decode cX9_take 41 = .ok (.if_icmp .ne 49, 3) := by decide +kernel
theorem dX9_take_44 : decode cX9_take 44 = .ok (.aload_n 0, 1) := by decide +kernel
theorem dX9_take_45 : decode cX9_take 45 = .ok (.getfield 23, 3) := by decide +kernel
theorem dX9_take_48 : decode cX9_take 48 = .ok (.aload_n 0, 1) := by decide +kernel
theorem dX9_take_49 : decode cX9_take 49 = .ok (.getfield 30, 3) := by decide +kernel
theorem dX9_take_52 : decode cX9_take 52 = .ok (.iload_n 2, 1) := by decide +kernel
theorem dX9_take_53 : decode cX9_take 53 = .ok (.iaload, 1) := by decide +kernel
theorem dX9_take_54 : decode cX9_take 54 = .ok (.baload, 1) := by decide +kernel
theorem dX9_take_55 : decode cX9_take 55 = .ok (.ifCond .eq 35, 3) := by decide +kernel
theorem dX9_take_58 : decode cX9_take 58 = .ok (.aload_n 0, 1) := by decide +kernel
theorem dX9_take_59 : decode cX9_take 59 = .ok (.aload_n 0, 1) := by decide +kernel
theorem dX9_take_60 : decode cX9_take 60 = .ok (.getfield 33, 3) := by decide +kernel
theorem dX9_take_63 : decode cX9_take 63 = .ok (.iload_n 2, 1) := by decide +kernel
theorem dX9_take_64 : decode cX9_take 64 = .ok (.iaload, 1) := by decide +kernel
theorem dX9_take_65 : decode cX9_take 65 = .ok (.aload_n 0, 1) := by decide +kernel
theorem dX9_take_66 : decode cX9_take 66 = .ok (.aload_n 0, 1) := by decide +kernel
theorem dX9_take_67 : decode cX9_take 67 = .ok (.getfield 17, 3) := by decide +kernel
theorem dX9_take_70 : decode cX9_take 70 = .ok (.aload_n 0, 1) := by decide +kernel
theorem dX9_take_71 : decode cX9_take 71 = .ok (.getfield 30, 3) := by decide +kernel
theorem dX9_take_74 : decode cX9_take 74 = .ok (.iload_n 2, 1) := by decide +kernel
theorem dX9_take_75 : decode cX9_take 75 = .ok (.iaload, 1) := by decide +kernel
theorem dX9_take_76 : decode cX9_take 76 = .ok (.iaload, 1) := by decide +kernel
theorem dX9_take_77 : decode cX9_take 77 = .ok (.aload_n 0, 1) := by decide +kernel
theorem dX9_take_78 : decode cX9_take 78 = .ok (.getfield 36, 3) := by decide +kernel
theorem dX9_take_81 : decode cX9_take 81 = .ok (.iload_n 2, 1) := by decide +kernel
theorem dX9_take_82 : decode cX9_take 82 = .ok (.iaload, 1) := by decide +kernel
theorem dX9_take_83 : decode cX9_take 83 = .ok (.invokevirtual 166, 3) := by decide +kernel
theorem dX9_take_86 : decode cX9_take 86 = .ok (.iload_n 2, 1) := by decide +kernel
theorem dX9_take_87 : decode cX9_take 87 = .ok (.invokevirtual 193, 3) := by decide +kernel
theorem dX9_take_90 : decode cX9_take 90 = .ok (.iinc 2 1, 3) := by decide +kernel
theorem dX9_take_93 : decode cX9_take 93 = .ok (.goto (-87), 3) := by decide +kernel
theorem dX9_take_96 : decode cX9_take 96 = .ok (.iconst 0, 1) := by decide +kernel
theorem dX9_take_97 : decode cX9_take 97 = .ok (.istore_n 2, 1) := by decide +kernel
theorem dX9_take_98 : decode cX9_take 98 = .ok (.iload_n 2, 1) := by decide +kernel
theorem dX9_take_99 : decode cX9_take 99 = .ok (.aload_n 0, 1) := by decide +kernel
theorem dX9_take_100 : decode cX9_take 100 = .ok (.getfield 7, 3) := by decide +kernel
theorem dX9_take_103 : decode cX9_take 103 = .ok (.if_icmp .ge 76, 3) := by decide +kernel
theorem dX9_take_106 : decode cX9_take 106 = .ok (.aload_n 0, 1) := by decide +kernel
theorem dX9_take_107 : decode cX9_take 107 = .ok (.iload_n 1, 1) := by decide +kernel
theorem dX9_take_108 : decode cX9_take 108 = .ok (.iconst 0, 1) := by decide +kernel
theorem dX9_take_109 : decode cX9_take 109 = .ok (.iload_n 2, 1) := by decide +kernel
theorem dX9_take_110 : decode cX9_take 110 = .ok (.invokevirtual 181, 3) := by decide +kernel
theorem dX9_take_113 : decode cX9_take 113 = .ok (.istore_n 3, 1) := by decide +kernel
theorem dX9_take_114 : decode cX9_take 114 = .ok (.iconst 0, 1) := by decide +kernel
theorem dX9_take_115 : decode cX9_take 115 = .ok (.istore 4, 2) := by decide +kernel
theorem dX9_take_117 : decode cX9_take 117 = .ok (.iload_n 2, 1) := by decide +kernel
theorem dX9_take_118 : decode cX9_take 118 = .ok (.iload_n 1, 1) := by decide +kernel
theorem dX9_take_119 : decode cX9_take 119 = .ok (.if_icmp .eq 54, 3) := by decide +kernel
theorem dX9_take_122 : decode cX9_take 122 = .ok (.iload 4, 2) := by decide +kernel
theorem dX9_take_124 : decode cX9_take 124 = .ok (.aload_n 0, 1) := by decide +kernel
theorem dX9_take_125 : decode cX9_take 125 = .ok (.getfield 66, 3) := by decide +kernel
theorem dX9_take_128 : decode cX9_take 128 = .ok (.iload_n 3, 1) := by decide +kernel
theorem dX9_take_129 : decode cX9_take 129 = .ok (.iaload, 1) := by decide +kernel
theorem dX9_take_130 : decode cX9_take 130 = .ok (.if_icmp .ge 43, 3) := by decide +kernel
theorem dX9_take_133 : decode cX9_take 133 = .ok (.bipush 40, 2) := by decide +kernel
theorem dX9_take_135 : decode cX9_take 135 = .ok (.iload_n 3, 1) := by decide +kernel
theorem dX9_take_136 : decode cX9_take 136 = .ok (.imul, 1) := by decide +kernel
theorem dX9_take_137 : decode cX9_take 137 = .ok (.iload 4, 2) := by decide +kernel
theorem dX9_take_139 : decode cX9_take 139 = .ok (.iadd, 1) := by decide +kernel
theorem dX9_take_140 : decode cX9_take 140 = .ok (.istore 5, 2) := by decide +kernel
theorem dX9_take_142 : decode cX9_take 142 = .ok (.aload_n 0, 1) := by decide +kernel
theorem dX9_take_143 : decode cX9_take 143 = .ok (.aload_n 0, 1) := by decide +kernel
theorem dX9_take_144 : decode cX9_take 144 = .ok (.getfield 69, 3) := by decide +kernel
theorem dX9_take_147 : decode cX9_take 147 = .ok (.iload 5, 2) := by decide +kernel
theorem dX9_take_149 : decode cX9_take 149 = .ok (.iaload, 1) := by decide +kernel
theorem dX9_take_150 : decode cX9_take 150 = .ok (.aload_n 0, 1) := by decide +kernel
theorem dX9_take_151 : decode cX9_take 151 = .ok (.getfield 72, 3) := by decide +kernel
theorem dX9_take_154 : decode cX9_take 154 = .ok (.iload 5, 2) := by decide +kernel
theorem dX9_take_156 : decode cX9_take 156 = .ok (.iaload, 1) := by decide +kernel
theorem dX9_take_157 : decode cX9_take 157 = .ok (.aload_n 0, 1) := by decide +kernel
theorem dX9_take_158 : decode cX9_take 158 = .ok (.getfield 75, 3) := by decide +kernel
theorem dX9_take_161 : decode cX9_take 161 = .ok (.iload 5, 2) := by decide +kernel
theorem dX9_take_163 : decode cX9_take 163 = .ok (.iaload, 1) := by decide +kernel
theorem dX9_take_164 : decode cX9_take 164 = .ok (.invokevirtual 193, 3) := by decide +kernel
theorem dX9_take_167 : decode cX9_take 167 = .ok (.iinc 4 1, 3) := by decide +kernel
theorem dX9_take_170 : decode cX9_take 170 = .ok (.goto (-53), 3) := by decide +kernel
theorem dX9_take_173 : decode cX9_take 173 = .ok (.iinc 2 1, 3) := by decide +kernel
theorem dX9_take_176 : decode cX9_take 176 = .ok (.goto (-78), 3) := by decide +kernel
theorem dX9_take_179 : decode cX9_take 179 = .ok (.iconst 0, 1) := by decide +kernel
theorem dX9_take_180 : decode cX9_take 180 = .ok (.istore_n 2, 1) := by decide +kernel
theorem dX9_take_181 : decode cX9_take 181 = .ok (.iload_n 2, 1) := by decide +kernel
theorem dX9_take_182 : decode cX9_take 182 = .ok (.aload_n 0, 1) := by decide +kernel
theorem dX9_take_183 : decode cX9_take 183 = .ok (.getfield 115, 3) := by decide +kernel
theorem dX9_take_186 : decode cX9_take 186 = .ok (.if_icmp .ge 101, 3) := by decide +kernel
theorem dX9_take_189 : decode cX9_take 189 = .ok (.aload_n 0, 1) := by decide +kernel
theorem dX9_take_190 : decode cX9_take 190 = .ok (.getfield 27, 3) := by decide +kernel
theorem dX9_take_193 : decode cX9_take 193 = .ok (.iload_n 2, 1) := by decide +kernel
theorem dX9_take_194 : decode cX9_take 194 = .ok (.iaload, 1) := by decide +kernel
theorem dX9_take_195 : decode cX9_take 195 = .ok (.iload_n 1, 1) := by decide +kernel
theorem dX9_take_196 : decode cX9_take 196 = .ok (.if_icmp .ne 85, 3) := by decide +kernel
theorem dX9_take_199 : decode cX9_take 199 = .ok (.aload_n 0, 1) := by decide +kernel
theorem dX9_take_200 : decode cX9_take 200 = .ok (.iload_n 2, 1) := by decide +kernel
theorem dX9_take_201 : decode cX9_take 201 = .ok (.aload_n 0, 1) := by decide +kernel
theorem dX9_take_202 : decode cX9_take 202 = .ok (.getfield 17, 3) := by decide +kernel
theorem dX9_take_205 : decode cX9_take 205 = .ok (.iload_n 2, 1) := by decide +kernel
theorem dX9_take_206 : decode cX9_take 206 = .ok (.iaload, 1) := by decide +kernel
theorem dX9_take_207 : decode cX9_take 207 = .ok (.invokevirtual 196, 3) := by decide +kernel
theorem dX9_take_210 : decode cX9_take 210 = .ok (.istore_n 3, 1) := by decide +kernel
theorem dX9_take_211 : decode cX9_take 211 = .ok (.aload_n 0, 1) := by decide +kernel
theorem dX9_take_212 : decode cX9_take 212 = .ok (.getfield 23, 3) := by decide +kernel
theorem dX9_take_215 : decode cX9_take 215 = .ok (.iload_n 2, 1) := by decide +kernel
theorem dX9_take_216 : decode cX9_take 216 = .ok (.aload_n 0, 1) := by decide +kernel
theorem dX9_take_217 : decode cX9_take 217 = .ok (.getfield 121, 3) := by decide +kernel
theorem dX9_take_220 : decode cX9_take 220 = .ok (.iconst 2, 1) := by decide +kernel
theorem dX9_take_221 : decode cX9_take 221 = .ok (.if_icmp .ne 15, 3) := by decide +kernel
theorem dX9_take_224 : decode cX9_take 224 = .ok (.iload_n 3, 1) := by decide +kernel
theorem dX9_take_225 : decode cX9_take 225 = .ok (.ifCond .eq 7, 3) := by decide +kernel
theorem dX9_take_228 : decode cX9_take 228 = .ok (.iconst 1, 1) := by decide +kernel
theorem dX9_take_229 : decode cX9_take 229 = .ok (.goto 22, 3) := by decide +kernel
theorem dX9_take_232 : decode cX9_take 232 = .ok (.iconst 0, 1) := by decide +kernel
theorem dX9_take_233 : decode cX9_take 233 = .ok (.goto 18, 3) := by decide +kernel
theorem dX9_take_236 : decode cX9_take 236 = .ok (.iload_n 3, 1) := by decide +kernel
theorem dX9_take_237 : decode cX9_take 237 = .ok (.aload_n 0, 1) := by decide +kernel
theorem dX9_take_238 : decode cX9_take 238 = .ok (.getfield 17, 3) := by decide +kernel
theorem dX9_take_241 : decode cX9_take 241 = .ok (.iload_n 2, 1) := by decide +kernel
theorem dX9_take_242 : decode cX9_take 242 = .ok (.iaload, 1) := by decide +kernel
theorem dX9_take_243 : decode cX9_take 243 = .ok (.if_icmp .eq 7, 3) := by decide +kernel
theorem dX9_take_246 : decode cX9_take 246 = .ok (.iconst 1, 1) := by decide +kernel
theorem dX9_take_247 : decode cX9_take 247 = .ok (.goto 4, 3) := by decide +kernel
theorem dX9_take_250 : decode cX9_take 250 = .ok (.iconst 0, 1) := by decide +kernel
theorem dX9_take_251 : decode cX9_take 251 = .ok (.bastore, 1) := by decide +kernel
theorem dX9_take_252 : decode cX9_take 252 = .ok (.aload_n 0, 1) := by decide +kernel
theorem dX9_take_253 : decode cX9_take 253 = .ok (.getfield 17, 3) := by decide +kernel
theorem dX9_take_256 : decode cX9_take 256 = .ok (.iload_n 2, 1) := by decide +kernel
theorem dX9_take_257 : decode cX9_take 257 = .ok (.iload_n 3, 1) := by decide +kernel
theorem dX9_take_258 : decode cX9_take 258 = .ok (.iastore, 1) := by decide +kernel
theorem dX9_take_259 : decode cX9_take 259 = .ok (.aload_n 0, 1) := by decide +kernel
theorem dX9_take_260 : decode cX9_take 260 = .ok (.getfield 20, 3) := by decide +kernel
theorem dX9_take_263 : decode cX9_take 263 = .ok (.iload_n 2, 1) := by decide +kernel
theorem dX9_take_264 : decode cX9_take 264 = .ok (.dup2, 1) := by decide +kernel
theorem dX9_take_265 : decode cX9_take 265 = .ok (.iaload, 1) := by decide +kernel
theorem dX9_take_266 : decode cX9_take 266 = .ok (.aload_n 0, 1) := by decide +kernel
theorem dX9_take_267 : decode cX9_take 267 = .ok (.getfield 121, 3) := by decide +kernel
theorem dX9_take_270 : decode cX9_take 270 = .ok (.iconst 2, 1) := by decide +kernel
theorem dX9_take_271 : decode cX9_take 271 = .ok (.if_icmp .ne 7, 3) := by decide +kernel
theorem dX9_take_274 : decode cX9_take 274 = .ok (.iload_n 3, 1) := by decide +kernel
theorem dX9_take_275 : decode cX9_take 275 = .ok (.goto 4, 3) := by decide +kernel
theorem dX9_take_278 : decode cX9_take 278 = .ok (.iconst 0, 1) := by decide +kernel
theorem dX9_take_279 : decode cX9_take 279 = .ok (.iadd, 1) := by decide +kernel
theorem dX9_take_280 : decode cX9_take 280 = .ok (.iastore, 1) := by decide +kernel
theorem dX9_take_281 : decode cX9_take 281 = .ok (.iinc 2 1, 3) := by decide +kernel
theorem dX9_take_284 : decode cX9_take 284 = .ok (.goto (-103), 3) := by decide +kernel
theorem dX9_take_287 : decode cX9_take 287 = .ok (.return_, 1) := by decide +kernel
theorem dX9_letters_0 : decode cX9_letters 0 = .ok (.iconst 0, 1) := by decide +kernel
theorem dX9_letters_1 : decode cX9_letters 1 = .ok (.istore_n 2, 1) := by decide +kernel
theorem dX9_letters_2 : decode cX9_letters 2 = .ok (.iconst 0, 1) := by decide +kernel
theorem dX9_letters_3 : decode cX9_letters 3 = .ok (.istore_n 3, 1) := by decide +kernel
theorem dX9_letters_4 : decode cX9_letters 4 = .ok (.iload_n 3, 1) := by decide +kernel
theorem dX9_letters_5 : decode cX9_letters 5 = .ok (.aload_n 0, 1) := by decide +kernel
theorem dX9_letters_6 : decode cX9_letters 6 = .ok (.getfield 7, 3) := by decide +kernel
theorem dX9_letters_9 : decode cX9_letters 9 = .ok (.if_icmp .ge 32, 3) := by decide +kernel
theorem dX9_letters_12 : decode cX9_letters 12 = .ok (.iload_n 2, 1) := by decide +kernel
theorem dX9_letters_13 : decode cX9_letters 13 = .ok (.aload_n 0, 1) := by decide +kernel
theorem dX9_letters_14 : decode cX9_letters 14 = .ok (.getfield 48, 3) := by decide +kernel
theorem dX9_letters_17 : decode cX9_letters 17 = .ok (.aload_n 0, 1) := by decide +kernel
theorem dX9_letters_18 : decode cX9_letters 18 = .ok (.iload_n 1, 1) := by decide +kernel
theorem dX9_letters_19 : decode cX9_letters 19 = .ok (.iconst 0, 1) := by decide +kernel
theorem dX9_letters_20 : decode cX9_letters 20 = .ok (.iload_n 3, 1) := by decide +kernel
theorem dX9_letters_21 : decode cX9_letters 21 = .ok (.invokevirtual 181, 3) := by decide +kernel
theorem dX9_letters_24 : decode cX9_letters 24 = .ok (.baload, 1) := by decide +kernel
theorem dX9_letters_25 : decode cX9_letters 25 = .ok (.ifCond .eq 7, 3) := by decide +kernel
theorem dX9_letters_28 : decode cX9_letters 28 = .ok (.iconst 1, 1) := by decide +kernel
theorem dX9_letters_29 : decode cX9_letters 29 = .ok (.goto 4, 3) := by decide +kernel
theorem dX9_letters_32 : decode cX9_letters 32 = .ok (.iconst 0, 1) := by decide +kernel
theorem dX9_letters_33 : decode cX9_letters 33 = .ok (.iadd, 1) := by decide +kernel
theorem dX9_letters_34 : decode cX9_letters 34 = .ok (.istore_n 2, 1) := by decide +kernel
theorem dX9_letters_35 : decode cX9_letters 35 = .ok (.iinc 3 1, 3) := by decide +kernel
theorem dX9_letters_38 : decode cX9_letters 38 = .ok (.goto (-34), 3) := by decide +kernel
theorem dX9_letters_41 : decode cX9_letters 41 = .ok (.iload_n 2, 1) := by decide +kernel
theorem dX9_letters_42 : decode cX9_letters 42 = .ok (.ireturn, 1) := by decide +kernel
theorem dX9_goOn_0 : decode cX9_goOn 0 = .ok (.aload_n 0, 1) := by decide +kernel
theorem dX9_goOn_1 : decode cX9_goOn 1 = .ok (.getfield 42, 3) := by decide +kernel
theorem dX9_goOn_4 : decode cX9_goOn 4 = .ok (.iload_n 1, 1) := by decide +kernel
theorem dX9_goOn_5 : decode cX9_goOn 5 = .ok (.baload, 1) := by decide +kernel
theorem dX9_goOn_6 : decode cX9_goOn 6 = .ok (.ifCond .ne 98, 3) := by decide +kernel
theorem dX9_goOn_9 : decode cX9_goOn 9 = .ok (.aload_n 0, 1) := by decide +kernel
theorem dX9_goOn_10 : decode cX9_goOn 10 = .ok (.iload_n 1, 1) := by decide +kernel
theorem dX9_goOn_11 : decode cX9_goOn 11 = .ok (.invokevirtual 199, 3) := by decide +kernel
theorem dX9_goOn_14 : decode cX9_goOn 14 = .ok (.aload_n 0, 1) := by decide +kernel
theorem dX9_goOn_15 : decode cX9_goOn 15 = .ok (.getfield 7, 3) := by decide +kernel
theorem dX9_goOn_18 : decode cX9_goOn 18 = .ok (.iconst 1, 1) := by decide +kernel
theorem dX9_goOn_19 : decode cX9_goOn 19 = .ok (.isub, 1) := by decide +kernel
theorem dX9_goOn_20 : decode cX9_goOn 20 = .ok (.if_icmp .ne 84, 3) := by decide +kernel
theorem dX9_goOn_23 : decode cX9_goOn 23 = .ok (.aload_n 0, 1) := by decide +kernel
theorem dX9_goOn_24 : decode cX9_goOn 24 = .ok (.iload_n 1, 1) := by decide +kernel
theorem dX9_goOn_25 : decode cX9_goOn 25 = .ok (.invokevirtual 162, 3) := by decide +kernel
theorem dX9_goOn_28 : decode cX9_goOn 28 = .ok (.istore_n 2, 1) := by decide +kernel
theorem dX9_goOn_29 : decode cX9_goOn 29 = .ok (.iconst 0, 1) := by decide +kernel
theorem dX9_goOn_30 : decode cX9_goOn 30 = .ok (.istore_n 3, 1) := by decide +kernel
theorem dX9_goOn_31 : decode cX9_goOn 31 = .ok (.iload_n 3, 1) := by decide +kernel
theorem dX9_goOn_32 : decode cX9_goOn 32 = .ok (.aload_n 0, 1) := by decide +kernel
theorem dX9_goOn_33 : decode cX9_goOn 33 = .ok (.getfield 7, 3) := by decide +kernel
theorem dX9_goOn_36 : decode cX9_goOn 36 = .ok (.if_icmp .ge 33, 3) := by decide +kernel
theorem dX9_goOn_39 : decode cX9_goOn 39 = .ok (.iload_n 2, 1) := by decide +kernel
theorem dX9_goOn_40 : decode cX9_goOn 40 = .ok (.iload_n 3, 1) := by decide +kernel
theorem dX9_goOn_41 : decode cX9_goOn 41 = .ok (.iload_n 1, 1) := by decide +kernel
theorem dX9_goOn_42 : decode cX9_goOn 42 = .ok (.if_icmp .ne 7, 3) := by decide +kernel
theorem dX9_goOn_45 : decode cX9_goOn 45 = .ok (.iconst 0, 1) := by decide +kernel
theorem dX9_goOn_46 : decode cX9_goOn 46 = .ok (.goto 15, 3) := by decide +kernel
theorem dX9_goOn_49 : decode cX9_goOn 49 = .ok (.aload_n 0, 1) := by decide +kernel
theorem dX9_goOn_50 : decode cX9_goOn 50 = .ok (.getfield 63, 3) := by decide +kernel
theorem dX9_goOn_53 : decode cX9_goOn 53 = .ok (.aload_n 0, 1) := by decide +kernel
theorem dX9_goOn_54 : decode cX9_goOn 54 = .ok (.iload_n 1, 1) := by decide +kernel
theorem dX9_goOn_55 : decode cX9_goOn 55 = .ok (.iconst 0, 1) := by decide +kernel
theorem dX9_goOn_56 : decode cX9_goOn 56 = .ok (.iload_n 3, 1) := by decide +kernel
theorem dX9_goOn_57 : decode cX9_goOn 57 = .ok (.invokevirtual 181, 3) := by decide +kernel
theorem dX9_goOn_60 : decode cX9_goOn 60 = .ok (.iaload, 1) := by decide +kernel
theorem dX9_goOn_61 : decode cX9_goOn 61 = .ok (.iadd, 1) := by decide +kernel
theorem dX9_goOn_62 : decode cX9_goOn 62 = .ok (.istore_n 2, 1) := by decide +kernel
theorem dX9_goOn_63 : decode cX9_goOn 63 = .ok (.iinc 3 1, 3) := by decide +kernel
theorem dX9_goOn_66 : decode cX9_goOn 66 = .ok (.goto (-35), 3) := by decide +kernel
theorem dX9_goOn_69 : decode cX9_goOn 69 = .ok (.iload_n 2, 1) := by decide +kernel
theorem dX9_goOn_70 : decode cX9_goOn 70 = .ok (.ifCond .ne 13, 3) := by decide +kernel
theorem dX9_goOn_73 : decode cX9_goOn 73 = .ok (.aload_n 0, 1) := by decide +kernel
theorem dX9_goOn_74 : decode cX9_goOn 74 = .ok (.getfield 42, 3) := by decide +kernel
theorem dX9_goOn_77 : decode cX9_goOn 77 = .ok (.iload_n 1, 1) := by decide +kernel
theorem dX9_goOn_78 : decode cX9_goOn 78 = .ok (.iconst 1, 1) := by decide +kernel
theorem dX9_goOn_79 : decode cX9_goOn 79 = .ok (.bastore, 1) := by decide +kernel
theorem dX9_goOn_80 : decode cX9_goOn 80 = .ok (.goto 21, 3) := by decide +kernel
theorem dX9_goOn_83 : decode cX9_goOn 83 = .ok (.aload_n 0, 1) := by decide +kernel
theorem dX9_goOn_84 : decode cX9_goOn 84 = .ok (.iload_n 1, 1) := by decide +kernel
theorem dX9_goOn_85 : decode cX9_goOn 85 = .ok (.invokevirtual 202, 3) := by decide +kernel
theorem dX9_goOn_88 : decode cX9_goOn 88 = .ok (.aload_n 0, 1) := by decide +kernel
theorem dX9_goOn_89 : decode cX9_goOn 89 = .ok (.iload_n 1, 1) := by decide +kernel
theorem dX9_goOn_90 : decode cX9_goOn 90 = .ok (.aload_n 0, 1) := by decide +kernel
theorem dX9_goOn_91 : decode cX9_goOn 91 = .ok (.getfield 39, 3) := by decide +kernel
theorem dX9_goOn_94 : decode cX9_goOn 94 = .ok (.iload_n 1, 1) := by decide +kernel
theorem dX9_goOn_95 : decode cX9_goOn 95 = .ok (.iaload, 1) := by decide +kernel
theorem dX9_goOn_96 : decode cX9_goOn 96 = .ok (.iconst 1, 1) := by decide +kernel
theorem dX9_goOn_97 : decode cX9_goOn 97 = .ok (.iadd, 1) := by decide +kernel
theorem dX9_goOn_98 : decode cX9_goOn 98 = .ok (.invokevirtual 205, 3) := by decide +kernel
theorem dX9_goOn_101 : decode cX9_goOn 101 = .ok (.goto (-101), 3) := by decide +kernel
theorem dX9_goOn_104 : decode cX9_goOn 104 = .ok (.return_, 1) := by decide +kernel
theorem dX9_start_0 : decode cX9_start 0 = .ok (.aload_n 0, 1) := by decide +kernel
theorem dX9_start_1 : decode cX9_start 1 = .ok (.getfield 131, 3) := by decide +kernel
theorem dX9_start_4 : decode cX9_start 4 = .ok (.ifCond .eq 6, 3) := by decide +kernel
theorem dX9_start_7 : decode cX9_start 7 = .ok (.bipush (-2), 2) := by decide +kernel
theorem dX9_start_9 : decode cX9_start 9 = .ok (.ireturn, 1) := by decide +kernel
theorem dX9_start_10 : decode cX9_start 10 = .ok (.aload_n 0, 1) := by decide +kernel
theorem dX9_start_11 : decode cX9_start 11 = .ok (.iconst 1, 1) := by decide +kernel
theorem dX9_start_12 : decode cX9_start 12 = .ok (.putfield 131, 3) := by decide +kernel
theorem dX9_start_15 : decode cX9_start 15 = .ok (.iconst 0, 1) := by decide +kernel
theorem dX9_start_16 : decode cX9_start 16 = .ok (.istore_n 1, 1) := by decide +kernel
theorem dX9_start_17 : decode cX9_start 17 = .ok (.iload_n 1, 1) := by decide +kernel
theorem dX9_start_18 : decode cX9_start 18 = .ok (.aload_n 0, 1) := by decide +kernel
theorem dX9_start_19 : decode cX9_start 19 = .ok (.getfield 7, 3) := by decide +kernel
theorem dX9_start_22 : decode cX9_start 22 = .ok (.if_icmp .ge 15, 3) := by decide +kernel
theorem dX9_start_25 : decode cX9_start 25 = .ok (.aload_n 0, 1) := by decide +kernel
theorem dX9_start_26 : decode cX9_start 26 = .ok (.iload_n 1, 1) := by decide +kernel
theorem dX9_start_27 : decode cX9_start 27 = .ok (.iconst 0, 1) := by decide +kernel
theorem dX9_start_28 : decode cX9_start 28 = .ok (.invokevirtual 205, 3) := by decide +kernel
theorem dX9_start_31 : decode cX9_start 31 = .ok (.iinc 1 1, 3) := by decide +kernel
theorem dX9_start_34 : decode cX9_start 34 = .ok (.goto (-17), 3) := by decide +kernel
theorem dX9_start_37 : decode cX9_start 37 = .ok (.aload_n 0, 1) := by decide +kernel
theorem dX9_start_38 : decode cX9_start 38 = .ok (.getfield 134, 3) := by decide +kernel
theorem dX9_start_41 : decode cX9_start 41 = .ok (.ireturn, 1) := by decide +kernel
theorem dX9_isLetter_0 : decode cX9_isLetter 0 = .ok (.iload_n 1, 1) := by decide +kernel
theorem dX9_isLetter_1 : decode cX9_isLetter 1 = .ok (.iconst 0, 1) := by decide +kernel
theorem dX9_isLetter_2 : decode cX9_isLetter 2 = .ok (.aload_n 0, 1) := by decide +kernel
theorem dX9_isLetter_3 : decode cX9_isLetter 3 = .ok (.getfield 134, 3) := by decide +kernel
theorem dX9_isLetter_6 : decode cX9_isLetter 6 = .ok (.iconst 1, 1) := by decide +kernel
theorem dX9_isLetter_7 : decode cX9_isLetter 7 = .ok (.isub, 1) := by decide +kernel
theorem dX9_isLetter_8 : decode cX9_isLetter 8 = .ok (.invokestatic 143, 3) := by decide +kernel
theorem dX9_isLetter_11 : decode cX9_isLetter 11 = .ok (.ireturn, 1) := by decide +kernel
theorem dX9_letter_0 : decode cX9_letter 0 = .ok (.aload_n 0, 1) := by decide +kernel
theorem dX9_letter_1 : decode cX9_letter 1 = .ok (.iload_n 1, 1) := by decide +kernel
theorem dX9_letter_2 : decode cX9_letter 2 = .ok (.invokevirtual 208, 3) := by decide +kernel
theorem dX9_letter_5 : decode cX9_letter 5 = .ok (.ifCond .eq 12, 3) := by decide +kernel
theorem dX9_letter_8 : decode cX9_letter 8 = .ok (.iload_n 2, 1) := by decide +kernel
theorem dX9_letter_9 : decode cX9_letter 9 = .ok (.iconst 0, 1) := by decide +kernel
theorem dX9_letter_10 : decode cX9_letter 10 = .ok (.iconst 5, 1) := by decide +kernel
theorem dX9_letter_11 : decode cX9_letter 11 = .ok (.invokestatic 143, 3) := by decide +kernel
theorem dX9_letter_14 : decode cX9_letter 14 = .ok (.ifCond .ne 5, 3) := by decide +kernel
theorem dX9_letter_17 : decode cX9_letter 17 = .ok (.iconst (-1), 1) := by decide +kernel
theorem dX9_letter_18 : decode cX9_letter 18 = .ok (.ireturn, 1) := by decide +kernel
theorem dX9_letter_19 : decode cX9_letter 19 = .ok (.iload_n 2, 1) := by decide +kernel
theorem dX9_letter_20 : decode cX9_letter 20 = .ok (.tableswitch 71 0 4 #[36, 43, 50, 57, 64], 36) := by decide +kernel
theorem dX9_letter_56 : decode cX9_letter 56 = .ok (.aload_n 0, 1) := by decide +kernel
theorem dX9_letter_57 : decode cX9_letter 57 = .ok (.getfield 57, 3) := by decide +kernel
theorem dX9_letter_60 : decode cX9_letter 60 = .ok (.iload_n 1, 1) := by decide +kernel
theorem dX9_letter_61 : decode cX9_letter 61 = .ok (.iaload, 1) := by decide +kernel
theorem dX9_letter_62 : decode cX9_letter 62 = .ok (.ireturn, 1) := by decide +kernel
theorem dX9_letter_63 : decode cX9_letter 63 = .ok (.aload_n 0, 1) := by decide +kernel
theorem dX9_letter_64 : decode cX9_letter 64 = .ok (.getfield 60, 3) := by decide +kernel
theorem dX9_letter_67 : decode cX9_letter 67 = .ok (.iload_n 1, 1) := by decide +kernel
theorem dX9_letter_68 : decode cX9_letter 68 = .ok (.iaload, 1) := by decide +kernel
theorem dX9_letter_69 : decode cX9_letter 69 = .ok (.ireturn, 1) := by decide +kernel
theorem dX9_letter_70 : decode cX9_letter 70 = .ok (.aload_n 0, 1) := by decide +kernel
theorem dX9_letter_71 : decode cX9_letter 71 = .ok (.getfield 54, 3) := by decide +kernel
theorem dX9_letter_74 : decode cX9_letter 74 = .ok (.iload_n 1, 1) := by decide +kernel
theorem dX9_letter_75 : decode cX9_letter 75 = .ok (.iaload, 1) := by decide +kernel
theorem dX9_letter_76 : decode cX9_letter 76 = .ok (.ireturn, 1) := by decide +kernel
theorem dX9_letter_77 : decode cX9_letter 77 = .ok (.aload_n 0, 1) := by decide +kernel
theorem dX9_letter_78 : decode cX9_letter 78 = .ok (.getfield 51, 3) := by decide +kernel
theorem dX9_letter_81 : decode cX9_letter 81 = .ok (.iload_n 1, 1) := by decide +kernel
theorem dX9_letter_82 : decode cX9_letter 82 = .ok (.iaload, 1) := by decide +kernel
theorem dX9_letter_83 : decode cX9_letter 83 = .ok (.ireturn, 1) := by decide +kernel
theorem dX9_letter_84 : decode cX9_letter 84 = .ok (.aload_n 0, 1) := by decide +kernel
theorem dX9_letter_85 : decode cX9_letter 85 = .ok (.getfield 66, 3) := by decide +kernel
theorem dX9_letter_88 : decode cX9_letter 88 = .ok (.iload_n 1, 1) := by decide +kernel
theorem dX9_letter_89 : decode cX9_letter 89 = .ok (.iaload, 1) := by decide +kernel
theorem dX9_letter_90 : decode cX9_letter 90 = .ok (.ireturn, 1) := by decide +kernel
theorem dX9_letter_91 : decode cX9_letter 91 = .ok (.aload_n 0, 1) := by decide +kernel
theorem dX9_letter_92 : decode cX9_letter 92 = .ok (.getfield 63, 3) := by decide +kernel
theorem dX9_letter_95 : decode cX9_letter 95 = .ok (.iload_n 1, 1) := by decide +kernel
theorem dX9_letter_96 : decode cX9_letter 96 = .ok (.iaload, 1) := by decide +kernel
theorem dX9_letter_97 : decode cX9_letter 97 = .ok (.ireturn, 1) := by decide +kernel
theorem dX9_entry_0 : decode cX9_entry 0 = .ok (.aload_n 0, 1) := by decide +kernel
theorem dX9_entry_1 : decode cX9_entry 1 = .ok (.iload_n 1, 1) := by decide +kernel
theorem dX9_entry_2 : decode cX9_entry 2 = .ok (.invokevirtual 208, 3) := by decide +kernel
theorem dX9_entry_5 : decode cX9_entry 5 = .ok (.ifCond .eq 28, 3) := by decide +kernel
theorem dX9_entry_8 : decode cX9_entry 8 = .ok (.iload_n 2, 1) := by decide +kernel
theorem dX9_entry_9 : decode cX9_entry 9 = .ok (.iconst 0, 1) := by decide +kernel
theorem dX9_entry_10 : decode cX9_entry 10 = .ok (.aload_n 0, 1) := by decide +kernel
theorem dX9_entry_11 : decode cX9_entry 11 = .ok (.getfield 66, 3) := by decide +kernel
theorem dX9_entry_14 : decode cX9_entry 14 = .ok (.iload_n 1, 1) := by decide +kernel
theorem dX9_entry_15 : decode cX9_entry 15 = .ok (.iaload, 1) := by decide +kernel
theorem dX9_entry_16 : decode cX9_entry 16 = .ok (.iconst 1, 1) := by decide +kernel
theorem dX9_entry_17 : decode cX9_entry 17 = .ok (.isub, 1) := by decide +kernel
theorem dX9_entry_18 : decode cX9_entry 18 = .ok (.invokestatic 143, 3) := by decide +kernel
theorem dX9_entry_21 : decode cX9_entry 21 = .ok (.ifCond .eq 12, 3) := by decide +kernel
theorem dX9_entry_24 : decode cX9_entry 24 = .ok (.iload_n 3, 1) := by decide +kernel
theorem dX9_entry_25 : decode cX9_entry 25 = .ok (.iconst 0, 1) := by decide +kernel
theorem dX9_entry_26 : decode cX9_entry 26 = .ok (.iconst 1, 1) := by decide +kernel
theorem dX9_entry_27 : decode cX9_entry 27 = .ok (.invokestatic 143, 3) := by decide +kernel
theorem dX9_entry_30 : decode cX9_entry 30 = .ok (.ifCond .ne 7, 3) := by decide +kernel
theorem dX9_entry_33 : decode cX9_entry 33 = .ok (.ldc2_w 211, 3) := by decide +kernel
theorem dX9_entry_36 : decode cX9_entry 36 = .ok (.lreturn, 1) := by decide +kernel
theorem dX9_entry_37 : decode cX9_entry 37 = .ok (.iload_n 3, 1) := by decide +kernel
theorem dX9_entry_38 : decode cX9_entry 38 = .ok (.ifCond .ne 18, 3) := by decide +kernel
theorem dX9_entry_41 : decode cX9_entry 41 = .ok (.aload_n 0, 1) := by decide +kernel
theorem dX9_entry_42 : decode cX9_entry 42 = .ok (.getfield 69, 3) := by decide +kernel
theorem dX9_entry_45 : decode cX9_entry 45 = .ok (.bipush 40, 2) := by decide +kernel
theorem dX9_entry_47 : decode cX9_entry 47 = .ok (.iload_n 1, 1) := by decide +kernel
theorem dX9_entry_48 : decode cX9_entry 48 = .ok (.imul, 1) := by decide +kernel
theorem dX9_entry_49 : decode cX9_entry 49 = .ok (.iload_n 2, 1) := by decide +kernel
theorem dX9_entry_50 : decode cX9_entry 50 = .ok (.iadd, 1) := by decide +kernel
theorem dX9_entry_51 : decode cX9_entry 51 = .ok (.iaload, 1) := by decide +kernel
theorem dX9_entry_52 : decode cX9_entry 52 = .ok (.i2l, 1) := by decide +kernel
theorem dX9_entry_53 : decode cX9_entry 53 = .ok (.goto 15, 3) := by decide +kernel
theorem dX9_entry_56 : decode cX9_entry 56 = .ok (.aload_n 0, 1) := by decide +kernel
theorem dX9_entry_57 : decode cX9_entry 57 = .ok (.getfield 72, 3) := by decide +kernel
theorem dX9_entry_60 : decode cX9_entry 60 = .ok (.bipush 40, 2) := by decide +kernel
theorem dX9_entry_62 : decode cX9_entry 62 = .ok (.iload_n 1, 1) := by decide +kernel
theorem dX9_entry_63 : decode cX9_entry 63 = .ok (.imul, 1) := by decide +kernel
theorem dX9_entry_64 : decode cX9_entry 64 = .ok (.iload_n 2, 1) := by decide +kernel
theorem dX9_entry_65 : decode cX9_entry 65 = .ok (.iadd, 1) := by decide +kernel
theorem dX9_entry_66 : decode cX9_entry 66 = .ok (.iaload, 1) := by decide +kernel
theorem dX9_entry_67 : decode cX9_entry 67 = .ok (.i2l, 1) := by decide +kernel
theorem dX9_entry_68 : decode cX9_entry 68 = .ok (.lreturn, 1) := by decide +kernel
theorem dX9_coming_0 : decode cX9_coming 0 = .ok (.aload_n 0, 1) := by decide +kernel
theorem dX9_coming_1 : decode cX9_coming 1 = .ok (.getfield 60, 3) := by decide +kernel
theorem dX9_coming_4 : decode cX9_coming 4 = .ok (.iload_n 1, 1) := by decide +kernel
theorem dX9_coming_5 : decode cX9_coming 5 = .ok (.iaload, 1) := by decide +kernel
theorem dX9_coming_6 : decode cX9_coming 6 = .ok (.istore_n 2, 1) := by decide +kernel
theorem dX9_coming_7 : decode cX9_coming 7 = .ok (.aload_n 0, 1) := by decide +kernel
theorem dX9_coming_8 : decode cX9_coming 8 = .ok (.getfield 45, 3) := by decide +kernel
theorem dX9_coming_11 : decode cX9_coming 11 = .ok (.iload_n 2, 1) := by decide +kernel
theorem dX9_coming_12 : decode cX9_coming 12 = .ok (.baload, 1) := by decide +kernel
theorem dX9_coming_13 : decode cX9_coming 13 = .ok (.ifCond .eq 5, 3) := by decide +kernel
theorem dX9_coming_16 : decode cX9_coming 16 = .ok (.iconst 3, 1) := by decide +kernel
theorem dX9_coming_17 : decode cX9_coming 17 = .ok (.ireturn, 1) := by decide +kernel
theorem dX9_coming_18 : decode cX9_coming 18 = .ok (.aload_n 0, 1) := by decide +kernel
theorem dX9_coming_19 : decode cX9_coming 19 = .ok (.getfield 51, 3) := by decide +kernel
theorem dX9_coming_22 : decode cX9_coming 22 = .ok (.iload_n 1, 1) := by decide +kernel
theorem dX9_coming_23 : decode cX9_coming 23 = .ok (.iaload, 1) := by decide +kernel
theorem dX9_coming_24 : decode cX9_coming 24 = .ok (.aload_n 0, 1) := by decide +kernel
theorem dX9_coming_25 : decode cX9_coming 25 = .ok (.getfield 137, 3) := by decide +kernel
theorem dX9_coming_28 : decode cX9_coming 28 = .ok (.if_icmp .ne 27, 3) := by decide +kernel
theorem dX9_coming_31 : decode cX9_coming 31 = .ok (.aload_n 0, 1) := by decide +kernel
theorem dX9_coming_32 : decode cX9_coming 32 = .ok (.getfield 54, 3) := by decide +kernel
theorem dX9_coming_35 : decode cX9_coming 35 = .ok (.iload_n 1, 1) := by decide +kernel
theorem dX9_coming_36 : decode cX9_coming 36 = .ok (.iaload, 1) := by decide +kernel
theorem dX9_coming_37 : decode cX9_coming 37 = .ok (.aload_n 0, 1) := by decide +kernel
theorem dX9_coming_38 : decode cX9_coming 38 = .ok (.getfield 39, 3) := by decide +kernel
theorem dX9_coming_41 : decode cX9_coming 41 = .ok (.iload_n 2, 1) := by decide +kernel
theorem dX9_coming_42 : decode cX9_coming 42 = .ok (.iaload, 1) := by decide +kernel
theorem dX9_coming_43 : decode cX9_coming 43 = .ok (.if_icmp .lt 12, 3) := by decide +kernel
theorem dX9_coming_46 : decode cX9_coming 46 = .ok (.aload_n 0, 1) := by decide +kernel
theorem dX9_coming_47 : decode cX9_coming 47 = .ok (.getfield 42, 3) := by decide +kernel
theorem dX9_coming_50 : decode cX9_coming 50 = .ok (.iload_n 2, 1) := by decide +kernel
theorem dX9_coming_51 : decode cX9_coming 51 = .ok (.baload, 1) := by decide +kernel
theorem dX9_coming_52 : decode cX9_coming 52 = .ok (.ifCond .eq 5, 3) := by decide +kernel
theorem dX9_coming_55 : decode cX9_coming 55 = .ok (.iconst 1, 1) := by decide +kernel
theorem dX9_coming_56 : decode cX9_coming 56 = .ok (.ireturn, 1) := by decide +kernel
theorem dX9_coming_57 : decode cX9_coming 57 = .ok (.aload_n 0, 1) := by decide +kernel
theorem dX9_coming_58 : decode cX9_coming 58 = .ok (.getfield 48, 3) := by decide +kernel
theorem dX9_coming_61 : decode cX9_coming 61 = .ok (.aload_n 0, 1) := by decide +kernel
theorem dX9_coming_62 : decode cX9_coming 62 = .ok (.iload_n 2, 1) := by decide +kernel
theorem dX9_coming_63 : decode cX9_coming 63 = .ok (.aload_n 0, 1) := by decide +kernel
theorem dX9_coming_64 : decode cX9_coming 64 = .ok (.getfield 54, 3) := by decide +kernel
theorem dX9_coming_67 : decode cX9_coming 67 = .ok (.iload_n 1, 1) := by decide +kernel
theorem dX9_coming_68 : decode cX9_coming 68 = .ok (.iaload, 1) := by decide +kernel
theorem dX9_coming_69 : decode cX9_coming 69 = .ok (.aload_n 0, 1) := by decide +kernel
theorem dX9_coming_70 : decode cX9_coming 70 = .ok (.getfield 39, 3) := by decide +kernel
theorem dX9_coming_73 : decode cX9_coming 73 = .ok (.iload_n 2, 1) := by decide +kernel
theorem dX9_coming_74 : decode cX9_coming 74 = .ok (.iaload, 1) := by decide +kernel
theorem dX9_coming_75 : decode cX9_coming 75 = .ok (.isub, 1) := by decide +kernel
theorem dX9_coming_76 : decode cX9_coming 76 = .ok (.aload_n 0, 1) := by decide +kernel
theorem dX9_coming_77 : decode cX9_coming 77 = .ok (.getfield 57, 3) := by decide +kernel
theorem dX9_coming_80 : decode cX9_coming 80 = .ok (.iload_n 1, 1) := by decide +kernel
theorem dX9_coming_81 : decode cX9_coming 81 = .ok (.iaload, 1) := by decide +kernel
theorem dX9_coming_82 : decode cX9_coming 82 = .ok (.invokevirtual 181, 3) := by decide +kernel
theorem dX9_coming_85 : decode cX9_coming 85 = .ok (.baload, 1) := by decide +kernel
theorem dX9_coming_86 : decode cX9_coming 86 = .ok (.ifCond .eq 7, 3) := by decide +kernel
theorem dX9_coming_89 : decode cX9_coming 89 = .ok (.iconst 2, 1) := by decide +kernel
theorem dX9_coming_90 : decode cX9_coming 90 = .ok (.goto 4, 3) := by decide +kernel
theorem dX9_coming_93 : decode cX9_coming 93 = .ok (.iconst 0, 1) := by decide +kernel
theorem dX9_coming_94 : decode cX9_coming 94 = .ok (.ireturn, 1) := by decide +kernel
theorem dX9_deliver_0 : decode cX9_deliver 0 = .ok (.aload_n 0, 1) := by decide +kernel
theorem dX9_deliver_1 : decode cX9_deliver 1 = .ok (.iload_n 1, 1) := by decide +kernel
theorem dX9_deliver_2 : decode cX9_deliver 2 = .ok (.invokevirtual 208, 3) := by decide +kernel
theorem dX9_deliver_5 : decode cX9_deliver 5 = .ok (.ifCond .ne 5, 3) := by decide +kernel
theorem dX9_deliver_8 : decode cX9_deliver 8 = .ok (.iconst (-1), 1) := by decide +kernel
theorem dX9_deliver_9 : decode cX9_deliver 9 = .ok (.ireturn, 1) := by decide +kernel
theorem dX9_deliver_10 : decode cX9_deliver 10 = .ok (.aload_n 0, 1) := by decide +kernel
theorem dX9_deliver_11 : decode cX9_deliver 11 = .ok (.iload_n 1, 1) := by decide +kernel
theorem dX9_deliver_12 : decode cX9_deliver 12 = .ok (.invokevirtual 213, 3) := by decide +kernel
theorem dX9_deliver_15 : decode cX9_deliver 15 = .ok (.istore_n 2, 1) := by decide +kernel
theorem dX9_deliver_16 : decode cX9_deliver 16 = .ok (.aload_n 0, 1) := by decide +kernel
theorem dX9_deliver_17 : decode cX9_deliver 17 = .ok (.getfield 60, 3) := by decide +kernel
theorem dX9_deliver_20 : decode cX9_deliver 20 = .ok (.iload_n 1, 1) := by decide +kernel
theorem dX9_deliver_21 : decode cX9_deliver 21 = .ok (.iaload, 1) := by decide +kernel
theorem dX9_deliver_22 : decode cX9_deliver 22 = .ok (.istore_n 3, 1) := by decide +kernel
theorem dX9_deliver_23 : decode cX9_deliver 23 = .ok (.iload_n 2, 1) := by decide +kernel
theorem dX9_deliver_24 : decode cX9_deliver 24 = .ok (.ifCond .ne 32, 3) := by decide +kernel
theorem dX9_deliver_27 : decode cX9_deliver 27 = .ok (.aload_n 0, 1) := by decide +kernel
theorem dX9_deliver_28 : decode cX9_deliver 28 = .ok (.iload_n 1, 1) := by decide +kernel
theorem dX9_deliver_29 : decode cX9_deliver 29 = .ok (.aload_n 0, 1) := by decide +kernel
theorem dX9_deliver_30 : decode cX9_deliver 30 = .ok (.iload_n 3, 1) := by decide +kernel
theorem dX9_deliver_31 : decode cX9_deliver 31 = .ok (.aload_n 0, 1) := by decide +kernel
theorem dX9_deliver_32 : decode cX9_deliver 32 = .ok (.getfield 54, 3) := by decide +kernel
theorem dX9_deliver_35 : decode cX9_deliver 35 = .ok (.iload_n 1, 1) := by decide +kernel
theorem dX9_deliver_36 : decode cX9_deliver 36 = .ok (.iaload, 1) := by decide +kernel
theorem dX9_deliver_37 : decode cX9_deliver 37 = .ok (.aload_n 0, 1) := by decide +kernel
theorem dX9_deliver_38 : decode cX9_deliver 38 = .ok (.getfield 39, 3) := by decide +kernel
theorem dX9_deliver_41 : decode cX9_deliver 41 = .ok (.iload_n 3, 1) := by decide +kernel
theorem dX9_deliver_42 : decode cX9_deliver 42 = .ok (.iaload, 1) := by decide +kernel
theorem dX9_deliver_43 : decode cX9_deliver 43 = .ok (.isub, 1) := by decide +kernel
theorem dX9_deliver_44 : decode cX9_deliver 44 = .ok (.aload_n 0, 1) := by decide +kernel
theorem dX9_deliver_45 : decode cX9_deliver 45 = .ok (.getfield 57, 3) := by decide +kernel
theorem dX9_deliver_48 : decode cX9_deliver 48 = .ok (.iload_n 1, 1) := by decide +kernel
theorem dX9_deliver_49 : decode cX9_deliver 49 = .ok (.iaload, 1) := by decide +kernel
theorem dX9_deliver_50 : decode cX9_deliver 50 = .ok (.invokevirtual 181, 3) := by decide +kernel
theorem dX9_deliver_53 : decode cX9_deliver 53 = .ok (.invokevirtual 173, 3) := by decide +kernel
theorem dX9_deliver_56 : decode cX9_deliver 56 = .ok (.aload_n 0, 1) := by decide +kernel
theorem dX9_deliver_57 : decode cX9_deliver 57 = .ok (.getfield 90, 3) := by decide +kernel
theorem dX9_deliver_60 : decode cX9_deliver 60 = .ok (.iload_n 2, 1) := by decide +kernel
theorem dX9_deliver_61 : decode cX9_deliver 61 = .ok (.dup2, 1) := by decide +kernel
theorem dX9_deliver_62 : decode cX9_deliver 62 = .ok (.iaload, 1) := by decide +kernel
theorem dX9_deliver_63 : decode cX9_deliver 63 = .ok (.iconst 1, 1) := by decide +kernel
theorem dX9_deliver_64 : decode cX9_deliver 64 = .ok (.iadd, 1) := by decide +kernel
theorem dX9_deliver_65 : decode cX9_deliver 65 = .ok (.iastore, 1) := by decide +kernel
theorem dX9_deliver_66 : decode cX9_deliver 66 = .ok (.aload_n 0, 1) := by decide +kernel
theorem dX9_deliver_67 : decode cX9_deliver 67 = .ok (.iload_n 1, 1) := by decide +kernel
theorem dX9_deliver_68 : decode cX9_deliver 68 = .ok (.invokevirtual 216, 3) := by decide +kernel
theorem dX9_deliver_71 : decode cX9_deliver 71 = .ok (.iload_n 2, 1) := by decide +kernel
theorem dX9_deliver_72 : decode cX9_deliver 72 = .ok (.ifCond .ne 8, 3) := by decide +kernel
theorem dX9_deliver_75 : decode cX9_deliver 75 = .ok (.aload_n 0, 1) := by decide +kernel
theorem dX9_deliver_76 : decode cX9_deliver 76 = .ok (.iload_n 3, 1) := by decide +kernel
theorem dX9_deliver_77 : decode cX9_deliver 77 = .ok (.invokevirtual 219, 3) := by decide +kernel
theorem dX9_deliver_80 : decode cX9_deliver 80 = .ok (.iload_n 2, 1) := by decide +kernel
theorem dX9_deliver_81 : decode cX9_deliver 81 = .ok (.ireturn, 1) := by decide +kernel
theorem dX9_lose_0 : decode cX9_lose 0 = .ok (.aload_n 0, 1) := by decide +kernel
theorem dX9_lose_1 : decode cX9_lose 1 = .ok (.iload_n 1, 1) := by decide +kernel
theorem dX9_lose_2 : decode cX9_lose 2 = .ok (.invokevirtual 208, 3) := by decide +kernel
theorem dX9_lose_5 : decode cX9_lose 5 = .ok (.ifCond .ne 5, 3) := by decide +kernel
theorem dX9_lose_8 : decode cX9_lose 8 = .ok (.iconst (-1), 1) := by decide +kernel
theorem dX9_lose_9 : decode cX9_lose 9 = .ok (.ireturn, 1) := by decide +kernel
theorem dX9_lose_10 : decode cX9_lose 10 = .ok (.aload_n 0, 1) := by decide +kernel
theorem dX9_lose_11 : decode cX9_lose 11 = .ok (.iload_n 1, 1) := by decide +kernel
theorem dX9_lose_12 : decode cX9_lose 12 = .ok (.invokevirtual 216, 3) := by decide +kernel
theorem dX9_lose_15 : decode cX9_lose 15 = .ok (.aload_n 0, 1) := by decide +kernel
theorem dX9_lose_16 : decode cX9_lose 16 = .ok (.getfield 134, 3) := by decide +kernel
theorem dX9_lose_19 : decode cX9_lose 19 = .ok (.ireturn, 1) := by decide +kernel
theorem dX9_copy_0 : decode cX9_copy 0 = .ok (.aload_n 0, 1) := by decide +kernel
theorem dX9_copy_1 : decode cX9_copy 1 = .ok (.iload_n 1, 1) := by decide +kernel
theorem dX9_copy_2 : decode cX9_copy 2 = .ok (.invokevirtual 208, 3) := by decide +kernel
theorem dX9_copy_5 : decode cX9_copy 5 = .ok (.ifCond .ne 5, 3) := by decide +kernel
theorem dX9_copy_8 : decode cX9_copy 8 = .ok (.iconst (-1), 1) := by decide +kernel
theorem dX9_copy_9 : decode cX9_copy 9 = .ok (.ireturn, 1) := by decide +kernel
theorem dX9_copy_10 : decode cX9_copy 10 = .ok (.aload_n 0, 1) := by decide +kernel
theorem dX9_copy_11 : decode cX9_copy 11 = .ok (.getfield 134, 3) := by decide +kernel
theorem dX9_copy_14 : decode cX9_copy 14 = .ok (.bipush 60, 2) := by decide +kernel
theorem dX9_copy_16 : decode cX9_copy 16 = .ok (.if_icmp .ne 6, 3) := by decide +kernel
theorem dX9_copy_19 : decode cX9_copy 19 = .ok (.bipush (-3), 2) := by decide +kernel
theorem dX9_copy_21 : decode cX9_copy 21 = .ok (.ireturn, 1) := by decide +kernel
theorem dX9_copy_22 : decode cX9_copy 22 = .ok (.aload_n 0, 1) := by decide +kernel
theorem dX9_copy_23 : decode cX9_copy 23 = .ok (.iload_n 1, 1) := by decide +kernel
theorem dX9_copy_24 : decode cX9_copy 24 = .ok (.aload_n 0, 1) := by decide +kernel
theorem dX9_copy_25 : decode cX9_copy 25 = .ok (.getfield 134, 3) := by decide +kernel
theorem dX9_copy_28 : decode cX9_copy 28 = .ok (.invokevirtual 173, 3) := by decide +kernel
theorem dX9_copy_31 : decode cX9_copy 31 = .ok (.aload_n 0, 1) := by decide +kernel
theorem dX9_copy_32 : decode cX9_copy 32 = .ok (.dup, 1) := by decide +kernel
theorem dX9_copy_33 : decode cX9_copy 33 = .ok (.getfield 134, 3) := by decide +kernel
theorem dX9_copy_36 : decode cX9_copy 36 = .ok (.iconst 1, 1) := by decide +kernel
theorem dX9_copy_37 : decode cX9_copy 37 = .ok (.iadd, 1) := by decide +kernel
theorem dX9_copy_38 : decode cX9_copy 38 = .ok (.putfield 134, 3) := by decide +kernel
theorem dX9_copy_41 : decode cX9_copy 41 = .ok (.aload_n 0, 1) := by decide +kernel
theorem dX9_copy_42 : decode cX9_copy 42 = .ok (.getfield 134, 3) := by decide +kernel
theorem dX9_copy_45 : decode cX9_copy 45 = .ok (.ireturn, 1) := by decide +kernel
theorem dX9_resend_0 : decode cX9_resend 0 = .ok (.aload_n 0, 1) := by decide +kernel
theorem dX9_resend_1 : decode cX9_resend 1 = .ok (.iload_n 1, 1) := by decide +kernel
theorem dX9_resend_2 : decode cX9_resend 2 = .ok (.invokevirtual 147, 3) := by decide +kernel
theorem dX9_resend_5 : decode cX9_resend 5 = .ok (.ifCond .eq 16, 3) := by decide +kernel
theorem dX9_resend_8 : decode cX9_resend 8 = .ok (.aload_n 0, 1) := by decide +kernel
theorem dX9_resend_9 : decode cX9_resend 9 = .ok (.iload_n 2, 1) := by decide +kernel
theorem dX9_resend_10 : decode cX9_resend 10 = .ok (.invokevirtual 147, 3) := by decide +kernel
theorem dX9_resend_13 : decode cX9_resend 13 = .ok (.ifCond .eq 8, 3) := by decide +kernel
theorem dX9_resend_16 : decode cX9_resend 16 = .ok (.iload_n 1, 1) := by decide +kernel
theorem dX9_resend_17 : decode cX9_resend 17 = .ok (.iload_n 2, 1) := by decide +kernel
theorem dX9_resend_18 : decode cX9_resend 18 = .ok (.if_icmp .ne 5, 3) := by decide +kernel
theorem dX9_resend_21 : decode cX9_resend 21 = .ok (.iconst (-1), 1) := by decide +kernel
theorem dX9_resend_22 : decode cX9_resend 22 = .ok (.ireturn, 1) := by decide +kernel
theorem dX9_resend_23 : decode cX9_resend 23 = .ok (.aload_n 0, 1) := by decide +kernel
theorem dX9_resend_24 : decode cX9_resend 24 = .ok (.getfield 131, 3) := by decide +kernel
theorem dX9_resend_27 : decode cX9_resend 27 = .ok (.ifCond .eq 12, 3) := by decide +kernel
theorem dX9_resend_30 : decode cX9_resend 30 = .ok (.aload_n 0, 1) := by decide +kernel
theorem dX9_resend_31 : decode cX9_resend 31 = .ok (.getfield 45, 3) := by decide +kernel
theorem dX9_resend_34 : decode cX9_resend 34 = .ok (.iload_n 1, 1) := by decide +kernel
theorem dX9_resend_35 : decode cX9_resend 35 = .ok (.baload, 1) := by decide +kernel
theorem dX9_resend_36 : decode cX9_resend 36 = .ok (.ifCond .eq 6, 3) := by decide +kernel
theorem dX9_resend_39 : decode cX9_resend 39 = .ok (.bipush (-2), 2) := by decide +kernel
theorem dX9_resend_41 : decode cX9_resend 41 = .ok (.ireturn, 1) := by decide +kernel
theorem dX9_resend_42 : decode cX9_resend 42 = .ok (.iconst 0, 1) := by decide +kernel
theorem dX9_resend_43 : decode cX9_resend 43 = .ok (.istore_n 3, 1) := by decide +kernel
theorem dX9_resend_44 : decode cX9_resend 44 = .ok (.iconst 0, 1) := by decide +kernel
theorem dX9_resend_45 : decode cX9_resend 45 = .ok (.istore 4, 2) := by decide +kernel
theorem dX9_resend_47 : decode cX9_resend 47 = .ok (.iload 4, 2) := by decide +kernel
theorem dX9_resend_49 : decode cX9_resend 49 = .ok (.iconst 2, 1) := by decide +kernel
theorem dX9_resend_50 : decode cX9_resend 50 = .ok (.if_icmp .ge 63, 3) := by decide +kernel
theorem dX9_resend_53 : decode cX9_resend 53 = .ok (.aload_n 0, 1) := by decide +kernel
theorem dX9_resend_54 : decode cX9_resend 54 = .ok (.getfield 48, 3) := by decide +kernel
theorem dX9_resend_57 : decode cX9_resend 57 = .ok (.aload_n 0, 1) := by decide +kernel
theorem dX9_resend_58 : decode cX9_resend 58 = .ok (.iload_n 1, 1) := by decide +kernel
theorem dX9_resend_59 : decode cX9_resend 59 = .ok (.iload 4, 2) := by decide +kernel
theorem dX9_resend_61 : decode cX9_resend 61 = .ok (.iload_n 2, 1) := by decide +kernel
theorem dX9_resend_62 : decode cX9_resend 62 = .ok (.invokevirtual 158, 3) := by decide +kernel
theorem dX9_resend_65 : decode cX9_resend 65 = .ok (.baload, 1) := by decide +kernel
theorem dX9_resend_66 : decode cX9_resend 66 = .ok (.ifCond .eq 41, 3) := by decide +kernel
theorem dX9_resend_69 : decode cX9_resend 69 = .ok (.aload_n 0, 1) := by decide +kernel
theorem dX9_resend_70 : decode cX9_resend 70 = .ok (.getfield 134, 3) := by decide +kernel
theorem dX9_resend_73 : decode cX9_resend 73 = .ok (.bipush 60, 2) := by decide +kernel
theorem dX9_resend_75 : decode cX9_resend 75 = .ok (.if_icmp .ge 32, 3) := by decide +kernel
theorem dX9_resend_78 : decode cX9_resend 78 = .ok (.aload_n 0, 1) := by decide +kernel
theorem dX9_resend_79 : decode cX9_resend 79 = .ok (.aload_n 0, 1) := by decide +kernel
theorem dX9_resend_80 : decode cX9_resend 80 = .ok (.iload_n 1, 1) := by decide +kernel
theorem dX9_resend_81 : decode cX9_resend 81 = .ok (.iload 4, 2) := by decide +kernel
theorem dX9_resend_83 : decode cX9_resend 83 = .ok (.iload_n 2, 1) := by decide +kernel
theorem dX9_resend_84 : decode cX9_resend 84 = .ok (.invokevirtual 158, 3) := by decide +kernel
theorem dX9_resend_87 : decode cX9_resend 87 = .ok (.aload_n 0, 1) := by decide +kernel
theorem dX9_resend_88 : decode cX9_resend 88 = .ok (.getfield 134, 3) := by decide +kernel
theorem dX9_resend_91 : decode cX9_resend 91 = .ok (.invokevirtual 173, 3) := by decide +kernel
theorem dX9_resend_94 : decode cX9_resend 94 = .ok (.aload_n 0, 1) := by decide +kernel
theorem dX9_resend_95 : decode cX9_resend 95 = .ok (.dup, 1) := by decide +kernel
theorem dX9_resend_96 : decode cX9_resend 96 = .ok (.getfield 134, 3) := by decide +kernel
theorem dX9_resend_99 : decode cX9_resend 99 = .ok (.iconst 1, 1) := by decide +kernel
theorem dX9_resend_100 : decode cX9_resend 100 = .ok (.iadd, 1) := by decide +kernel
theorem dX9_resend_101 : decode cX9_resend 101 = .ok (.putfield 134, 3) := by decide +kernel
theorem dX9_resend_104 : decode cX9_resend 104 = .ok (.iinc 3 1, 3) := by decide +kernel
theorem dX9_resend_107 : decode cX9_resend 107 = .ok (.iinc 4 1, 3) := by decide +kernel
theorem dX9_resend_110 : decode cX9_resend 110 = .ok (.goto (-63), 3) := by decide +kernel
theorem dX9_resend_113 : decode cX9_resend 113 = .ok (.iload_n 3, 1) := by decide +kernel
theorem dX9_resend_114 : decode cX9_resend 114 = .ok (.ireturn, 1) := by decide +kernel
theorem dX9_forget_0 : decode cX9_forget 0 = .ok (.iconst 0, 1) := by decide +kernel
theorem dX9_forget_1 : decode cX9_forget 1 = .ok (.istore_n 2, 1) := by decide +kernel
theorem dX9_forget_2 : decode cX9_forget 2 = .ok (.iload_n 2, 1) := by decide +kernel
theorem dX9_forget_3 : decode cX9_forget 3 = .ok (.bipush 10, 2) := by decide +kernel
theorem dX9_forget_5 : decode cX9_forget 5 = .ok (.if_icmp .ge 39, 3) := by decide +kernel
theorem dX9_forget_8 : decode cX9_forget 8 = .ok (.aload_n 0, 1) := by decide +kernel
theorem dX9_forget_9 : decode cX9_forget 9 = .ok (.getfield 48, 3) := by decide +kernel
theorem dX9_forget_12 : decode cX9_forget 12 = .ok (.bipush 110, 2) := by decide +kernel
theorem dX9_forget_14 : decode cX9_forget 14 = .ok (.bipush 10, 2) := by decide +kernel
theorem dX9_forget_16 : decode cX9_forget 16 = .ok (.iload_n 1, 1) := by decide +kernel
theorem dX9_forget_17 : decode cX9_forget 17 = .ok (.imul, 1) := by decide +kernel
theorem dX9_forget_18 : decode cX9_forget 18 = .ok (.iadd, 1) := by decide +kernel
theorem dX9_forget_19 : decode cX9_forget 19 = .ok (.iload_n 2, 1) := by decide +kernel
theorem dX9_forget_20 : decode cX9_forget 20 = .ok (.iadd, 1) := by decide +kernel
theorem dX9_forget_21 : decode cX9_forget 21 = .ok (.iconst 0, 1) := by decide +kernel
theorem dX9_forget_22 : decode cX9_forget 22 = .ok (.bastore, 1) := by decide +kernel
theorem dX9_forget_23 : decode cX9_forget 23 = .ok (.aload_n 0, 1) := by decide +kernel
theorem dX9_forget_24 : decode cX9_forget 24 = .ok (.getfield 48, 3) := by decide +kernel
theorem dX9_forget_27 : decode cX9_forget 27 = .ok (.bipush 60, 2) := by decide +kernel
theorem dX9_forget_29 : decode cX9_forget 29 = .ok (.bipush 10, 2) := by decide +kernel
theorem dX9_forget_31 : decode cX9_forget 31 = .ok (.iload_n 1, 1) := by decide +kernel
theorem dX9_forget_32 : decode cX9_forget 32 = .ok (.imul, 1) := by decide +kernel
theorem dX9_forget_33 : decode cX9_forget 33 = .ok (.iadd, 1) := by decide +kernel
theorem dX9_forget_34 : decode cX9_forget 34 = .ok (.iload_n 2, 1) := by decide +kernel
theorem dX9_forget_35 : decode cX9_forget 35 = .ok (.iadd, 1) := by decide +kernel
theorem dX9_forget_36 : decode cX9_forget 36 = .ok (.iconst 0, 1) := by decide +kernel
theorem dX9_forget_37 : decode cX9_forget 37 = .ok (.bastore, 1) := by decide +kernel
theorem dX9_forget_38 : decode cX9_forget 38 = .ok (.iinc 2 1, 3) := by decide +kernel
theorem dX9_forget_41 : decode cX9_forget 41 = .ok (.goto (-39), 3) := by decide +kernel
theorem dX9_forget_44 : decode cX9_forget 44 = .ok (.return_, 1) := by decide +kernel
theorem dX9_crash_0 : decode cX9_crash 0 = .ok (.aload_n 0, 1) := by decide +kernel
theorem dX9_crash_1 : decode cX9_crash 1 = .ok (.iload_n 1, 1) := by decide +kernel
theorem dX9_crash_2 : decode cX9_crash 2 = .ok (.invokevirtual 147, 3) := by decide +kernel
theorem dX9_crash_5 : decode cX9_crash 5 = .ok (.ifCond .ne 5, 3) := by decide +kernel
theorem dX9_crash_8 : decode cX9_crash 8 = .ok (.iconst (-1), 1) := by decide +kernel
theorem dX9_crash_9 : decode cX9_crash 9 = .ok (.ireturn, 1) := by decide +kernel
theorem dX9_crash_10 : decode cX9_crash 10 = .ok (.aload_n 0, 1) := by decide +kernel
theorem dX9_crash_11 : decode cX9_crash 11 = .ok (.getfield 131, 3) := by decide +kernel
theorem dX9_crash_14 : decode cX9_crash 14 = .ok (.ifCond .eq 12, 3) := by decide +kernel
theorem dX9_crash_17 : decode cX9_crash 17 = .ok (.aload_n 0, 1) := by decide +kernel
theorem dX9_crash_18 : decode cX9_crash 18 = .ok (.getfield 45, 3) := by decide +kernel
theorem dX9_crash_21 : decode cX9_crash 21 = .ok (.iload_n 1, 1) := by decide +kernel
theorem dX9_crash_22 : decode cX9_crash 22 = .ok (.baload, 1) := by decide +kernel
theorem dX9_crash_23 : decode cX9_crash 23 = .ok (.ifCond .eq 6, 3) := by decide +kernel
theorem dX9_crash_26 : decode cX9_crash 26 = .ok (.bipush (-2), 2) := by decide +kernel
theorem dX9_crash_28 : decode cX9_crash 28 = .ok (.ireturn, 1) := by decide +kernel
theorem dX9_crash_29 : decode cX9_crash 29 = .ok (.aload_n 0, 1) := by decide +kernel
theorem dX9_crash_30 : decode cX9_crash 30 = .ok (.getfield 45, 3) := by decide +kernel
theorem dX9_crash_33 : decode cX9_crash 33 = .ok (.iload_n 1, 1) := by decide +kernel
theorem dX9_crash_34 : decode cX9_crash 34 = .ok (.iconst 1, 1) := by decide +kernel
theorem dX9_crash_35 : decode cX9_crash 35 = .ok (.bastore, 1) := by decide +kernel
theorem dX9_crash_36 : decode cX9_crash 36 = .ok (.aload_n 0, 1) := by decide +kernel
theorem dX9_crash_37 : decode cX9_crash 37 = .ok (.getfield 42, 3) := by decide +kernel
theorem dX9_crash_40 : decode cX9_crash 40 = .ok (.iload_n 1, 1) := by decide +kernel
theorem dX9_crash_41 : decode cX9_crash 41 = .ok (.iconst 0, 1) := by decide +kernel
theorem dX9_crash_42 : decode cX9_crash 42 = .ok (.bastore, 1) := by decide +kernel
theorem dX9_crash_43 : decode cX9_crash 43 = .ok (.aload_n 0, 1) := by decide +kernel
theorem dX9_crash_44 : decode cX9_crash 44 = .ok (.iload_n 1, 1) := by decide +kernel
theorem dX9_crash_45 : decode cX9_crash 45 = .ok (.invokevirtual 222, 3) := by decide +kernel
theorem dX9_crash_48 : decode cX9_crash 48 = .ok (.iconst 1, 1) := by decide +kernel
theorem dX9_crash_49 : decode cX9_crash 49 = .ok (.ireturn, 1) := by decide +kernel
theorem dX9_hasMark_0 : decode cX9_hasMark 0 = .ok (.aload_n 0, 1) := by decide +kernel
theorem dX9_hasMark_1 : decode cX9_hasMark 1 = .ok (.getfield 78, 3) := by decide +kernel
theorem dX9_hasMark_4 : decode cX9_hasMark 4 = .ok (.iconst 2, 1) := by decide +kernel
theorem dX9_hasMark_5 : decode cX9_hasMark 5 = .ok (.iload_n 1, 1) := by decide +kernel
theorem dX9_hasMark_6 : decode cX9_hasMark 6 = .ok (.imul, 1) := by decide +kernel
theorem dX9_hasMark_7 : decode cX9_hasMark 7 = .ok (.iaload, 1) := by decide +kernel
theorem dX9_hasMark_8 : decode cX9_hasMark 8 = .ok (.iload_n 2, 1) := by decide +kernel
theorem dX9_hasMark_9 : decode cX9_hasMark 9 = .ok (.if_icmp .eq 17, 3) := by decide +kernel
theorem dX9_hasMark_12 : decode cX9_hasMark 12 = .ok (.aload_n 0, 1) := by decide +kernel
theorem dX9_hasMark_13 : decode cX9_hasMark 13 = .ok (.getfield 78, 3) := by decide +kernel
theorem dX9_hasMark_16 : decode cX9_hasMark 16 = .ok (.iconst 2, 1) := by decide +kernel
theorem dX9_hasMark_17 : decode cX9_hasMark 17 = .ok (.iload_n 1, 1) := by decide +kernel
theorem dX9_hasMark_18 : decode cX9_hasMark 18 = .ok (.imul, 1) := by decide +kernel
theorem dX9_hasMark_19 : decode cX9_hasMark 19 = .ok (.iconst 1, 1) := by decide +kernel
theorem dX9_hasMark_20 : decode cX9_hasMark 20 = .ok (.iadd, 1) := by decide +kernel
theorem dX9_hasMark_21 : decode cX9_hasMark 21 = .ok (.iaload, 1) := by decide +kernel
theorem dX9_hasMark_22 : decode cX9_hasMark 22 = .ok (.iload_n 2, 1) := by decide +kernel
theorem dX9_hasMark_23 : decode cX9_hasMark 23 = .ok (.if_icmp .ne 7, 3) := by decide +kernel
theorem dX9_hasMark_26 : decode cX9_hasMark 26 = .ok (.iconst 1, 1) := by decide +kernel
theorem dX9_hasMark_27 : decode cX9_hasMark 27 = .ok (.goto 4, 3) := by decide +kernel
theorem dX9_hasMark_30 : decode cX9_hasMark 30 = .ok (.iconst 0, 1) := by decide +kernel
theorem dX9_hasMark_31 : decode cX9_hasMark 31 = .ok (.ireturn, 1) := by decide +kernel
theorem dX9_isMarked_0 : decode cX9_isMarked 0 = .ok (.iload_n 1, 1) := by decide +kernel
theorem dX9_isMarked_1 : decode cX9_isMarked 1 = .ok (.ifCond .lt 7, 3) := by decide +kernel
theorem dX9_isMarked_4 : decode cX9_isMarked 4 = .ok (.iconst 1, 1) := by decide +kernel
theorem dX9_isMarked_5 : decode cX9_isMarked 5 = .ok (.goto 4, 3) := by decide +kernel
theorem dX9_isMarked_8 : decode cX9_isMarked 8 = .ok (.iconst 0, 1) := by decide +kernel
theorem dX9_isMarked_9 : decode cX9_isMarked 9 = .ok (.istore_n 2, 1) := by decide +kernel
theorem dX9_isMarked_10 : decode cX9_isMarked 10 = .ok (.iconst 0, 1) := by decide +kernel
theorem dX9_isMarked_11 : decode cX9_isMarked 11 = .ok (.istore_n 3, 1) := by decide +kernel
theorem dX9_isMarked_12 : decode cX9_isMarked 12 = .ok (.iload_n 3, 1) := by decide +kernel
theorem dX9_isMarked_13 : decode cX9_isMarked 13 = .ok (.aload_n 0, 1) := by decide +kernel
theorem dX9_isMarked_14 : decode cX9_isMarked 14 = .ok (.getfield 7, 3) := by decide +kernel
theorem dX9_isMarked_17 : decode cX9_isMarked 17 = .ok (.if_icmp .ge 28, 3) := by decide +kernel
theorem dX9_isMarked_20 : decode cX9_isMarked 20 = .ok (.iload_n 2, 1) := by decide +kernel
theorem dX9_isMarked_21 : decode cX9_isMarked 21 = .ok (.ifCond .eq 16, 3) := by decide +kernel
theorem dX9_isMarked_24 : decode cX9_isMarked 24 = .ok (.aload_n 0, 1) := by decide +kernel
theorem dX9_isMarked_25 : decode cX9_isMarked 25 = .ok (.iload_n 3, 1) := by decide +kernel
theorem dX9_isMarked_26 : decode cX9_isMarked 26 = .ok (.iload_n 1, 1) := by decide +kernel
theorem dX9_isMarked_27 : decode cX9_isMarked 27 = .ok (.invokevirtual 225, 3) := by decide +kernel
theorem dX9_isMarked_30 : decode cX9_isMarked 30 = .ok (.ifCond .eq 7, 3) := by decide +kernel
theorem dX9_isMarked_33 : decode cX9_isMarked 33 = .ok (.iconst 1, 1) := by decide +kernel
theorem dX9_isMarked_34 : decode cX9_isMarked 34 = .ok (.goto 4, 3) := by decide +kernel
theorem dX9_isMarked_37 : decode cX9_isMarked 37 = .ok (.iconst 0, 1) := by decide +kernel
theorem dX9_isMarked_38 : decode cX9_isMarked 38 = .ok (.istore_n 2, 1) := by decide +kernel
theorem dX9_isMarked_39 : decode cX9_isMarked 39 = .ok (.iinc 3 1, 3) := by decide +kernel
theorem dX9_isMarked_42 : decode cX9_isMarked 42 = .ok (.goto (-30), 3) := by decide +kernel
theorem dX9_isMarked_45 : decode cX9_isMarked 45 = .ok (.iload_n 2, 1) := by decide +kernel
theorem dX9_isMarked_46 : decode cX9_isMarked 46 = .ok (.ireturn, 1) := by decide +kernel
theorem dX9_goBack_0 : decode cX9_goBack 0 = .ok (.aload_n 0, 1) := by decide +kernel
theorem dX9_goBack_1 : decode cX9_goBack 1 = .ok (.getfield 78, 3) := by decide +kernel
theorem dX9_goBack_4 : decode cX9_goBack 4 = .ok (.iconst 2, 1) := by decide +kernel
theorem dX9_goBack_5 : decode cX9_goBack 5 = .ok (.iload_n 1, 1) := by decide +kernel
theorem dX9_goBack_6 : decode cX9_goBack 6 = .ok (.imul, 1) := by decide +kernel
theorem dX9_goBack_7 : decode cX9_goBack 7 = .ok (.iconst 1, 1) := by decide +kernel
theorem dX9_goBack_8 : decode cX9_goBack 8 = .ok (.iadd, 1) := by decide +kernel
theorem dX9_goBack_9 : decode cX9_goBack 9 = .ok (.iaload, 1) := by decide +kernel
theorem dX9_goBack_10 : decode cX9_goBack 10 = .ok (.iload_n 2, 1) := by decide +kernel
theorem dX9_goBack_11 : decode cX9_goBack 11 = .ok (.if_icmp .eq 50, 3) := by decide +kernel
theorem dX9_goBack_14 : decode cX9_goBack 14 = .ok (.aload_n 0, 1) := by decide +kernel
theorem dX9_goBack_15 : decode cX9_goBack 15 = .ok (.getfield 78, 3) := by decide +kernel
theorem dX9_goBack_18 : decode cX9_goBack 18 = .ok (.iconst 2, 1) := by decide +kernel
theorem dX9_goBack_19 : decode cX9_goBack 19 = .ok (.iload_n 1, 1) := by decide +kernel
theorem dX9_goBack_20 : decode cX9_goBack 20 = .ok (.imul, 1) := by decide +kernel
theorem dX9_goBack_21 : decode cX9_goBack 21 = .ok (.iconst 1, 1) := by decide +kernel
theorem dX9_goBack_22 : decode cX9_goBack 22 = .ok (.iadd, 1) := by decide +kernel
theorem dX9_goBack_23 : decode cX9_goBack 23 = .ok (.iload_n 2, 1) := by decide +kernel
theorem dX9_goBack_24 : decode cX9_goBack 24 = .ok (.iastore, 1) := by decide +kernel
theorem dX9_goBack_25 : decode cX9_goBack 25 = .ok (.aload_n 0, 1) := by decide +kernel
theorem dX9_goBack_26 : decode cX9_goBack 26 = .ok (.getfield 78, 3) := by decide +kernel
theorem dX9_goBack_29 : decode cX9_goBack 29 = .ok (.iconst 2, 1) := by decide +kernel
theorem dX9_goBack_30 : decode cX9_goBack 30 = .ok (.iload_n 1, 1) := by decide +kernel
theorem dX9_goBack_31 : decode cX9_goBack 31 = .ok (.imul, 1) := by decide +kernel
theorem dX9_goBack_32 : decode cX9_goBack 32 = .ok (.iconst (-1), 1) := by decide +kernel
theorem dX9_goBack_33 : decode cX9_goBack 33 = .ok (.iastore, 1) := by decide +kernel
theorem dX9_goBack_34 : decode cX9_goBack 34 = .ok (.iconst 0, 1) := by decide +kernel
theorem dX9_goBack_35 : decode cX9_goBack 35 = .ok (.istore_n 3, 1) := by decide +kernel
theorem dX9_goBack_36 : decode cX9_goBack 36 = .ok (.iload_n 3, 1) := by decide +kernel
theorem dX9_goBack_37 : decode cX9_goBack 37 = .ok (.bipush 16, 2) := by decide +kernel
theorem dX9_goBack_39 : decode cX9_goBack 39 = .ok (.if_icmp .ge 22, 3) := by decide +kernel
theorem dX9_goBack_42 : decode cX9_goBack 42 = .ok (.aload_n 0, 1) := by decide +kernel
theorem dX9_goBack_43 : decode cX9_goBack 43 = .ok (.iconst 2, 1) := by decide +kernel
theorem dX9_goBack_44 : decode cX9_goBack 44 = .ok (.iload_n 1, 1) := by decide +kernel
theorem dX9_goBack_45 : decode cX9_goBack 45 = .ok (.imul, 1) := by decide +kernel
theorem dX9_goBack_46 : decode cX9_goBack 46 = .ok (.iconst 2, 1) := by decide +kernel
