theorem dL_cell_0 : decode cL_cell 0 = .ok (.aload_n 0, 1) := by decide +kernel
theorem dL_cell_1 : decode cL_cell 1 = .ok (.arraylength, 1) := by decide +kernel
theorem dL_cell_2 : decode cL_cell 2 = .ok (.ifCond .ne 12, 3) := by decide +kernel
theorem dL_cell_5 : decode cL_cell 5 = .ok (.iload_n 1, 1) := by decide +kernel
theorem dL_cell_6 : decode cL_cell 6 = .ok (.bipush 37, 2) := by decide +kernel
theorem dL_cell_8 : decode cL_cell 8 = .ok (.imul, 1) := by decide +kernel
theorem dL_cell_9 : decode cL_cell 9 = .ok (.iconst 5, 1) := by decide +kernel
theorem dL_cell_10 : decode cL_cell 10 = .ok (.iadd, 1) := by decide +kernel
theorem dL_cell_11 : decode cL_cell 11 = .ok (.goto 17, 3) := by decide +kernel
theorem dL_cell_14 : decode cL_cell 14 = .ok (.aload_n 0, 1) := by decide +kernel
theorem dL_cell_15 : decode cL_cell 15 = .ok (.iload_n 1, 1) := by decide +kernel
theorem dL_cell_16 : decode cL_cell 16 = .ok (.aload_n 0, 1) := by decide +kernel
theorem dL_cell_17 : decode cL_cell 17 = .ok (.arraylength, 1) := by decide +kernel
theorem dL_cell_18 : decode cL_cell 18 = .ok (.irem, 1) := by decide +kernel
theorem dL_cell_19 : decode cL_cell 19 = .ok (.iaload, 1) := by decide +kernel
theorem dL_cell_20 : decode cL_cell 20 = .ok (.iload_n 1, 1) := by decide +kernel
theorem dL_cell_21 : decode cL_cell 21 = .ok (.bipush 7, 2) := by decide +kernel
theorem dL_cell_23 : decode cL_cell 23 = .ok (.irem, 1) := by decide +kernel
theorem dL_cell_24 : decode cL_cell 24 = .ok (.ishr, 1) := by decide +kernel
theorem dL_cell_25 : decode cL_cell 25 = .ok (.ldc 7, 2) := by decide +kernel
theorem dL_cell_27 : decode cL_cell 27 = .ok (.iand, 1) := by decide +kernel
theorem dL_cell_28 : decode cL_cell 28 = .ok (.iload_n 2, 1) := by decide +kernel
theorem dL_cell_29 : decode cL_cell 29 = .ok (.irem, 1) := by decide +kernel
theorem dL_cell_30 : decode cL_cell 30 = .ok (.ireturn, 1) := by decide +kernel
theorem dL_over_0 : decode cL_over 0 = .ok (.iload_n 1, 1) := by decide +kernel
theorem dL_over_1 : decode cL_over 1 = .ok (.ifCond .ge 13, 3) := by decide +kernel
theorem dL_over_4 : decode cL_over 4 = .ok (.aload_n 0, 1) := by decide +kernel
theorem dL_over_5 : decode cL_over 5 = .ok (.iconst 0, 1) := by decide +kernel
theorem dL_over_6 : decode cL_over 6 = .ok (.iload_n 2, 1) := by decide +kernel
theorem dL_over_7 : decode cL_over 7 = .ok (.iconst 0, 1) := by decide +kernel
theorem dL_over_8 : decode cL_over 8 = .ok (.invokevirtual 8, 3) := by decide +kernel
theorem dL_over_11 : decode cL_over 11 = .ok (.goto 10, 3) := by decide +kernel
theorem dL_over_14 : decode cL_over 14 = .ok (.aload_n 0, 1) := by decide +kernel
theorem dL_over_15 : decode cL_over 15 = .ok (.iconst 1, 1) := by decide +kernel
theorem dL_over_16 : decode cL_over 16 = .ok (.iload_n 1, 1) := by decide +kernel
theorem dL_over_17 : decode cL_over 17 = .ok (.iload_n 2, 1) := by decide +kernel
theorem dL_over_18 : decode cL_over 18 = .ok (.invokevirtual 8, 3) := by decide +kernel
theorem dL_over_21 : decode cL_over 21 = .ok (.istore_n 3, 1) := by decide +kernel
theorem dL_over_22 : decode cL_over 22 = .ok (.iload_n 1, 1) := by decide +kernel
theorem dL_over_23 : decode cL_over 23 = .ok (.ifCond .ge 13, 3) := by decide +kernel
theorem dL_over_26 : decode cL_over 26 = .ok (.aload_n 0, 1) := by decide +kernel
theorem dL_over_27 : decode cL_over 27 = .ok (.iconst 0, 1) := by decide +kernel
theorem dL_over_28 : decode cL_over 28 = .ok (.iconst 4, 1) := by decide +kernel
theorem dL_over_29 : decode cL_over 29 = .ok (.iconst 0, 1) := by decide +kernel
theorem dL_over_30 : decode cL_over 30 = .ok (.invokevirtual 8, 3) := by decide +kernel
theorem dL_over_33 : decode cL_over 33 = .ok (.goto 10, 3) := by decide +kernel
theorem dL_over_36 : decode cL_over 36 = .ok (.aload_n 0, 1) := by decide +kernel
theorem dL_over_37 : decode cL_over 37 = .ok (.iconst 1, 1) := by decide +kernel
theorem dL_over_38 : decode cL_over 38 = .ok (.iload_n 1, 1) := by decide +kernel
theorem dL_over_39 : decode cL_over 39 = .ok (.iconst 4, 1) := by decide +kernel
theorem dL_over_40 : decode cL_over 40 = .ok (.invokevirtual 8, 3) := by decide +kernel
theorem dL_over_43 : decode cL_over 43 = .ok (.istore 4, 2) := by decide +kernel
theorem dL_over_45 : decode cL_over 45 = .ok (.iload_n 1, 1) := by decide +kernel
theorem dL_over_46 : decode cL_over 46 = .ok (.ifCond .ge 13, 3) := by decide +kernel
theorem dL_over_49 : decode cL_over 49 = .ok (.aload_n 0, 1) := by decide +kernel
theorem dL_over_50 : decode cL_over 50 = .ok (.iconst 0, 1) := by decide +kernel
theorem dL_over_51 : decode cL_over 51 = .ok (.iconst 5, 1) := by decide +kernel
theorem dL_over_52 : decode cL_over 52 = .ok (.iconst 0, 1) := by decide +kernel
theorem dL_over_53 : decode cL_over 53 = .ok (.invokevirtual 8, 3) := by decide +kernel
theorem dL_over_56 : decode cL_over 56 = .ok (.goto 10, 3) := by decide +kernel
theorem dL_over_59 : decode cL_over 59 = .ok (.aload_n 0, 1) := by decide +kernel
theorem dL_over_60 : decode cL_over 60 = .ok (.iconst 1, 1) := by decide +kernel
theorem dL_over_61 : decode cL_over 61 = .ok (.iload_n 1, 1) := by decide +kernel
theorem dL_over_62 : decode cL_over 62 = .ok (.iconst 5, 1) := by decide +kernel
theorem dL_over_63 : decode cL_over 63 = .ok (.invokevirtual 8, 3) := by decide +kernel
theorem dL_over_66 : decode cL_over 66 = .ok (.istore 5, 2) := by decide +kernel
theorem dL_over_68 : decode cL_over 68 = .ok (.iload_n 3, 1) := by decide +kernel
theorem dL_over_69 : decode cL_over 69 = .ok (.i2l, 1) := by decide +kernel
theorem dL_over_70 : decode cL_over 70 = .ok (.iload 4, 2) := by decide +kernel
theorem dL_over_72 : decode cL_over 72 = .ok (.i2l, 1) := by decide +kernel
theorem dL_over_73 : decode cL_over 73 = .ok (.aload_n 0, 1) := by decide +kernel
theorem dL_over_74 : decode cL_over 74 = .ok (.iconst 1, 1) := by decide +kernel
theorem dL_over_75 : decode cL_over 75 = .ok (.iconst 4, 1) := by decide +kernel
theorem dL_over_76 : decode cL_over 76 = .ok (.iload_n 2, 1) := by decide +kernel
theorem dL_over_77 : decode cL_over 77 = .ok (.invokevirtual 8, 3) := by decide +kernel
theorem dL_over_80 : decode cL_over 80 = .ok (.i2l, 1) := by decide +kernel
theorem dL_over_81 : decode cL_over 81 = .ok (.lmul, 1) := by decide +kernel
theorem dL_over_82 : decode cL_over 82 = .ok (.ladd, 1) := by decide +kernel
theorem dL_over_83 : decode cL_over 83 = .ok (.iload 5, 2) := by decide +kernel
theorem dL_over_85 : decode cL_over 85 = .ok (.i2l, 1) := by decide +kernel
theorem dL_over_86 : decode cL_over 86 = .ok (.aload_n 0, 1) := by decide +kernel
theorem dL_over_87 : decode cL_over 87 = .ok (.iconst 1, 1) := by decide +kernel
theorem dL_over_88 : decode cL_over 88 = .ok (.iconst 5, 1) := by decide +kernel
theorem dL_over_89 : decode cL_over 89 = .ok (.iload_n 2, 1) := by decide +kernel
theorem dL_over_90 : decode cL_over 90 = .ok (.invokevirtual 8, 3) := by decide +kernel
theorem dL_over_93 : decode cL_over 93 = .ok (.i2l, 1) := by decide +kernel
theorem dL_over_94 : decode cL_over 94 = .ok (.lmul, 1) := by decide +kernel
theorem dL_over_95 : decode cL_over 95 = .ok (.ladd, 1) := by decide +kernel
theorem dL_over_96 : decode cL_over 96 = .ok (.iload 4, 2) := by decide +kernel
theorem dL_over_98 : decode cL_over 98 = .ok (.i2l, 1) := by decide +kernel
theorem dL_over_99 : decode cL_over 99 = .ok (.aload_n 0, 1) := by decide +kernel
theorem dL_over_100 : decode cL_over 100 = .ok (.iconst 1, 1) := by decide +kernel
theorem dL_over_101 : decode cL_over 101 = .ok (.iconst 4, 1) := by decide +kernel
theorem dL_over_102 : decode cL_over 102 = .ok (.iconst 5, 1) := by decide +kernel
theorem dL_over_103 : decode cL_over 103 = .ok (.invokevirtual 8, 3) := by decide +kernel
theorem dL_over_106 : decode cL_over 106 = .ok (.i2l, 1) := by decide +kernel
theorem dL_over_107 : decode cL_over 107 = .ok (.lmul, 1) := by decide +kernel
theorem dL_over_108 : decode cL_over 108 = .ok (.aload_n 0, 1) := by decide +kernel
theorem dL_over_109 : decode cL_over 109 = .ok (.iconst 1, 1) := by decide +kernel
theorem dL_over_110 : decode cL_over 110 = .ok (.iconst 5, 1) := by decide +kernel
theorem dL_over_111 : decode cL_over 111 = .ok (.iload_n 2, 1) := by decide +kernel
theorem dL_over_112 : decode cL_over 112 = .ok (.invokevirtual 8, 3) := by decide +kernel
theorem dL_over_115 : decode cL_over 115 = .ok (.i2l, 1) := by decide +kernel
theorem dL_over_116 : decode cL_over 116 = .ok (.lmul, 1) := by decide +kernel
theorem dL_over_117 : decode cL_over 117 = .ok (.ladd, 1) := by decide +kernel
theorem dL_over_118 : decode cL_over 118 = .ok (.lreturn, 1) := by decide +kernel
theorem dL_manners_0 : decode cL_manners 0 = .ok (.iload_n 1, 1) := by decide +kernel
theorem dL_manners_1 : decode cL_manners 1 = .ok (.ifCond .ge 13, 3) := by decide +kernel
theorem dL_manners_4 : decode cL_manners 4 = .ok (.aload_n 0, 1) := by decide +kernel
theorem dL_manners_5 : decode cL_manners 5 = .ok (.iconst 0, 1) := by decide +kernel
theorem dL_manners_6 : decode cL_manners 6 = .ok (.iload_n 2, 1) := by decide +kernel
theorem dL_manners_7 : decode cL_manners 7 = .ok (.iconst 0, 1) := by decide +kernel
theorem dL_manners_8 : decode cL_manners 8 = .ok (.invokevirtual 8, 3) := by decide +kernel
theorem dL_manners_11 : decode cL_manners 11 = .ok (.goto 10, 3) := by decide +kernel
theorem dL_manners_14 : decode cL_manners 14 = .ok (.aload_n 0, 1) := by decide +kernel
theorem dL_manners_15 : decode cL_manners 15 = .ok (.iconst 1, 1) := by decide +kernel
theorem dL_manners_16 : decode cL_manners 16 = .ok (.iload_n 1, 1) := by decide +kernel
theorem dL_manners_17 : decode cL_manners 17 = .ok (.iload_n 2, 1) := by decide +kernel
theorem dL_manners_18 : decode cL_manners 18 = .ok (.invokevirtual 8, 3) := by decide +kernel
theorem dL_manners_21 : decode cL_manners 21 = .ok (.ifCond .le 7, 3) := by decide +kernel
theorem dL_manners_24 : decode cL_manners 24 = .ok (.iconst 1, 1) := by decide +kernel
theorem dL_manners_25 : decode cL_manners 25 = .ok (.goto 4, 3) := by decide +kernel
theorem dL_manners_28 : decode cL_manners 28 = .ok (.iconst 0, 1) := by decide +kernel
theorem dL_manners_29 : decode cL_manners 29 = .ok (.istore_n 3, 1) := by decide +kernel
theorem dL_manners_30 : decode cL_manners 30 = .ok (.iload_n 1, 1) := by decide +kernel
theorem dL_manners_31 : decode cL_manners 31 = .ok (.ifCond .ge 13, 3) := by decide +kernel
theorem dL_manners_34 : decode cL_manners 34 = .ok (.aload_n 0, 1) := by decide +kernel
theorem dL_manners_35 : decode cL_manners 35 = .ok (.iconst 0, 1) := by decide +kernel
theorem dL_manners_36 : decode cL_manners 36 = .ok (.iconst 4, 1) := by decide +kernel
theorem dL_manners_37 : decode cL_manners 37 = .ok (.iconst 0, 1) := by decide +kernel
theorem dL_manners_38 : decode cL_manners 38 = .ok (.invokevirtual 8, 3) := by decide +kernel
theorem dL_manners_41 : decode cL_manners 41 = .ok (.goto 10, 3) := by decide +kernel
theorem dL_manners_44 : decode cL_manners 44 = .ok (.aload_n 0, 1) := by decide +kernel
theorem dL_manners_45 : decode cL_manners 45 = .ok (.iconst 1, 1) := by decide +kernel
theorem dL_manners_46 : decode cL_manners 46 = .ok (.iload_n 1, 1) := by decide +kernel
theorem dL_manners_47 : decode cL_manners 47 = .ok (.iconst 4, 1) := by decide +kernel
theorem dL_manners_48 : decode cL_manners 48 = .ok (.invokevirtual 8, 3) := by decide +kernel
theorem dL_manners_51 : decode cL_manners 51 = .ok (.ifCond .le 7, 3) := by decide +kernel
theorem dL_manners_54 : decode cL_manners 54 = .ok (.iconst 1, 1) := by decide +kernel
theorem dL_manners_55 : decode cL_manners 55 = .ok (.goto 4, 3) := by decide +kernel
theorem dL_manners_58 : decode cL_manners 58 = .ok (.iconst 0, 1) := by decide +kernel
theorem dL_manners_59 : decode cL_manners 59 = .ok (.istore 4, 2) := by decide +kernel
theorem dL_manners_61 : decode cL_manners 61 = .ok (.iload_n 1, 1) := by decide +kernel
theorem dL_manners_62 : decode cL_manners 62 = .ok (.ifCond .ge 13, 3) := by decide +kernel
theorem dL_manners_65 : decode cL_manners 65 = .ok (.aload_n 0, 1) := by decide +kernel
theorem dL_manners_66 : decode cL_manners 66 = .ok (.iconst 0, 1) := by decide +kernel
theorem dL_manners_67 : decode cL_manners 67 = .ok (.iconst 5, 1) := by decide +kernel
theorem dL_manners_68 : decode cL_manners 68 = .ok (.iconst 0, 1) := by decide +kernel
theorem dL_manners_69 : decode cL_manners 69 = .ok (.invokevirtual 8, 3) := by decide +kernel
theorem dL_manners_72 : decode cL_manners 72 = .ok (.goto 10, 3) := by decide +kernel
theorem dL_manners_75 : decode cL_manners 75 = .ok (.aload_n 0, 1) := by decide +kernel
theorem dL_manners_76 : decode cL_manners 76 = .ok (.iconst 1, 1) := by decide +kernel
theorem dL_manners_77 : decode cL_manners 77 = .ok (.iload_n 1, 1) := by decide +kernel
theorem dL_manners_78 : decode cL_manners 78 = .ok (.iconst 5, 1) := by decide +kernel
theorem dL_manners_79 : decode cL_manners 79 = .ok (.invokevirtual 8, 3) := by decide +kernel
theorem dL_manners_82 : decode cL_manners 82 = .ok (.ifCond .le 7, 3) := by decide +kernel
theorem dL_manners_85 : decode cL_manners 85 = .ok (.iconst 1, 1) := by decide +kernel
theorem dL_manners_86 : decode cL_manners 86 = .ok (.goto 4, 3) := by decide +kernel
theorem dL_manners_89 : decode cL_manners 89 = .ok (.iconst 0, 1) := by decide +kernel
theorem dL_manners_90 : decode cL_manners 90 = .ok (.istore 5, 2) := by decide +kernel
theorem dL_manners_92 : decode cL_manners 92 = .ok (.aload_n 0, 1) := by decide +kernel
theorem dL_manners_93 : decode cL_manners 93 = .ok (.iconst 1, 1) := by decide +kernel
theorem dL_manners_94 : decode cL_manners 94 = .ok (.iconst 5, 1) := by decide +kernel
theorem dL_manners_95 : decode cL_manners 95 = .ok (.iload_n 2, 1) := by decide +kernel
theorem dL_manners_96 : decode cL_manners 96 = .ok (.invokevirtual 8, 3) := by decide +kernel
theorem dL_manners_99 : decode cL_manners 99 = .ok (.ifCond .le 7, 3) := by decide +kernel
theorem dL_manners_102 : decode cL_manners 102 = .ok (.iconst 1, 1) := by decide +kernel
theorem dL_manners_103 : decode cL_manners 103 = .ok (.goto 4, 3) := by decide +kernel
theorem dL_manners_106 : decode cL_manners 106 = .ok (.iconst 0, 1) := by decide +kernel
theorem dL_manners_107 : decode cL_manners 107 = .ok (.istore 6, 2) := by decide +kernel
theorem dL_manners_109 : decode cL_manners 109 = .ok (.iload_n 3, 1) := by decide +kernel
theorem dL_manners_110 : decode cL_manners 110 = .ok (.ifCond .eq 7, 3) := by decide +kernel
theorem dL_manners_113 : decode cL_manners 113 = .ok (.iconst 1, 1) := by decide +kernel
theorem dL_manners_114 : decode cL_manners 114 = .ok (.goto 4, 3) := by decide +kernel
theorem dL_manners_117 : decode cL_manners 117 = .ok (.iconst 0, 1) := by decide +kernel
theorem dL_manners_118 : decode cL_manners 118 = .ok (.iload 4, 2) := by decide +kernel
theorem dL_manners_120 : decode cL_manners 120 = .ok (.ifCond .eq 17, 3) := by decide +kernel
theorem dL_manners_123 : decode cL_manners 123 = .ok (.aload_n 0, 1) := by decide +kernel
theorem dL_manners_124 : decode cL_manners 124 = .ok (.iconst 1, 1) := by decide +kernel
theorem dL_manners_125 : decode cL_manners 125 = .ok (.iconst 4, 1) := by decide +kernel
theorem dL_manners_126 : decode cL_manners 126 = .ok (.iload_n 2, 1) := by decide +kernel
theorem dL_manners_127 : decode cL_manners 127 = .ok (.invokevirtual 8, 3) := by decide +kernel
theorem dL_manners_130 : decode cL_manners 130 = .ok (.ifCond .le 7, 3) := by decide +kernel
theorem dL_manners_133 : decode cL_manners 133 = .ok (.iconst 1, 1) := by decide +kernel
theorem dL_manners_134 : decode cL_manners 134 = .ok (.goto 4, 3) := by decide +kernel
theorem dL_manners_137 : decode cL_manners 137 = .ok (.iconst 0, 1) := by decide +kernel
theorem dL_manners_138 : decode cL_manners 138 = .ok (.iadd, 1) := by decide +kernel
theorem dL_manners_139 : decode cL_manners 139 = .ok (.iload 5, 2) := by decide +kernel
theorem dL_manners_141 : decode cL_manners 141 = .ok (.ifCond .eq 12, 3) := by decide +kernel
theorem dL_manners_144 : decode cL_manners 144 = .ok (.iload 6, 2) := by decide +kernel
theorem dL_manners_146 : decode cL_manners 146 = .ok (.ifCond .eq 7, 3) := by decide +kernel
theorem dL_manners_149 : decode cL_manners 149 = .ok (.iconst 1, 1) := by decide +kernel
theorem dL_manners_150 : decode cL_manners 150 = .ok (.goto 4, 3) := by decide +kernel
theorem dL_manners_153 : decode cL_manners 153 = .ok (.iconst 0, 1) := by decide +kernel
theorem dL_manners_154 : decode cL_manners 154 = .ok (.iadd, 1) := by decide +kernel
theorem dL_manners_155 : decode cL_manners 155 = .ok (.iload 4, 2) := by decide +kernel
theorem dL_manners_157 : decode cL_manners 157 = .ok (.ifCond .eq 22, 3) := by decide +kernel
theorem dL_manners_160 : decode cL_manners 160 = .ok (.aload_n 0, 1) := by decide +kernel
theorem dL_manners_161 : decode cL_manners 161 = .ok (.iconst 1, 1) := by decide +kernel
theorem dL_manners_162 : decode cL_manners 162 = .ok (.iconst 4, 1) := by decide +kernel
theorem dL_manners_163 : decode cL_manners 163 = .ok (.iconst 5, 1) := by decide +kernel
theorem dL_manners_164 : decode cL_manners 164 = .ok (.invokevirtual 8, 3) := by decide +kernel
theorem dL_manners_167 : decode cL_manners 167 = .ok (.ifCond .le 12, 3) := by decide +kernel
theorem dL_manners_170 : decode cL_manners 170 = .ok (.iload 6, 2) := by decide +kernel
theorem dL_manners_172 : decode cL_manners 172 = .ok (.ifCond .eq 7, 3) := by decide +kernel
theorem dL_manners_175 : decode cL_manners 175 = .ok (.iconst 1, 1) := by decide +kernel
theorem dL_manners_176 : decode cL_manners 176 = .ok (.goto 4, 3) := by decide +kernel
theorem dL_manners_179 : decode cL_manners 179 = .ok (.iconst 0, 1) := by decide +kernel
theorem dL_manners_180 : decode cL_manners 180 = .ok (.iadd, 1) := by decide +kernel
theorem dL_manners_181 : decode cL_manners 181 = .ok (.ireturn, 1) := by decide +kernel
theorem dL_areAhead_0 : decode cL_areAhead 0 = .ok (.aload_n 0, 1) := by decide +kernel
theorem dL_areAhead_1 : decode cL_areAhead 1 = .ok (.iconst 0, 1) := by decide +kernel
theorem dL_areAhead_2 : decode cL_areAhead 2 = .ok (.invokevirtual 14, 3) := by decide +kernel
theorem dL_areAhead_5 : decode cL_areAhead 5 = .ok (.istore_n 3, 1) := by decide +kernel
theorem dL_areAhead_6 : decode cL_areAhead 6 = .ok (.bipush 24, 2) := by decide +kernel
theorem dL_areAhead_8 : decode cL_areAhead 8 = .ok (.newarray .int, 2) := by decide +kernel
theorem dL_areAhead_10 : decode cL_areAhead 10 = .ok (.astore 4, 2) := by decide +kernel
theorem dL_areAhead_12 : decode cL_areAhead 12 = .ok (.iconst 0, 1) := by decide +kernel
theorem dL_areAhead_13 : decode cL_areAhead 13 = .ok (.istore 5, 2) := by decide +kernel
theorem dL_areAhead_15 : decode cL_areAhead 15 = .ok (.iload 5, 2) := by decide +kernel
theorem dL_areAhead_17 : decode cL_areAhead 17 = .ok (.iload_n 3, 1) := by decide +kernel
theorem dL_areAhead_18 : decode cL_areAhead 18 = .ok (.if_icmp .ge 202, 3) := by decide +kernel
theorem dL_areAhead_21 : decode cL_areAhead 21 = .ok (.iconst 0, 1) := by decide +kernel
theorem dL_areAhead_22 : decode cL_areAhead 22 = .ok (.istore 6, 2) := by decide +kernel
theorem dL_areAhead_24 : decode cL_areAhead 24 = .ok (.iload 6, 2) := by decide +kernel
theorem dL_areAhead_26 : decode cL_areAhead 26 = .ok (.iconst 4, 1) := by decide +kernel
theorem dL_areAhead_27 : decode cL_areAhead 27 = .ok (.if_icmp .ge 187, 3) := by decide +kernel
theorem dL_areAhead_30 : decode cL_areAhead 30 = .ok (.aload_n 0, 1) := by decide +kernel
theorem dL_areAhead_31 : decode cL_areAhead 31 = .ok (.iconst 2, 1) := by decide +kernel
theorem dL_areAhead_32 : decode cL_areAhead 32 = .ok (.iload 6, 2) := by decide +kernel
theorem dL_areAhead_34 : decode cL_areAhead 34 = .ok (.aload_n 0, 1) := by decide +kernel
theorem dL_areAhead_35 : decode cL_areAhead 35 = .ok (.iload 5, 2) := by decide +kernel
theorem dL_areAhead_37 : decode cL_areAhead 37 = .ok (.invokevirtual 18, 3) := by decide +kernel
theorem dL_areAhead_40 : decode cL_areAhead 40 = .ok (.invokevirtual 8, 3) := by decide +kernel
theorem dL_areAhead_43 : decode cL_areAhead 43 = .ok (.istore 7, 2) := by decide +kernel
theorem dL_areAhead_45 : decode cL_areAhead 45 = .ok (.iload 5, 2) := by decide +kernel
theorem dL_areAhead_47 : decode cL_areAhead 47 = .ok (.ifCond .ne 13, 3) := by decide +kernel
theorem dL_areAhead_50 : decode cL_areAhead 50 = .ok (.aload_n 0, 1) := by decide +kernel
theorem dL_areAhead_51 : decode cL_areAhead 51 = .ok (.iconst (-1), 1) := by decide +kernel
theorem dL_areAhead_52 : decode cL_areAhead 52 = .ok (.iload 6, 2) := by decide +kernel
theorem dL_areAhead_54 : decode cL_areAhead 54 = .ok (.invokestatic 21, 3) := by decide +kernel
theorem dL_areAhead_57 : decode cL_areAhead 57 = .ok (.goto 4, 3) := by decide +kernel
theorem dL_areAhead_60 : decode cL_areAhead 60 = .ok (.lconst 0, 1) := by decide +kernel
theorem dL_areAhead_61 : decode cL_areAhead 61 = .ok (.lstore 8, 2) := by decide +kernel
theorem dL_areAhead_63 : decode cL_areAhead 63 = .ok (.iload 5, 2) := by decide +kernel
theorem dL_areAhead_65 : decode cL_areAhead 65 = .ok (.ifCond .ne 13, 3) := by decide +kernel
theorem dL_areAhead_68 : decode cL_areAhead 68 = .ok (.aload_n 0, 1) := by decide +kernel
theorem dL_areAhead_69 : decode cL_areAhead 69 = .ok (.iconst (-1), 1) := by decide +kernel
theorem dL_areAhead_70 : decode cL_areAhead 70 = .ok (.iload 6, 2) := by decide +kernel
theorem dL_areAhead_72 : decode cL_areAhead 72 = .ok (.invokestatic 27, 3) := by decide +kernel
theorem dL_areAhead_75 : decode cL_areAhead 75 = .ok (.goto 4, 3) := by decide +kernel
theorem dL_areAhead_78 : decode cL_areAhead 78 = .ok (.iconst 0, 1) := by decide +kernel
theorem dL_areAhead_79 : decode cL_areAhead 79 = .ok (.istore 10, 2) := by decide +kernel
theorem dL_areAhead_81 : decode cL_areAhead 81 = .ok (.iconst 0, 1) := by decide +kernel
theorem dL_areAhead_82 : decode cL_areAhead 82 = .ok (.istore 11, 2) := by decide +kernel
theorem dL_areAhead_84 : decode cL_areAhead 84 = .ok (.iload 11, 2) := by decide +kernel
theorem dL_areAhead_86 : decode cL_areAhead 86 = .ok (.iconst 4, 1) := by decide +kernel
theorem dL_areAhead_87 : decode cL_areAhead 87 = .ok (.if_icmp .ge 65, 3) := by decide +kernel
theorem dL_areAhead_90 : decode cL_areAhead 90 = .ok (.iload 5, 2) := by decide +kernel
theorem dL_areAhead_92 : decode cL_areAhead 92 = .ok (.ifCond .le 60, 3) := by decide +kernel
theorem dL_areAhead_95 : decode cL_areAhead 95 = .ok (.lload 8, 2) := by decide +kernel
theorem dL_areAhead_97 : decode cL_areAhead 97 = .ok (.aload_n 1, 1) := by decide +kernel
theorem dL_areAhead_98 : decode cL_areAhead 98 = .ok (.iconst 4, 1) := by decide +kernel
theorem dL_areAhead_99 : decode cL_areAhead 99 = .ok (.iload 5, 2) := by decide +kernel
theorem dL_areAhead_101 : decode cL_areAhead 101 = .ok (.imul, 1) := by decide +kernel
theorem dL_areAhead_102 : decode cL_areAhead 102 = .ok (.iconst 4, 1) := by decide +kernel
theorem dL_areAhead_103 : decode cL_areAhead 103 = .ok (.isub, 1) := by decide +kernel
theorem dL_areAhead_104 : decode cL_areAhead 104 = .ok (.iload 11, 2) := by decide +kernel
theorem dL_areAhead_106 : decode cL_areAhead 106 = .ok (.iadd, 1) := by decide +kernel
theorem dL_areAhead_107 : decode cL_areAhead 107 = .ok (.laload, 1) := by decide +kernel
theorem dL_areAhead_108 : decode cL_areAhead 108 = .ok (.aload_n 0, 1) := by decide +kernel
theorem dL_areAhead_109 : decode cL_areAhead 109 = .ok (.iload 11, 2) := by decide +kernel
theorem dL_areAhead_111 : decode cL_areAhead 111 = .ok (.iload 6, 2) := by decide +kernel
theorem dL_areAhead_113 : decode cL_areAhead 113 = .ok (.invokestatic 21, 3) := by decide +kernel
theorem dL_areAhead_116 : decode cL_areAhead 116 = .ok (.lmul, 1) := by decide +kernel
theorem dL_areAhead_117 : decode cL_areAhead 117 = .ok (.ladd, 1) := by decide +kernel
theorem dL_areAhead_118 : decode cL_areAhead 118 = .ok (.lstore 8, 2) := by decide +kernel
theorem dL_areAhead_120 : decode cL_areAhead 120 = .ok (.iload 10, 2) := by decide +kernel
theorem dL_areAhead_122 : decode cL_areAhead 122 = .ok (.aload 4, 2) := by decide +kernel
theorem dL_areAhead_124 : decode cL_areAhead 124 = .ok (.iconst 4, 1) := by decide +kernel
theorem dL_areAhead_125 : decode cL_areAhead 125 = .ok (.iload 5, 2) := by decide +kernel
theorem dL_areAhead_127 : decode cL_areAhead 127 = .ok (.imul, 1) := by decide +kernel
theorem dL_areAhead_128 : decode cL_areAhead 128 = .ok (.iconst 4, 1) := by decide +kernel
theorem dL_areAhead_129 : decode cL_areAhead 129 = .ok (.isub, 1) := by decide +kernel
theorem dL_areAhead_130 : decode cL_areAhead 130 = .ok (.iload 11, 2) := by decide +kernel
theorem dL_areAhead_132 : decode cL_areAhead 132 = .ok (.iadd, 1) := by decide +kernel
theorem dL_areAhead_133 : decode cL_areAhead 133 = .ok (.iaload, 1) := by decide +kernel
theorem dL_areAhead_134 : decode cL_areAhead 134 = .ok (.aload_n 0, 1) := by decide +kernel
theorem dL_areAhead_135 : decode cL_areAhead 135 = .ok (.iload 11, 2) := by decide +kernel
theorem dL_areAhead_137 : decode cL_areAhead 137 = .ok (.iload 6, 2) := by decide +kernel
theorem dL_areAhead_139 : decode cL_areAhead 139 = .ok (.invokestatic 27, 3) := by decide +kernel
theorem dL_areAhead_142 : decode cL_areAhead 142 = .ok (.imul, 1) := by decide +kernel
theorem dL_areAhead_143 : decode cL_areAhead 143 = .ok (.iadd, 1) := by decide +kernel
theorem dL_areAhead_144 : decode cL_areAhead 144 = .ok (.istore 10, 2) := by decide +kernel
theorem dL_areAhead_146 : decode cL_areAhead 146 = .ok (.iinc 11 1, 3) := by decide +kernel
theorem dL_areAhead_149 : decode cL_areAhead 149 = .ok (.goto (-65), 3) := by decide +kernel
theorem dL_areAhead_152 : decode cL_areAhead 152 = .ok (.aload_n 1, 1) := by decide +kernel
theorem dL_areAhead_153 : decode cL_areAhead 153 = .ok (.iconst 4, 1) := by decide +kernel
theorem dL_areAhead_154 : decode cL_areAhead 154 = .ok (.iload 5, 2) := by decide +kernel
theorem dL_areAhead_156 : decode cL_areAhead 156 = .ok (.imul, 1) := by decide +kernel
theorem dL_areAhead_157 : decode cL_areAhead 157 = .ok (.iload 6, 2) := by decide +kernel
theorem dL_areAhead_159 : decode cL_areAhead 159 = .ok (.iadd, 1) := by decide +kernel
theorem dL_areAhead_160 : decode cL_areAhead 160 = .ok (.lload 8, 2) := by decide +kernel
theorem dL_areAhead_162 : decode cL_areAhead 162 = .ok (.iload 7, 2) := by decide +kernel
theorem dL_areAhead_164 : decode cL_areAhead 164 = .ok (.i2l, 1) := by decide +kernel
theorem dL_areAhead_165 : decode cL_areAhead 165 = .ok (.lmul, 1) := by decide +kernel
theorem dL_areAhead_166 : decode cL_areAhead 166 = .ok (.lastore, 1) := by decide +kernel
theorem dL_areAhead_167 : decode cL_areAhead 167 = .ok (.aload 4, 2) := by decide +kernel
theorem dL_areAhead_169 : decode cL_areAhead 169 = .ok (.iconst 4, 1) := by decide +kernel
theorem dL_areAhead_170 : decode cL_areAhead 170 = .ok (.iload 5, 2) := by decide +kernel
theorem dL_areAhead_172 : decode cL_areAhead 172 = .ok (.imul, 1) := by decide +kernel
theorem dL_areAhead_173 : decode cL_areAhead 173 = .ok (.iload 6, 2) := by decide +kernel
theorem dL_areAhead_175 : decode cL_areAhead 175 = .ok (.iadd, 1) := by decide +kernel
theorem dL_areAhead_176 : decode cL_areAhead 176 = .ok (.iload 7, 2) := by decide +kernel
theorem dL_areAhead_178 : decode cL_areAhead 178 = .ok (.ifCond .le 8, 3) := by decide +kernel
theorem dL_areAhead_181 : decode cL_areAhead 181 = .ok (.iload 10, 2) := by decide +kernel
theorem dL_areAhead_183 : decode cL_areAhead 183 = .ok (.goto 4, 3) := by decide +kernel
theorem dL_areAhead_186 : decode cL_areAhead 186 = .ok (.iconst 0, 1) := by decide +kernel
theorem dL_areAhead_187 : decode cL_areAhead 187 = .ok (.iastore, 1) := by decide +kernel
theorem dL_areAhead_188 : decode cL_areAhead 188 = .ok (.aload_n 0, 1) := by decide +kernel
theorem dL_areAhead_189 : decode cL_areAhead 189 = .ok (.iload 5, 2) := by decide +kernel
theorem dL_areAhead_191 : decode cL_areAhead 191 = .ok (.iload 6, 2) := by decide +kernel
theorem dL_areAhead_193 : decode cL_areAhead 193 = .ok (.invokevirtual 31, 3) := by decide +kernel
theorem dL_areAhead_196 : decode cL_areAhead 196 = .ok (.lload 8, 2) := by decide +kernel
theorem dL_areAhead_198 : decode cL_areAhead 198 = .ok (.iload 7, 2) := by decide +kernel
theorem dL_areAhead_200 : decode cL_areAhead 200 = .ok (.i2l, 1) := by decide +kernel
theorem dL_areAhead_201 : decode cL_areAhead 201 = .ok (.lmul, 1) := by decide +kernel
theorem dL_areAhead_202 : decode cL_areAhead 202 = .ok (.lcmp, 1) := by decide +kernel
theorem dL_areAhead_203 : decode cL_areAhead 203 = .ok (.ifCond .eq 5, 3) := by decide +kernel
theorem dL_areAhead_206 : decode cL_areAhead 206 = .ok (.iconst 0, 1) := by decide +kernel
theorem dL_areAhead_207 : decode cL_areAhead 207 = .ok (.ireturn, 1) := by decide +kernel
theorem dL_areAhead_208 : decode cL_areAhead 208 = .ok (.iinc 6 1, 3) := by decide +kernel
theorem dL_areAhead_211 : decode cL_areAhead 211 = .ok (.goto (-187), 3) := by decide +kernel
theorem dL_areAhead_214 : decode cL_areAhead 214 = .ok (.iinc 5 1, 3) := by decide +kernel
theorem dL_areAhead_217 : decode cL_areAhead 217 = .ok (.goto (-202), 3) := by decide +kernel
theorem dL_areAhead_220 : decode cL_areAhead 220 = .ok (.iload_n 3, 1) := by decide +kernel
theorem dL_areAhead_221 : decode cL_areAhead 221 = .ok (.iconst 1, 1) := by decide +kernel
theorem dL_areAhead_222 : decode cL_areAhead 222 = .ok (.isub, 1) := by decide +kernel
theorem dL_areAhead_223 : decode cL_areAhead 223 = .ok (.istore 5, 2) := by decide +kernel
theorem dL_areAhead_225 : decode cL_areAhead 225 = .ok (.iload 5, 2) := by decide +kernel
theorem dL_areAhead_227 : decode cL_areAhead 227 = .ok (.ifCond .lt 131, 3) := by decide +kernel
theorem dL_areAhead_230 : decode cL_areAhead 230 = .ok (.iconst 0, 1) := by decide +kernel
theorem dL_areAhead_231 : decode cL_areAhead 231 = .ok (.istore 6, 2) := by decide +kernel
theorem dL_areAhead_233 : decode cL_areAhead 233 = .ok (.iload 6, 2) := by decide +kernel
theorem dL_areAhead_235 : decode cL_areAhead 235 = .ok (.iconst 4, 1) := by decide +kernel
theorem dL_areAhead_236 : decode cL_areAhead 236 = .ok (.if_icmp .ge 116, 3) := by decide +kernel
theorem dL_areAhead_239 : decode cL_areAhead 239 = .ok (.iload 5, 2) := by decide +kernel
theorem dL_areAhead_241 : decode cL_areAhead 241 = .ok (.iload_n 3, 1) := by decide +kernel
theorem dL_areAhead_242 : decode cL_areAhead 242 = .ok (.iconst 1, 1) := by decide +kernel
theorem dL_areAhead_243 : decode cL_areAhead 243 = .ok (.isub, 1) := by decide +kernel
theorem dL_areAhead_244 : decode cL_areAhead 244 = .ok (.if_icmp .ne 7, 3) := by decide +kernel
theorem dL_areAhead_247 : decode cL_areAhead 247 = .ok (.lconst 1, 1) := by decide +kernel
theorem dL_areAhead_248 : decode cL_areAhead 248 = .ok (.goto 4, 3) := by decide +kernel
theorem dL_areAhead_251 : decode cL_areAhead 251 = .ok (.lconst 0, 1) := by decide +kernel
theorem dL_areAhead_252 : decode cL_areAhead 252 = .ok (.lstore 7, 2) := by decide +kernel
theorem dL_areAhead_254 : decode cL_areAhead 254 = .ok (.iconst 0, 1) := by decide +kernel
theorem dL_areAhead_255 : decode cL_areAhead 255 = .ok (.istore 9, 2) := by decide +kernel
theorem dL_areAhead_257 : decode cL_areAhead 257 = .ok (.iload 9, 2) := by decide +kernel
theorem dL_areAhead_259 : decode cL_areAhead 259 = .ok (.iconst 4, 1) := by decide +kernel
theorem dL_areAhead_260 : decode cL_areAhead 260 = .ok (.if_icmp .ge 59, 3) := by decide +kernel
theorem dL_areAhead_263 : decode cL_areAhead 263 = .ok (.iload 5, 2) := by decide +kernel
theorem dL_areAhead_265 : decode cL_areAhead 265 = .ok (.iload_n 3, 1) := by decide +kernel
theorem dL_areAhead_266 : decode cL_areAhead 266 = .ok (.iconst 1, 1) := by decide +kernel
theorem dL_areAhead_267 : decode cL_areAhead 267 = .ok (.isub, 1) := by decide +kernel
theorem dL_areAhead_268 : decode cL_areAhead 268 = .ok (.if_icmp .ge 51, 3) := by decide +kernel
theorem dL_areAhead_271 : decode cL_areAhead 271 = .ok (.lload 7, 2) := by decide +kernel
theorem dL_areAhead_273 : decode cL_areAhead 273 = .ok (.aload_n 0, 1) := by decide +kernel
theorem dL_areAhead_274 : decode cL_areAhead 274 = .ok (.iload 6, 2) := by decide +kernel
theorem dL_areAhead_276 : decode cL_areAhead 276 = .ok (.iload 9, 2) := by decide +kernel
theorem dL_areAhead_278 : decode cL_areAhead 278 = .ok (.invokestatic 21, 3) := by decide +kernel
theorem dL_areAhead_281 : decode cL_areAhead 281 = .ok (.aload_n 0, 1) := by decide +kernel
theorem dL_areAhead_282 : decode cL_areAhead 282 = .ok (.iconst 2, 1) := by decide +kernel
theorem dL_areAhead_283 : decode cL_areAhead 283 = .ok (.iload 9, 2) := by decide +kernel
theorem dL_areAhead_285 : decode cL_areAhead 285 = .ok (.aload_n 0, 1) := by decide +kernel
theorem dL_areAhead_286 : decode cL_areAhead 286 = .ok (.iload 5, 2) := by decide +kernel
theorem dL_areAhead_288 : decode cL_areAhead 288 = .ok (.iconst 1, 1) := by decide +kernel
theorem dL_areAhead_289 : decode cL_areAhead 289 = .ok (.iadd, 1) := by decide +kernel
theorem dL_areAhead_290 : decode cL_areAhead 290 = .ok (.invokevirtual 18, 3) := by decide +kernel
theorem dL_areAhead_293 : decode cL_areAhead 293 = .ok (.invokevirtual 8, 3) := by decide +kernel
theorem dL_areAhead_296 : decode cL_areAhead 296 = .ok (.i2l, 1) := by decide +kernel
theorem dL_areAhead_297 : decode cL_areAhead 297 = .ok (.lmul, 1) := by decide +kernel
theorem dL_areAhead_298 : decode cL_areAhead 298 = .ok (.aload_n 2, 1) := by decide +kernel
theorem dL_areAhead_299 : decode cL_areAhead 299 = .ok (.iconst 4, 1) := by decide +kernel
theorem dL_areAhead_300 : decode cL_areAhead 300 = .ok (.iload 5, 2) := by decide +kernel
theorem dL_areAhead_302 : decode cL_areAhead 302 = .ok (.imul, 1) := by decide +kernel
theorem dL_areAhead_303 : decode cL_areAhead 303 = .ok (.iconst 4, 1) := by decide +kernel
theorem dL_areAhead_304 : decode cL_areAhead 304 = .ok (.iadd, 1) := by decide +kernel
theorem dL_areAhead_305 : decode cL_areAhead 305 = .ok (.iload 9, 2) := by decide +kernel
theorem dL_areAhead_307 : decode cL_areAhead 307 = .ok (.iadd, 1) := by decide +kernel
theorem dL_areAhead_308 : decode cL_areAhead 308 = .ok (.laload, 1) := by decide +kernel
theorem dL_areAhead_309 : decode cL_areAhead 309 = .ok (.lmul, 1) := by decide +kernel
theorem dL_areAhead_310 : decode cL_areAhead 310 = .ok (.ladd, 1) := by decide +kernel
theorem dL_areAhead_311 : decode cL_areAhead 311 = .ok (.lstore 7, 2) := by decide +kernel
theorem dL_areAhead_313 : decode cL_areAhead 313 = .ok (.iinc 9 1, 3) := by decide +kernel
theorem dL_areAhead_316 : decode cL_areAhead 316 = .ok (.goto (-59), 3) := by decide +kernel
theorem dL_areAhead_319 : decode cL_areAhead 319 = .ok (.aload_n 2, 1) := by decide +kernel
theorem dL_areAhead_320 : decode cL_areAhead 320 = .ok (.iconst 4, 1) := by decide +kernel
theorem dL_areAhead_321 : decode cL_areAhead 321 = .ok (.iload 5, 2) := by decide +kernel
theorem dL_areAhead_323 : decode cL_areAhead 323 = .ok (.imul, 1) := by decide +kernel
theorem dL_areAhead_324 : decode cL_areAhead 324 = .ok (.iload 6, 2) := by decide +kernel
theorem dL_areAhead_326 : decode cL_areAhead 326 = .ok (.iadd, 1) := by decide +kernel
theorem dL_areAhead_327 : decode cL_areAhead 327 = .ok (.lload 7, 2) := by decide +kernel
theorem dL_areAhead_329 : decode cL_areAhead 329 = .ok (.lastore, 1) := by decide +kernel
theorem dL_areAhead_330 : decode cL_areAhead 330 = .ok (.aload_n 0, 1) := by decide +kernel
theorem dL_areAhead_331 : decode cL_areAhead 331 = .ok (.iload 5, 2) := by decide +kernel
theorem dL_areAhead_333 : decode cL_areAhead 333 = .ok (.iload 6, 2) := by decide +kernel
theorem dL_areAhead_335 : decode cL_areAhead 335 = .ok (.invokevirtual 35, 3) := by decide +kernel
theorem dL_areAhead_338 : decode cL_areAhead 338 = .ok (.lload 7, 2) := by decide +kernel
theorem dL_areAhead_340 : decode cL_areAhead 340 = .ok (.lcmp, 1) := by decide +kernel
theorem dL_areAhead_341 : decode cL_areAhead 341 = .ok (.ifCond .eq 5, 3) := by decide +kernel
theorem dL_areAhead_344 : decode cL_areAhead 344 = .ok (.iconst 0, 1) := by decide +kernel
theorem dL_areAhead_345 : decode cL_areAhead 345 = .ok (.ireturn, 1) := by decide +kernel
theorem dL_areAhead_346 : decode cL_areAhead 346 = .ok (.iinc 6 1, 3) := by decide +kernel
theorem dL_areAhead_349 : decode cL_areAhead 349 = .ok (.goto (-116), 3) := by decide +kernel
theorem dL_areAhead_352 : decode cL_areAhead 352 = .ok (.iinc 5 (-1), 3) := by decide +kernel
theorem dL_areAhead_355 : decode cL_areAhead 355 = .ok (.goto (-130), 3) := by decide +kernel
theorem dL_areAhead_358 : decode cL_areAhead 358 = .ok (.iload_n 3, 1) := by decide +kernel
theorem dL_areAhead_359 : decode cL_areAhead 359 = .ok (.ifCond .ne 7, 3) := by decide +kernel
theorem dL_areAhead_362 : decode cL_areAhead 362 = .ok (.lconst 1, 1) := by decide +kernel
theorem dL_areAhead_363 : decode cL_areAhead 363 = .ok (.goto 4, 3) := by decide +kernel
theorem dL_areAhead_366 : decode cL_areAhead 366 = .ok (.lconst 0, 1) := by decide +kernel
theorem dL_areAhead_367 : decode cL_areAhead 367 = .ok (.lstore 5, 2) := by decide +kernel
theorem dL_areAhead_369 : decode cL_areAhead 369 = .ok (.iload_n 3, 1) := by decide +kernel
theorem dL_areAhead_370 : decode cL_areAhead 370 = .ok (.ifCond .ne 7, 3) := by decide +kernel
theorem dL_areAhead_373 : decode cL_areAhead 373 = .ok (.iconst 1, 1) := by decide +kernel
theorem dL_areAhead_374 : decode cL_areAhead 374 = .ok (.goto 4, 3) := by decide +kernel
theorem dL_areAhead_377 : decode cL_areAhead 377 = .ok (.iconst 0, 1) := by decide +kernel
theorem dL_areAhead_378 : decode cL_areAhead 378 = .ok (.istore 7, 2) := by decide +kernel
theorem dL_areAhead_380 : decode cL_areAhead 380 = .ok (.iconst 0, 1) := by decide +kernel
theorem dL_areAhead_381 : decode cL_areAhead 381 = .ok (.istore 8, 2) := by decide +kernel
theorem dL_areAhead_383 : decode cL_areAhead 383 = .ok (.iload 8, 2) := by decide +kernel
theorem dL_areAhead_385 : decode cL_areAhead 385 = .ok (.iconst 4, 1) := by decide +kernel
theorem dL_areAhead_386 : decode cL_areAhead 386 = .ok (.if_icmp .ge 44, 3) := by decide +kernel
theorem dL_areAhead_389 : decode cL_areAhead 389 = .ok (.iload_n 3, 1) := by decide +kernel
theorem dL_areAhead_390 : decode cL_areAhead 390 = .ok (.ifCond .le 40, 3) := by decide +kernel
theorem dL_areAhead_393 : decode cL_areAhead 393 = .ok (.lload 5, 2) := by decide +kernel
theorem dL_areAhead_395 : decode cL_areAhead 395 = .ok (.aload_n 1, 1) := by decide +kernel
theorem dL_areAhead_396 : decode cL_areAhead 396 = .ok (.iconst 4, 1) := by decide +kernel
theorem dL_areAhead_397 : decode cL_areAhead 397 = .ok (.iload_n 3, 1) := by decide +kernel
theorem dL_areAhead_398 : decode cL_areAhead 398 = .ok (.imul, 1) := by decide +kernel
theorem dL_areAhead_399 : decode cL_areAhead 399 = .ok (.iconst 4, 1) := by decide +kernel
theorem dL_areAhead_400 : decode cL_areAhead 400 = .ok (.isub, 1) := by decide +kernel
theorem dL_areAhead_401 : decode cL_areAhead 401 = .ok (.iload 8, 2) := by decide +kernel
theorem dL_areAhead_403 : decode cL_areAhead 403 = .ok (.iadd, 1) := by decide +kernel
theorem dL_areAhead_404 : decode cL_areAhead 404 = .ok (.laload, 1) := by decide +kernel
theorem dL_areAhead_405 : decode cL_areAhead 405 = .ok (.ladd, 1) := by decide +kernel
theorem dL_areAhead_406 : decode cL_areAhead 406 = .ok (.lstore 5, 2) := by decide +kernel
theorem dL_areAhead_408 : decode cL_areAhead 408 = .ok (.iload 7, 2) := by decide +kernel
theorem dL_areAhead_410 : decode cL_areAhead 410 = .ok (.aload 4, 2) := by decide +kernel
theorem dL_areAhead_412 : decode cL_areAhead 412 = .ok (.iconst 4, 1) := by decide +kernel
theorem dL_areAhead_413 : decode cL_areAhead 413 = .ok (.iload_n 3, 1) := by decide +kernel
theorem dL_areAhead_414 : decode cL_areAhead 414 = .ok (.imul, 1) := by decide +kernel
theorem dL_areAhead_415 : decode cL_areAhead 415 = .ok (.iconst 4, 1) := by decide +kernel
theorem dL_areAhead_416 : decode cL_areAhead 416 = .ok (.isub, 1) := by decide +kernel
theorem dL_areAhead_417 : decode cL_areAhead 417 = .ok (.iload 8, 2) := by decide +kernel
theorem dL_areAhead_419 : decode cL_areAhead 419 = .ok (.iadd, 1) := by decide +kernel
theorem dL_areAhead_420 : decode cL_areAhead 420 = .ok (.iaload, 1) := by decide +kernel
theorem dL_areAhead_421 : decode cL_areAhead 421 = .ok (.iadd, 1) := by decide +kernel
theorem dL_areAhead_422 : decode cL_areAhead 422 = .ok (.istore 7, 2) := by decide +kernel
theorem dL_areAhead_424 : decode cL_areAhead 424 = .ok (.iinc 8 1, 3) := by decide +kernel
theorem dL_areAhead_427 : decode cL_areAhead 427 = .ok (.goto (-44), 3) := by decide +kernel
theorem dL_areAhead_430 : decode cL_areAhead 430 = .ok (.aload_n 0, 1) := by decide +kernel
theorem dL_areAhead_431 : decode cL_areAhead 431 = .ok (.invokevirtual 38, 3) := by decide +kernel
theorem dL_areAhead_434 : decode cL_areAhead 434 = .ok (.lload 5, 2) := by decide +kernel
theorem dL_areAhead_436 : decode cL_areAhead 436 = .ok (.lcmp, 1) := by decide +kernel
theorem dL_areAhead_437 : decode cL_areAhead 437 = .ok (.ifCond .ne 16, 3) := by decide +kernel
theorem dL_areAhead_440 : decode cL_areAhead 440 = .ok (.aload_n 0, 1) := by decide +kernel
theorem dL_areAhead_441 : decode cL_areAhead 441 = .ok (.invokevirtual 42, 3) := by decide +kernel
theorem dL_areAhead_444 : decode cL_areAhead 444 = .ok (.iload 7, 2) := by decide +kernel
theorem dL_areAhead_446 : decode cL_areAhead 446 = .ok (.if_icmp .ne 7, 3) := by decide +kernel
theorem dL_areAhead_449 : decode cL_areAhead 449 = .ok (.iconst 1, 1) := by decide +kernel
theorem dL_areAhead_450 : decode cL_areAhead 450 = .ok (.goto 4, 3) := by decide +kernel
theorem dL_areAhead_453 : decode cL_areAhead 453 = .ok (.iconst 0, 1) := by decide +kernel
theorem dL_areAhead_454 : decode cL_areAhead 454 = .ok (.ireturn, 1) := by decide +kernel
theorem dL_divisor_0 : decode cL_divisor 0 = .ok (.lload_n 0, 1) := by decide +kernel
theorem dL_divisor_1 : decode cL_divisor 1 = .ok (.lstore 4, 2) := by decide +kernel
theorem dL_divisor_3 : decode cL_divisor 3 = .ok (.lload_n 2, 1) := by decide +kernel
theorem dL_divisor_4 : decode cL_divisor 4 = .ok (.lstore 6, 2) := by decide +kernel
theorem dL_divisor_6 : decode cL_divisor 6 = .ok (.lload 6, 2) := by decide +kernel
theorem dL_divisor_8 : decode cL_divisor 8 = .ok (.lconst 0, 1) := by decide +kernel
theorem dL_divisor_9 : decode cL_divisor 9 = .ok (.lcmp, 1) := by decide +kernel
theorem dL_divisor_10 : decode cL_divisor 10 = .ok (.ifCond .eq 21, 3) := by decide +kernel
theorem dL_divisor_13 : decode cL_divisor 13 = .ok (.lload 4, 2) := by decide +kernel
theorem dL_divisor_15 : decode cL_divisor 15 = .ok (.lload 6, 2) := by decide +kernel
theorem dL_divisor_17 : decode cL_divisor 17 = .ok (.lrem, 1) := by decide +kernel
theorem dL_divisor_18 : decode cL_divisor 18 = .ok (.lstore 8, 2) := by decide +kernel
theorem dL_divisor_20 : decode cL_divisor 20 = .ok (.lload 6, 2) := by decide +kernel
theorem dL_divisor_22 : decode cL_divisor 22 = .ok (.lstore 4, 2) := by decide +kernel
theorem dL_divisor_24 : decode cL_divisor 24 = .ok (.lload 8, 2) := by decide +kernel
theorem dL_divisor_26 : decode cL_divisor 26 = .ok (.lstore 6, 2) := by decide +kernel
theorem dL_divisor_28 : decode cL_divisor 28 = .ok (.goto (-22), 3) := by decide +kernel
theorem dL_divisor_31 : decode cL_divisor 31 = .ok (.lload 4, 2) := by decide +kernel
theorem dL_divisor_33 : decode cL_divisor 33 = .ok (.lreturn, 1) := by decide +kernel
theorem dL_isPart_0 : decode cL_isPart 0 = .ok (.lload_n 2, 1) := by decide +kernel
theorem dL_isPart_1 : decode cL_isPart 1 = .ok (.lconst 0, 1) := by decide +kernel
theorem dL_isPart_2 : decode cL_isPart 2 = .ok (.lcmp, 1) := by decide +kernel
theorem dL_isPart_3 : decode cL_isPart 3 = .ok (.ifCond .le 38, 3) := by decide +kernel
theorem dL_isPart_6 : decode cL_isPart 6 = .ok (.lload 6, 2) := by decide +kernel
theorem dL_isPart_8 : decode cL_isPart 8 = .ok (.lload_n 2, 1) := by decide +kernel
theorem dL_isPart_9 : decode cL_isPart 9 = .ok (.lrem, 1) := by decide +kernel
theorem dL_isPart_10 : decode cL_isPart 10 = .ok (.lconst 0, 1) := by decide +kernel
theorem dL_isPart_11 : decode cL_isPart 11 = .ok (.lcmp, 1) := by decide +kernel
theorem dL_isPart_12 : decode cL_isPart 12 = .ok (.ifCond .ne 29, 3) := by decide +kernel
theorem dL_isPart_15 : decode cL_isPart 15 = .ok (.lload_n 0, 1) := by decide +kernel
theorem dL_isPart_16 : decode cL_isPart 16 = .ok (.lload 6, 2) := by decide +kernel
theorem dL_isPart_18 : decode cL_isPart 18 = .ok (.lload_n 2, 1) := by decide +kernel
theorem dL_isPart_19 : decode cL_isPart 19 = .ok (.ldiv, 1) := by decide +kernel
theorem dL_isPart_20 : decode cL_isPart 20 = .ok (.lmul, 1) := by decide +kernel
theorem dL_isPart_21 : decode cL_isPart 21 = .ok (.lload 4, 2) := by decide +kernel
theorem dL_isPart_23 : decode cL_isPart 23 = .ok (.lcmp, 1) := by decide +kernel
theorem dL_isPart_24 : decode cL_isPart 24 = .ok (.ifCond .ne 17, 3) := by decide +kernel
theorem dL_isPart_27 : decode cL_isPart 27 = .ok (.lload_n 0, 1) := by decide +kernel
theorem dL_isPart_28 : decode cL_isPart 28 = .ok (.lload_n 2, 1) := by decide +kernel
theorem dL_isPart_29 : decode cL_isPart 29 = .ok (.invokestatic 46, 3) := by decide +kernel
theorem dL_isPart_32 : decode cL_isPart 32 = .ok (.lconst 1, 1) := by decide +kernel
theorem dL_isPart_33 : decode cL_isPart 33 = .ok (.lcmp, 1) := by decide +kernel
theorem dL_isPart_34 : decode cL_isPart 34 = .ok (.ifCond .ne 7, 3) := by decide +kernel
theorem dL_isPart_37 : decode cL_isPart 37 = .ok (.iconst 1, 1) := by decide +kernel
theorem dL_isPart_38 : decode cL_isPart 38 = .ok (.goto 4, 3) := by decide +kernel
theorem dL_isPart_41 : decode cL_isPart 41 = .ok (.iconst 0, 1) := by decide +kernel
theorem dL_isPart_42 : decode cL_isPart 42 = .ok (.ireturn, 1) := by decide +kernel
theorem dL_areOdds_0 : decode cL_areOdds 0 = .ok (.aload_n 0, 1) := by decide +kernel
theorem dL_areOdds_1 : decode cL_areOdds 1 = .ok (.iconst 0, 1) := by decide +kernel
theorem dL_areOdds_2 : decode cL_areOdds 2 = .ok (.invokevirtual 14, 3) := by decide +kernel
theorem dL_areOdds_5 : decode cL_areOdds 5 = .ok (.istore 5, 2) := by decide +kernel
theorem dL_areOdds_7 : decode cL_areOdds 7 = .ok (.iconst 0, 1) := by decide +kernel
theorem dL_areOdds_8 : decode cL_areOdds 8 = .ok (.istore 6, 2) := by decide +kernel
theorem dL_areOdds_10 : decode cL_areOdds 10 = .ok (.iload 6, 2) := by decide +kernel
theorem dL_areOdds_12 : decode cL_areOdds 12 = .ok (.iload 5, 2) := by decide +kernel
theorem dL_areOdds_14 : decode cL_areOdds 14 = .ok (.if_icmp .ge 160, 3) := by decide +kernel
theorem dL_areOdds_17 : decode cL_areOdds 17 = .ok (.iconst 0, 1) := by decide +kernel
theorem dL_areOdds_18 : decode cL_areOdds 18 = .ok (.istore 7, 2) := by decide +kernel
theorem dL_areOdds_20 : decode cL_areOdds 20 = .ok (.iconst 0, 1) := by decide +kernel
theorem dL_areOdds_21 : decode cL_areOdds 21 = .ok (.istore 8, 2) := by decide +kernel
theorem dL_areOdds_23 : decode cL_areOdds 23 = .ok (.iload 8, 2) := by decide +kernel
theorem dL_areOdds_25 : decode cL_areOdds 25 = .ok (.iconst 4, 1) := by decide +kernel
theorem dL_areOdds_26 : decode cL_areOdds 26 = .ok (.if_icmp .ge 118, 3) := by decide +kernel
theorem dL_areOdds_29 : decode cL_areOdds 29 = .ok (.aload_n 1, 1) := by decide +kernel
theorem dL_areOdds_30 : decode cL_areOdds 30 = .ok (.iconst 4, 1) := by decide +kernel
theorem dL_areOdds_31 : decode cL_areOdds 31 = .ok (.iload 6, 2) := by decide +kernel
theorem dL_areOdds_33 : decode cL_areOdds 33 = .ok (.imul, 1) := by decide +kernel
theorem dL_areOdds_34 : decode cL_areOdds 34 = .ok (.iload 8, 2) := by decide +kernel
theorem dL_areOdds_36 : decode cL_areOdds 36 = .ok (.iadd, 1) := by decide +kernel
theorem dL_areOdds_37 : decode cL_areOdds 37 = .ok (.laload, 1) := by decide +kernel
theorem dL_areOdds_38 : decode cL_areOdds 38 = .ok (.aload_n 2, 1) := by decide +kernel
theorem dL_areOdds_39 : decode cL_areOdds 39 = .ok (.iconst 4, 1) := by decide +kernel
theorem dL_areOdds_40 : decode cL_areOdds 40 = .ok (.iload 6, 2) := by decide +kernel
theorem dL_areOdds_42 : decode cL_areOdds 42 = .ok (.imul, 1) := by decide +kernel
theorem dL_areOdds_43 : decode cL_areOdds 43 = .ok (.iload 8, 2) := by decide +kernel
theorem dL_areOdds_45 : decode cL_areOdds 45 = .ok (.iadd, 1) := by decide +kernel
theorem dL_areOdds_46 : decode cL_areOdds 46 = .ok (.laload, 1) := by decide +kernel
theorem dL_areOdds_47 : decode cL_areOdds 47 = .ok (.lmul, 1) := by decide +kernel
theorem dL_areOdds_48 : decode cL_areOdds 48 = .ok (.lstore 9, 2) := by decide +kernel
theorem dL_areOdds_50 : decode cL_areOdds 50 = .ok (.lload 9, 2) := by decide +kernel
theorem dL_areOdds_52 : decode cL_areOdds 52 = .ok (.aload_n 1, 1) := by decide +kernel
theorem dL_areOdds_53 : decode cL_areOdds 53 = .ok (.iconst 4, 1) := by decide +kernel
theorem dL_areOdds_54 : decode cL_areOdds 54 = .ok (.iload 6, 2) := by decide +kernel
theorem dL_areOdds_56 : decode cL_areOdds 56 = .ok (.imul, 1) := by decide +kernel
theorem dL_areOdds_57 : decode cL_areOdds 57 = .ok (.iload 7, 2) := by decide +kernel
theorem dL_areOdds_59 : decode cL_areOdds 59 = .ok (.iadd, 1) := by decide +kernel
theorem dL_areOdds_60 : decode cL_areOdds 60 = .ok (.laload, 1) := by decide +kernel
theorem dL_areOdds_61 : decode cL_areOdds 61 = .ok (.aload_n 2, 1) := by decide +kernel
theorem dL_areOdds_62 : decode cL_areOdds 62 = .ok (.iconst 4, 1) := by decide +kernel
theorem dL_areOdds_63 : decode cL_areOdds 63 = .ok (.iload 6, 2) := by decide +kernel
theorem dL_areOdds_65 : decode cL_areOdds 65 = .ok (.imul, 1) := by decide +kernel
theorem dL_areOdds_66 : decode cL_areOdds 66 = .ok (.iload 7, 2) := by decide +kernel
theorem dL_areOdds_68 : decode cL_areOdds 68 = .ok (.iadd, 1) := by decide +kernel
theorem dL_areOdds_69 : decode cL_areOdds 69 = .ok (.laload, 1) := by decide +kernel
theorem dL_areOdds_70 : decode cL_areOdds 70 = .ok (.lmul, 1) := by decide +kernel
theorem dL_areOdds_71 : decode cL_areOdds 71 = .ok (.lcmp, 1) := by decide +kernel
theorem dL_areOdds_72 : decode cL_areOdds 72 = .ok (.ifCond .le 8, 3) := by decide +kernel
theorem dL_areOdds_75 : decode cL_areOdds 75 = .ok (.iload 8, 2) := by decide +kernel
theorem dL_areOdds_77 : decode cL_areOdds 77 = .ok (.goto 5, 3) := by decide +kernel
theorem dL_areOdds_80 : decode cL_areOdds 80 = .ok (.iload 7, 2) := by decide +kernel
theorem dL_areOdds_82 : decode cL_areOdds 82 = .ok (.istore 7, 2) := by decide +kernel
theorem dL_areOdds_84 : decode cL_areOdds 84 = .ok (.lload_n 3, 1) := by decide +kernel
theorem dL_areOdds_85 : decode cL_areOdds 85 = .ok (.lconst 0, 1) := by decide +kernel
theorem dL_areOdds_86 : decode cL_areOdds 86 = .ok (.lcmp, 1) := by decide +kernel
theorem dL_areOdds_87 : decode cL_areOdds 87 = .ok (.ifCond .ne 22, 3) := by decide +kernel
theorem dL_areOdds_90 : decode cL_areOdds 90 = .ok (.aload_n 0, 1) := by decide +kernel
theorem dL_areOdds_91 : decode cL_areOdds 91 = .ok (.iload 6, 2) := by decide +kernel
theorem dL_areOdds_93 : decode cL_areOdds 93 = .ok (.iload 8, 2) := by decide +kernel
theorem dL_areOdds_95 : decode cL_areOdds 95 = .ok (.iconst 0, 1) := by decide +kernel
theorem dL_areOdds_96 : decode cL_areOdds 96 = .ok (.invokevirtual 50, 3) := by decide +kernel
theorem dL_areOdds_99 : decode cL_areOdds 99 = .ok (.ldc2_w 54, 3) := by decide +kernel
theorem dL_areOdds_102 : decode cL_areOdds 102 = .ok (.lcmp, 1) := by decide +kernel
theorem dL_areOdds_103 : decode cL_areOdds 103 = .ok (.ifCond .eq 35, 3) := by decide +kernel
theorem dL_areOdds_106 : decode cL_areOdds 106 = .ok (.goto 30, 3) := by decide +kernel
theorem dL_areOdds_109 : decode cL_areOdds 109 = .ok (.aload_n 0, 1) := by decide +kernel
theorem dL_areOdds_110 : decode cL_areOdds 110 = .ok (.iload 6, 2) := by decide +kernel
theorem dL_areOdds_112 : decode cL_areOdds 112 = .ok (.iload 8, 2) := by decide +kernel
theorem dL_areOdds_114 : decode cL_areOdds 114 = .ok (.iconst 0, 1) := by decide +kernel
theorem dL_areOdds_115 : decode cL_areOdds 115 = .ok (.invokevirtual 50, 3) := by decide +kernel
theorem dL_areOdds_118 : decode cL_areOdds 118 = .ok (.aload_n 0, 1) := by decide +kernel
theorem dL_areOdds_119 : decode cL_areOdds 119 = .ok (.iload 6, 2) := by decide +kernel
theorem dL_areOdds_121 : decode cL_areOdds 121 = .ok (.iload 8, 2) := by decide +kernel
theorem dL_areOdds_123 : decode cL_areOdds 123 = .ok (.iconst 1, 1) := by decide +kernel
theorem dL_areOdds_124 : decode cL_areOdds 124 = .ok (.invokevirtual 50, 3) := by decide +kernel
theorem dL_areOdds_127 : decode cL_areOdds 127 = .ok (.lload 9, 2) := by decide +kernel
theorem dL_areOdds_129 : decode cL_areOdds 129 = .ok (.lload_n 3, 1) := by decide +kernel
theorem dL_areOdds_130 : decode cL_areOdds 130 = .ok (.invokestatic 56, 3) := by decide +kernel
theorem dL_areOdds_133 : decode cL_areOdds 133 = .ok (.ifCond .ne 5, 3) := by decide +kernel
theorem dL_areOdds_136 : decode cL_areOdds 136 = .ok (.iconst 0, 1) := by decide +kernel
theorem dL_areOdds_137 : decode cL_areOdds 137 = .ok (.ireturn, 1) := by decide +kernel
theorem dL_areOdds_138 : decode cL_areOdds 138 = .ok (.iinc 8 1, 3) := by decide +kernel
theorem dL_areOdds_141 : decode cL_areOdds 141 = .ok (.goto (-118), 3) := by decide +kernel
theorem dL_areOdds_144 : decode cL_areOdds 144 = .ok (.aload_n 0, 1) := by decide +kernel
theorem dL_areOdds_145 : decode cL_areOdds 145 = .ok (.iload 6, 2) := by decide +kernel
theorem dL_areOdds_147 : decode cL_areOdds 147 = .ok (.invokevirtual 60, 3) := by decide +kernel
theorem dL_areOdds_150 : decode cL_areOdds 150 = .ok (.lload_n 3, 1) := by decide +kernel
theorem dL_areOdds_151 : decode cL_areOdds 151 = .ok (.lconst 0, 1) := by decide +kernel
theorem dL_areOdds_152 : decode cL_areOdds 152 = .ok (.lcmp, 1) := by decide +kernel
theorem dL_areOdds_153 : decode cL_areOdds 153 = .ok (.ifCond .ne 8, 3) := by decide +kernel
theorem dL_areOdds_156 : decode cL_areOdds 156 = .ok (.bipush (-5), 2) := by decide +kernel
theorem dL_areOdds_158 : decode cL_areOdds 158 = .ok (.goto 5, 3) := by decide +kernel
theorem dL_areOdds_161 : decode cL_areOdds 161 = .ok (.iload 7, 2) := by decide +kernel
theorem dL_areOdds_163 : decode cL_areOdds 163 = .ok (.if_icmp .eq 5, 3) := by decide +kernel
theorem dL_areOdds_166 : decode cL_areOdds 166 = .ok (.iconst 0, 1) := by decide +kernel
theorem dL_areOdds_167 : decode cL_areOdds 167 = .ok (.ireturn, 1) := by decide +kernel
theorem dL_areOdds_168 : decode cL_areOdds 168 = .ok (.iinc 6 1, 3) := by decide +kernel
theorem dL_areOdds_171 : decode cL_areOdds 171 = .ok (.goto (-161), 3) := by decide +kernel
theorem dL_areOdds_174 : decode cL_areOdds 174 = .ok (.aload_n 0, 1) := by decide +kernel
theorem dL_areOdds_175 : decode cL_areOdds 175 = .ok (.iload 5, 2) := by decide +kernel
theorem dL_areOdds_177 : decode cL_areOdds 177 = .ok (.iconst 0, 1) := by decide +kernel
theorem dL_areOdds_178 : decode cL_areOdds 178 = .ok (.iconst 0, 1) := by decide +kernel
theorem dL_areOdds_179 : decode cL_areOdds 179 = .ok (.invokevirtual 50, 3) := by decide +kernel
theorem dL_areOdds_182 : decode cL_areOdds 182 = .ok (.ldc2_w 63, 3) := by decide +kernel
theorem dL_areOdds_185 : decode cL_areOdds 185 = .ok (.lcmp, 1) := by decide +kernel
theorem dL_areOdds_186 : decode cL_areOdds 186 = .ok (.ifCond .ne 21, 3) := by decide +kernel
theorem dL_areOdds_189 : decode cL_areOdds 189 = .ok (.aload_n 0, 1) := by decide +kernel
theorem dL_areOdds_190 : decode cL_areOdds 190 = .ok (.iconst 0, 1) := by decide +kernel
theorem dL_areOdds_191 : decode cL_areOdds 191 = .ok (.iconst 4, 1) := by decide +kernel
theorem dL_areOdds_192 : decode cL_areOdds 192 = .ok (.iconst 0, 1) := by decide +kernel
theorem dL_areOdds_193 : decode cL_areOdds 193 = .ok (.invokevirtual 50, 3) := by decide +kernel
theorem dL_areOdds_196 : decode cL_areOdds 196 = .ok (.ldc2_w 63, 3) := by decide +kernel
theorem dL_areOdds_199 : decode cL_areOdds 199 = .ok (.lcmp, 1) := by decide +kernel
theorem dL_areOdds_200 : decode cL_areOdds 200 = .ok (.ifCond .ne 7, 3) := by decide +kernel
theorem dL_areOdds_203 : decode cL_areOdds 203 = .ok (.iconst 1, 1) := by decide +kernel
theorem dL_areOdds_204 : decode cL_areOdds 204 = .ok (.goto 4, 3) := by decide +kernel
theorem dL_areOdds_207 : decode cL_areOdds 207 = .ok (.iconst 0, 1) := by decide +kernel
theorem dL_areOdds_208 : decode cL_areOdds 208 = .ok (.ireturn, 1) := by decide +kernel
theorem dL_areExpected_0 : decode cL_areExpected 0 = .ok (.aload_n 0, 1) := by decide +kernel
theorem dL_areExpected_1 : decode cL_areExpected 1 = .ok (.iconst 0, 1) := by decide +kernel
theorem dL_areExpected_2 : decode cL_areExpected 2 = .ok (.invokevirtual 14, 3) := by decide +kernel
theorem dL_areExpected_5 : decode cL_areExpected 5 = .ok (.istore 5, 2) := by decide +kernel
theorem dL_areExpected_7 : decode cL_areExpected 7 = .ok (.lload_n 3, 1) := by decide +kernel
theorem dL_areExpected_8 : decode cL_areExpected 8 = .ok (.lconst 0, 1) := by decide +kernel
theorem dL_areExpected_9 : decode cL_areExpected 9 = .ok (.lcmp, 1) := by decide +kernel
theorem dL_areExpected_10 : decode cL_areExpected 10 = .ok (.ifCond .ne 39, 3) := by decide +kernel
theorem dL_areExpected_13 : decode cL_areExpected 13 = .ok (.aload_n 0, 1) := by decide +kernel
theorem dL_areExpected_14 : decode cL_areExpected 14 = .ok (.iconst 0, 1) := by decide +kernel
theorem dL_areExpected_15 : decode cL_areExpected 15 = .ok (.iconst 0, 1) := by decide +kernel
theorem dL_areExpected_16 : decode cL_areExpected 16 = .ok (.iconst 0, 1) := by decide +kernel
theorem dL_areExpected_17 : decode cL_areExpected 17 = .ok (.iconst 0, 1) := by decide +kernel
theorem dL_areExpected_18 : decode cL_areExpected 18 = .ok (.invokevirtual 65, 3) := by decide +kernel
theorem dL_areExpected_21 : decode cL_areExpected 21 = .ok (.ldc2_w 54, 3) := by decide +kernel
theorem dL_areExpected_24 : decode cL_areExpected 24 = .ok (.lcmp, 1) := by decide +kernel
theorem dL_areExpected_25 : decode cL_areExpected 25 = .ok (.ifCond .ne 22, 3) := by decide +kernel
theorem dL_areExpected_28 : decode cL_areExpected 28 = .ok (.aload_n 0, 1) := by decide +kernel
theorem dL_areExpected_29 : decode cL_areExpected 29 = .ok (.iconst 2, 1) := by decide +kernel
theorem dL_areExpected_30 : decode cL_areExpected 30 = .ok (.iconst 3, 1) := by decide +kernel
theorem dL_areExpected_31 : decode cL_areExpected 31 = .ok (.iconst 3, 1) := by decide +kernel
theorem dL_areExpected_32 : decode cL_areExpected 32 = .ok (.iconst 1, 1) := by decide +kernel
theorem dL_areExpected_33 : decode cL_areExpected 33 = .ok (.invokevirtual 65, 3) := by decide +kernel
theorem dL_areExpected_36 : decode cL_areExpected 36 = .ok (.ldc2_w 54, 3) := by decide +kernel
theorem dL_areExpected_39 : decode cL_areExpected 39 = .ok (.lcmp, 1) := by decide +kernel
theorem dL_areExpected_40 : decode cL_areExpected 40 = .ok (.ifCond .ne 7, 3) := by decide +kernel
theorem dL_areExpected_43 : decode cL_areExpected 43 = .ok (.iconst 1, 1) := by decide +kernel
theorem dL_areExpected_44 : decode cL_areExpected 44 = .ok (.goto 4, 3) := by decide +kernel
theorem dL_areExpected_47 : decode cL_areExpected 47 = .ok (.iconst 0, 1) := by decide +kernel
theorem dL_areExpected_48 : decode cL_areExpected 48 = .ok (.ireturn, 1) := by decide +kernel
theorem dL_areExpected_49 : decode cL_areExpected 49 = .ok (.iconst 0, 1) := by decide +kernel
theorem dL_areExpected_50 : decode cL_areExpected 50 = .ok (.istore 6, 2) := by decide +kernel
theorem dL_areExpected_52 : decode cL_areExpected 52 = .ok (.iload 6, 2) := by decide +kernel
theorem dL_areExpected_54 : decode cL_areExpected 54 = .ok (.iconst 4, 1) := by decide +kernel
theorem dL_areExpected_55 : decode cL_areExpected 55 = .ok (.if_icmp .ge 113, 3) := by decide +kernel
theorem dL_areExpected_58 : decode cL_areExpected 58 = .ok (.iconst 0, 1) := by decide +kernel
theorem dL_areExpected_59 : decode cL_areExpected 59 = .ok (.istore 7, 2) := by decide +kernel
theorem dL_areExpected_61 : decode cL_areExpected 61 = .ok (.iload 7, 2) := by decide +kernel
theorem dL_areExpected_63 : decode cL_areExpected 63 = .ok (.iconst 4, 1) := by decide +kernel
theorem dL_areExpected_64 : decode cL_areExpected 64 = .ok (.if_icmp .ge 98, 3) := by decide +kernel
theorem dL_areExpected_67 : decode cL_areExpected 67 = .ok (.lconst 0, 1) := by decide +kernel
theorem dL_areExpected_68 : decode cL_areExpected 68 = .ok (.lstore 8, 2) := by decide +kernel
theorem dL_areExpected_70 : decode cL_areExpected 70 = .ok (.iconst 0, 1) := by decide +kernel
theorem dL_areExpected_71 : decode cL_areExpected 71 = .ok (.istore 10, 2) := by decide +kernel
theorem dL_areExpected_73 : decode cL_areExpected 73 = .ok (.iload 10, 2) := by decide +kernel
theorem dL_areExpected_75 : decode cL_areExpected 75 = .ok (.iload 5, 2) := by decide +kernel
theorem dL_areExpected_77 : decode cL_areExpected 77 = .ok (.if_icmp .ge 48, 3) := by decide +kernel
theorem dL_areExpected_80 : decode cL_areExpected 80 = .ok (.lload 8, 2) := by decide +kernel
theorem dL_areExpected_82 : decode cL_areExpected 82 = .ok (.aload_n 0, 1) := by decide +kernel
theorem dL_areExpected_83 : decode cL_areExpected 83 = .ok (.iload 10, 2) := by decide +kernel
theorem dL_areExpected_85 : decode cL_areExpected 85 = .ok (.invokevirtual 18, 3) := by decide +kernel
theorem dL_areExpected_88 : decode cL_areExpected 88 = .ok (.iload 7, 2) := by decide +kernel
theorem dL_areExpected_90 : decode cL_areExpected 90 = .ok (.if_icmp .ne 25, 3) := by decide +kernel
theorem dL_areExpected_93 : decode cL_areExpected 93 = .ok (.aload_n 1, 1) := by decide +kernel
theorem dL_areExpected_94 : decode cL_areExpected 94 = .ok (.iconst 4, 1) := by decide +kernel
theorem dL_areExpected_95 : decode cL_areExpected 95 = .ok (.iload 10, 2) := by decide +kernel
theorem dL_areExpected_97 : decode cL_areExpected 97 = .ok (.imul, 1) := by decide +kernel
theorem dL_areExpected_98 : decode cL_areExpected 98 = .ok (.iload 6, 2) := by decide +kernel
theorem dL_areExpected_100 : decode cL_areExpected 100 = .ok (.iadd, 1) := by decide +kernel
theorem dL_areExpected_101 : decode cL_areExpected 101 = .ok (.laload, 1) := by decide +kernel
theorem dL_areExpected_102 : decode cL_areExpected 102 = .ok (.aload_n 2, 1) := by decide +kernel
theorem dL_areExpected_103 : decode cL_areExpected 103 = .ok (.iconst 4, 1) := by decide +kernel
theorem dL_areExpected_104 : decode cL_areExpected 104 = .ok (.iload 10, 2) := by decide +kernel
theorem dL_areExpected_106 : decode cL_areExpected 106 = .ok (.imul, 1) := by decide +kernel
theorem dL_areExpected_107 : decode cL_areExpected 107 = .ok (.iload 6, 2) := by decide +kernel
theorem dL_areExpected_109 : decode cL_areExpected 109 = .ok (.iadd, 1) := by decide +kernel
theorem dL_areExpected_110 : decode cL_areExpected 110 = .ok (.laload, 1) := by decide +kernel
theorem dL_areExpected_111 : decode cL_areExpected 111 = .ok (.lmul, 1) := by decide +kernel
theorem dL_areExpected_112 : decode cL_areExpected 112 = .ok (.goto 4, 3) := by decide +kernel
theorem dL_areExpected_115 : decode cL_areExpected 115 = .ok (.lconst 0, 1) := by decide +kernel
theorem dL_areExpected_116 : decode cL_areExpected 116 = .ok (.ladd, 1) := by decide +kernel
theorem dL_areExpected_117 : decode cL_areExpected 117 = .ok (.lstore 8, 2) := by decide +kernel
theorem dL_areExpected_119 : decode cL_areExpected 119 = .ok (.iinc 10 1, 3) := by decide +kernel
theorem dL_areExpected_122 : decode cL_areExpected 122 = .ok (.goto (-49), 3) := by decide +kernel
theorem dL_areExpected_125 : decode cL_areExpected 125 = .ok (.aload_n 0, 1) := by decide +kernel
theorem dL_areExpected_126 : decode cL_areExpected 126 = .ok (.iconst 2, 1) := by decide +kernel
theorem dL_areExpected_127 : decode cL_areExpected 127 = .ok (.iload 6, 2) := by decide +kernel
theorem dL_areExpected_129 : decode cL_areExpected 129 = .ok (.iload 7, 2) := by decide +kernel
theorem dL_areExpected_131 : decode cL_areExpected 131 = .ok (.iconst 0, 1) := by decide +kernel
theorem dL_areExpected_132 : decode cL_areExpected 132 = .ok (.invokevirtual 65, 3) := by decide +kernel
theorem dL_areExpected_135 : decode cL_areExpected 135 = .ok (.aload_n 0, 1) := by decide +kernel
theorem dL_areExpected_136 : decode cL_areExpected 136 = .ok (.iconst 2, 1) := by decide +kernel
theorem dL_areExpected_137 : decode cL_areExpected 137 = .ok (.iload 6, 2) := by decide +kernel
theorem dL_areExpected_139 : decode cL_areExpected 139 = .ok (.iload 7, 2) := by decide +kernel
theorem dL_areExpected_141 : decode cL_areExpected 141 = .ok (.iconst 1, 1) := by decide +kernel
theorem dL_areExpected_142 : decode cL_areExpected 142 = .ok (.invokevirtual 65, 3) := by decide +kernel
theorem dL_areExpected_145 : decode cL_areExpected 145 = .ok (.lload 8, 2) := by decide +kernel
theorem dL_areExpected_147 : decode cL_areExpected 147 = .ok (.lload_n 3, 1) := by decide +kernel
theorem dL_areExpected_148 : decode cL_areExpected 148 = .ok (.invokestatic 56, 3) := by decide +kernel
theorem dL_areExpected_151 : decode cL_areExpected 151 = .ok (.ifCond .ne 5, 3) := by decide +kernel
theorem dL_areExpected_154 : decode cL_areExpected 154 = .ok (.iconst 0, 1) := by decide +kernel
theorem dL_areExpected_155 : decode cL_areExpected 155 = .ok (.ireturn, 1) := by decide +kernel
theorem dL_areExpected_156 : decode cL_areExpected 156 = .ok (.iinc 7 1, 3) := by decide +kernel
theorem dL_areExpected_159 : decode cL_areExpected 159 = .ok (.goto (-98), 3) := by decide +kernel
theorem dL_areExpected_162 : decode cL_areExpected 162 = .ok (.iinc 6 1, 3) := by decide +kernel
theorem dL_areExpected_165 : decode cL_areExpected 165 = .ok (.goto (-113), 3) := by decide +kernel
theorem dL_areExpected_168 : decode cL_areExpected 168 = .ok (.lconst 0, 1) := by decide +kernel
theorem dL_areExpected_169 : decode cL_areExpected 169 = .ok (.lstore 6, 2) := by decide +kernel
theorem dL_areExpected_171 : decode cL_areExpected 171 = .ok (.lconst 0, 1) := by decide +kernel
theorem dL_areExpected_172 : decode cL_areExpected 172 = .ok (.lstore 8, 2) := by decide +kernel
theorem dL_areExpected_174 : decode cL_areExpected 174 = .ok (.iconst 0, 1) := by decide +kernel
theorem dL_areExpected_175 : decode cL_areExpected 175 = .ok (.istore 10, 2) := by decide +kernel
theorem dL_areExpected_177 : decode cL_areExpected 177 = .ok (.iload 10, 2) := by decide +kernel
theorem dL_areExpected_179 : decode cL_areExpected 179 = .ok (.bipush 6, 2) := by decide +kernel
theorem dL_areExpected_181 : decode cL_areExpected 181 = .ok (.if_icmp .ge 166, 3) := by decide +kernel
theorem dL_areExpected_184 : decode cL_areExpected 184 = .ok (.aload_n 0, 1) := by decide +kernel
theorem dL_areExpected_185 : decode cL_areExpected 185 = .ok (.iconst 0, 1) := by decide +kernel
theorem dL_areExpected_186 : decode cL_areExpected 186 = .ok (.iload 10, 2) := by decide +kernel
theorem dL_areExpected_188 : decode cL_areExpected 188 = .ok (.iconst 0, 1) := by decide +kernel
theorem dL_areExpected_189 : decode cL_areExpected 189 = .ok (.lload_n 3, 1) := by decide +kernel
theorem dL_areExpected_190 : decode cL_areExpected 190 = .ok (.invokestatic 69, 3) := by decide +kernel
theorem dL_areExpected_193 : decode cL_areExpected 193 = .ok (.lstore 11, 2) := by decide +kernel
theorem dL_areExpected_195 : decode cL_areExpected 195 = .ok (.lconst 0, 1) := by decide +kernel
theorem dL_areExpected_196 : decode cL_areExpected 196 = .ok (.lstore 13, 2) := by decide +kernel
theorem dL_areExpected_198 : decode cL_areExpected 198 = .ok (.lload 6, 2) := by decide +kernel
theorem dL_areExpected_200 : decode cL_areExpected 200 = .ok (.lload 11, 2) := by decide +kernel
theorem dL_areExpected_202 : decode cL_areExpected 202 = .ok (.ladd, 1) := by decide +kernel
theorem dL_areExpected_203 : decode cL_areExpected 203 = .ok (.lstore 6, 2) := by decide +kernel
theorem dL_areExpected_205 : decode cL_areExpected 205 = .ok (.iconst 0, 1) := by decide +kernel
theorem dL_areExpected_206 : decode cL_areExpected 206 = .ok (.istore 15, 2) := by decide +kernel
theorem dL_areExpected_208 : decode cL_areExpected 208 = .ok (.iload 15, 2) := by decide +kernel
theorem dL_areExpected_210 : decode cL_areExpected 210 = .ok (.bipush 6, 2) := by decide +kernel
theorem dL_areExpected_212 : decode cL_areExpected 212 = .ok (.if_icmp .ge 64, 3) := by decide +kernel
theorem dL_areExpected_215 : decode cL_areExpected 215 = .ok (.lload 11, 2) := by decide +kernel
theorem dL_areExpected_217 : decode cL_areExpected 217 = .ok (.aload_n 0, 1) := by decide +kernel
theorem dL_areExpected_218 : decode cL_areExpected 218 = .ok (.iconst 1, 1) := by decide +kernel
theorem dL_areExpected_219 : decode cL_areExpected 219 = .ok (.iload 15, 2) := by decide +kernel
theorem dL_areExpected_221 : decode cL_areExpected 221 = .ok (.iload 10, 2) := by decide +kernel
theorem dL_areExpected_223 : decode cL_areExpected 223 = .ok (.lload_n 3, 1) := by decide +kernel
theorem dL_areExpected_224 : decode cL_areExpected 224 = .ok (.invokestatic 69, 3) := by decide +kernel
theorem dL_areExpected_227 : decode cL_areExpected 227 = .ok (.ladd, 1) := by decide +kernel
theorem dL_areExpected_228 : decode cL_areExpected 228 = .ok (.lstore 11, 2) := by decide +kernel
theorem dL_areExpected_230 : decode cL_areExpected 230 = .ok (.lload 13, 2) := by decide +kernel
theorem dL_areExpected_232 : decode cL_areExpected 232 = .ok (.aload_n 0, 1) := by decide +kernel
theorem dL_areExpected_233 : decode cL_areExpected 233 = .ok (.iconst 1, 1) := by decide +kernel
theorem dL_areExpected_234 : decode cL_areExpected 234 = .ok (.iload 10, 2) := by decide +kernel
theorem dL_areExpected_236 : decode cL_areExpected 236 = .ok (.iload 15, 2) := by decide +kernel
theorem dL_areExpected_238 : decode cL_areExpected 238 = .ok (.lload_n 3, 1) := by decide +kernel
theorem dL_areExpected_239 : decode cL_areExpected 239 = .ok (.invokestatic 69, 3) := by decide +kernel
theorem dL_areExpected_242 : decode cL_areExpected 242 = .ok (.ladd, 1) := by decide +kernel
theorem dL_areExpected_243 : decode cL_areExpected 243 = .ok (.lstore 13, 2) := by decide +kernel
theorem dL_areExpected_245 : decode cL_areExpected 245 = .ok (.lload 8, 2) := by decide +kernel
theorem dL_areExpected_247 : decode cL_areExpected 247 = .ok (.iload 15, 2) := by decide +kernel
theorem dL_areExpected_249 : decode cL_areExpected 249 = .ok (.iconst 4, 1) := by decide +kernel
theorem dL_areExpected_250 : decode cL_areExpected 250 = .ok (.if_icmp .ge 16, 3) := by decide +kernel
theorem dL_areExpected_253 : decode cL_areExpected 253 = .ok (.aload_n 0, 1) := by decide +kernel
theorem dL_areExpected_254 : decode cL_areExpected 254 = .ok (.iconst 1, 1) := by decide +kernel
theorem dL_areExpected_255 : decode cL_areExpected 255 = .ok (.iload 10, 2) := by decide +kernel
theorem dL_areExpected_257 : decode cL_areExpected 257 = .ok (.iload 15, 2) := by decide +kernel
theorem dL_areExpected_259 : decode cL_areExpected 259 = .ok (.lload_n 3, 1) := by decide +kernel
theorem dL_areExpected_260 : decode cL_areExpected 260 = .ok (.invokestatic 69, 3) := by decide +kernel
theorem dL_areExpected_263 : decode cL_areExpected 263 = .ok (.goto 4, 3) := by decide +kernel
theorem dL_areExpected_266 : decode cL_areExpected 266 = .ok (.lconst 0, 1) := by decide +kernel
theorem dL_areExpected_267 : decode cL_areExpected 267 = .ok (.ladd, 1) := by decide +kernel
theorem dL_areExpected_268 : decode cL_areExpected 268 = .ok (.lstore 8, 2) := by decide +kernel
theorem dL_areExpected_270 : decode cL_areExpected 270 = .ok (.iinc 15 1, 3) := by decide +kernel
theorem dL_areExpected_273 : decode cL_areExpected 273 = .ok (.goto (-65), 3) := by decide +kernel
theorem dL_areExpected_276 : decode cL_areExpected 276 = .ok (.iload 10, 2) := by decide +kernel
theorem dL_areExpected_278 : decode cL_areExpected 278 = .ok (.iconst 4, 1) := by decide +kernel
theorem dL_areExpected_279 : decode cL_areExpected 279 = .ok (.if_icmp .ge 22, 3) := by decide +kernel
theorem dL_areExpected_282 : decode cL_areExpected 282 = .ok (.iload 5, 2) := by decide +kernel
theorem dL_areExpected_284 : decode cL_areExpected 284 = .ok (.ifCond .le 17, 3) := by decide +kernel
theorem dL_areExpected_287 : decode cL_areExpected 287 = .ok (.aload_n 1, 1) := by decide +kernel
theorem dL_areExpected_288 : decode cL_areExpected 288 = .ok (.iconst 4, 1) := by decide +kernel
theorem dL_areExpected_289 : decode cL_areExpected 289 = .ok (.iload 5, 2) := by decide +kernel
theorem dL_areExpected_291 : decode cL_areExpected 291 = .ok (.imul, 1) := by decide +kernel
theorem dL_areExpected_292 : decode cL_areExpected 292 = .ok (.iconst 4, 1) := by decide +kernel
theorem dL_areExpected_293 : decode cL_areExpected 293 = .ok (.isub, 1) := by decide +kernel
theorem dL_areExpected_294 : decode cL_areExpected 294 = .ok (.iload 10, 2) := by decide +kernel
theorem dL_areExpected_296 : decode cL_areExpected 296 = .ok (.iadd, 1) := by decide +kernel
theorem dL_areExpected_297 : decode cL_areExpected 297 = .ok (.laload, 1) := by decide +kernel
theorem dL_areExpected_298 : decode cL_areExpected 298 = .ok (.goto 4, 3) := by decide +kernel
theorem dL_areExpected_301 : decode cL_areExpected 301 = .ok (.lconst 0, 1) := by decide +kernel
theorem dL_areExpected_302 : decode cL_areExpected 302 = .ok (.lstore 15, 2) := by decide +kernel
theorem dL_areExpected_304 : decode cL_areExpected 304 = .ok (.lload 11, 2) := by decide +kernel
theorem dL_areExpected_306 : decode cL_areExpected 306 = .ok (.lload 13, 2) := by decide +kernel
theorem dL_areExpected_308 : decode cL_areExpected 308 = .ok (.lload 15, 2) := by decide +kernel
theorem dL_areExpected_310 : decode cL_areExpected 310 = .ok (.ladd, 1) := by decide +kernel
theorem dL_areExpected_311 : decode cL_areExpected 311 = .ok (.lcmp, 1) := by decide +kernel
theorem dL_areExpected_312 : decode cL_areExpected 312 = .ok (.ifCond .eq 5, 3) := by decide +kernel
theorem dL_areExpected_315 : decode cL_areExpected 315 = .ok (.iconst 0, 1) := by decide +kernel
theorem dL_areExpected_316 : decode cL_areExpected 316 = .ok (.ireturn, 1) := by decide +kernel
theorem dL_areExpected_317 : decode cL_areExpected 317 = .ok (.lload 8, 2) := by decide +kernel
theorem dL_areExpected_319 : decode cL_areExpected 319 = .ok (.iload 10, 2) := by decide +kernel
theorem dL_areExpected_321 : decode cL_areExpected 321 = .ok (.iconst 4, 1) := by decide +kernel
theorem dL_areExpected_322 : decode cL_areExpected 322 = .ok (.if_icmp .ge 15, 3) := by decide +kernel
theorem dL_areExpected_325 : decode cL_areExpected 325 = .ok (.aload_n 0, 1) := by decide +kernel
theorem dL_areExpected_326 : decode cL_areExpected 326 = .ok (.iconst 0, 1) := by decide +kernel
theorem dL_areExpected_327 : decode cL_areExpected 327 = .ok (.iload 10, 2) := by decide +kernel
theorem dL_areExpected_329 : decode cL_areExpected 329 = .ok (.iconst 0, 1) := by decide +kernel
theorem dL_areExpected_330 : decode cL_areExpected 330 = .ok (.lload_n 3, 1) := by decide +kernel
theorem dL_areExpected_331 : decode cL_areExpected 331 = .ok (.invokestatic 69, 3) := by decide +kernel
theorem dL_areExpected_334 : decode cL_areExpected 334 = .ok (.goto 4, 3) := by decide +kernel
theorem dL_areExpected_337 : decode cL_areExpected 337 = .ok (.lconst 0, 1) := by decide +kernel
theorem dL_areExpected_338 : decode cL_areExpected 338 = .ok (.ladd, 1) := by decide +kernel
theorem dL_areExpected_339 : decode cL_areExpected 339 = .ok (.lstore 8, 2) := by decide +kernel
theorem dL_areExpected_341 : decode cL_areExpected 341 = .ok (.iinc 10 1, 3) := by decide +kernel
theorem dL_areExpected_344 : decode cL_areExpected 344 = .ok (.goto (-167), 3) := by decide +kernel
theorem dL_areExpected_347 : decode cL_areExpected 347 = .ok (.lload 6, 2) := by decide +kernel
theorem dL_areExpected_349 : decode cL_areExpected 349 = .ok (.iload 5, 2) := by decide +kernel
theorem dL_areExpected_351 : decode cL_areExpected 351 = .ok (.ifCond .ne 7, 3) := by decide +kernel
theorem dL_areExpected_354 : decode cL_areExpected 354 = .ok (.lconst 0, 1) := by decide +kernel
theorem dL_areExpected_355 : decode cL_areExpected 355 = .ok (.goto 4, 3) := by decide +kernel
theorem dL_areExpected_358 : decode cL_areExpected 358 = .ok (.lload_n 3, 1) := by decide +kernel
theorem dL_areExpected_359 : decode cL_areExpected 359 = .ok (.lcmp, 1) := by decide +kernel
theorem dL_areExpected_360 : decode cL_areExpected 360 = .ok (.ifCond .ne 18, 3) := by decide +kernel
theorem dL_areExpected_363 : decode cL_areExpected 363 = .ok (.lload 8, 2) := by decide +kernel
theorem dL_areExpected_365 : decode cL_areExpected 365 = .ok (.iload 5, 2) := by decide +kernel
theorem dL_areExpected_367 : decode cL_areExpected 367 = .ok (.i2l, 1) := by decide +kernel
theorem dL_areExpected_368 : decode cL_areExpected 368 = .ok (.lload_n 3, 1) := by decide +kernel
theorem dL_areExpected_369 : decode cL_areExpected 369 = .ok (.lmul, 1) := by decide +kernel
theorem dL_areExpected_370 : decode cL_areExpected 370 = .ok (.lcmp, 1) := by decide +kernel
theorem dL_areExpected_371 : decode cL_areExpected 371 = .ok (.ifCond .ne 7, 3) := by decide +kernel
theorem dL_areExpected_374 : decode cL_areExpected 374 = .ok (.iconst 1, 1) := by decide +kernel
theorem dL_areExpected_375 : decode cL_areExpected 375 = .ok (.goto 4, 3) := by decide +kernel
theorem dL_areExpected_378 : decode cL_areExpected 378 = .ok (.iconst 0, 1) := by decide +kernel
theorem dL_areExpected_379 : decode cL_areExpected 379 = .ok (.ireturn, 1) := by decide +kernel
theorem dL_numberOf_0 : decode cL_numberOf 0 = .ok (.aload_n 0, 1) := by decide +kernel
theorem dL_numberOf_1 : decode cL_numberOf 1 = .ok (.iload_n 1, 1) := by decide +kernel
theorem dL_numberOf_2 : decode cL_numberOf 2 = .ok (.iload_n 2, 1) := by decide +kernel
theorem dL_numberOf_3 : decode cL_numberOf 3 = .ok (.iload_n 3, 1) := by decide +kernel
theorem dL_numberOf_4 : decode cL_numberOf 4 = .ok (.iconst 0, 1) := by decide +kernel
theorem dL_numberOf_5 : decode cL_numberOf 5 = .ok (.invokevirtual 65, 3) := by decide +kernel
theorem dL_numberOf_8 : decode cL_numberOf 8 = .ok (.lload 4, 2) := by decide +kernel
theorem dL_numberOf_10 : decode cL_numberOf 10 = .ok (.aload_n 0, 1) := by decide +kernel
theorem dL_numberOf_11 : decode cL_numberOf 11 = .ok (.iload_n 1, 1) := by decide +kernel
theorem dL_numberOf_12 : decode cL_numberOf 12 = .ok (.iload_n 2, 1) := by decide +kernel
theorem dL_numberOf_13 : decode cL_numberOf 13 = .ok (.iload_n 3, 1) := by decide +kernel
theorem dL_numberOf_14 : decode cL_numberOf 14 = .ok (.iconst 1, 1) := by decide +kernel
theorem dL_numberOf_15 : decode cL_numberOf 15 = .ok (.invokevirtual 65, 3) := by decide +kernel
theorem dL_numberOf_18 : decode cL_numberOf 18 = .ok (.ldiv, 1) := by decide +kernel
theorem dL_numberOf_19 : decode cL_numberOf 19 = .ok (.lmul, 1) := by decide +kernel
theorem dL_numberOf_20 : decode cL_numberOf 20 = .ok (.lreturn, 1) := by decide +kernel
theorem dL_areWays_0 : decode cL_areWays 0 = .ok (.aload_n 0, 1) := by decide +kernel
theorem dL_areWays_1 : decode cL_areWays 1 = .ok (.invokevirtual 42, 3) := by decide +kernel
theorem dL_areWays_4 : decode cL_areWays 4 = .ok (.istore_n 3, 1) := by decide +kernel
theorem dL_areWays_5 : decode cL_areWays 5 = .ok (.aload_n 0, 1) := by decide +kernel
theorem dL_areWays_6 : decode cL_areWays 6 = .ok (.iconst 0, 1) := by decide +kernel
theorem dL_areWays_7 : decode cL_areWays 7 = .ok (.invokevirtual 14, 3) := by decide +kernel
theorem dL_areWays_10 : decode cL_areWays 10 = .ok (.istore 4, 2) := by decide +kernel
theorem dL_areWays_12 : decode cL_areWays 12 = .ok (.iload_n 3, 1) := by decide +kernel
theorem dL_areWays_13 : decode cL_areWays 13 = .ok (.bipush 24, 2) := by decide +kernel
theorem dL_areWays_15 : decode cL_areWays 15 = .ok (.if_icmp .le 31, 3) := by decide +kernel
theorem dL_areWays_18 : decode cL_areWays 18 = .ok (.aload_n 0, 1) := by decide +kernel
theorem dL_areWays_19 : decode cL_areWays 19 = .ok (.iload_n 3, 1) := by decide +kernel
theorem dL_areWays_20 : decode cL_areWays 20 = .ok (.invokevirtual 73, 3) := by decide +kernel
theorem dL_areWays_23 : decode cL_areWays 23 = .ok (.ldc2_w 63, 3) := by decide +kernel
theorem dL_areWays_26 : decode cL_areWays 26 = .ok (.lcmp, 1) := by decide +kernel
theorem dL_areWays_27 : decode cL_areWays 27 = .ok (.ifCond .ne 17, 3) := by decide +kernel
theorem dL_areWays_30 : decode cL_areWays 30 = .ok (.aload_n 0, 1) := by decide +kernel
theorem dL_areWays_31 : decode cL_areWays 31 = .ok (.iload_n 3, 1) := by decide +kernel
theorem dL_areWays_32 : decode cL_areWays 32 = .ok (.iconst 0, 1) := by decide +kernel
theorem dL_areWays_33 : decode cL_areWays 33 = .ok (.invokevirtual 77, 3) := by decide +kernel
theorem dL_areWays_36 : decode cL_areWays 36 = .ok (.iconst (-1), 1) := by decide +kernel
theorem dL_areWays_37 : decode cL_areWays 37 = .ok (.if_icmp .ne 7, 3) := by decide +kernel
theorem dL_areWays_40 : decode cL_areWays 40 = .ok (.iconst 1, 1) := by decide +kernel
theorem dL_areWays_41 : decode cL_areWays 41 = .ok (.goto 4, 3) := by decide +kernel
theorem dL_areWays_44 : decode cL_areWays 44 = .ok (.iconst 0, 1) := by decide +kernel
theorem dL_areWays_45 : decode cL_areWays 45 = .ok (.ireturn, 1) := by decide +kernel
theorem dL_areWays_46 : decode cL_areWays 46 = .ok (.lconst 0, 1) := by decide +kernel
theorem dL_areWays_47 : decode cL_areWays 47 = .ok (.lstore 5, 2) := by decide +kernel
theorem dL_areWays_49 : decode cL_areWays 49 = .ok (.lconst 0, 1) := by decide +kernel
theorem dL_areWays_50 : decode cL_areWays 50 = .ok (.lstore 7, 2) := by decide +kernel
theorem dL_areWays_52 : decode cL_areWays 52 = .ok (.bipush (-5), 2) := by decide +kernel
theorem dL_areWays_54 : decode cL_areWays 54 = .ok (.istore 9, 2) := by decide +kernel
theorem dL_areWays_56 : decode cL_areWays 56 = .ok (.iconst 0, 1) := by decide +kernel
theorem dL_areWays_57 : decode cL_areWays 57 = .ok (.istore 10, 2) := by decide +kernel
theorem dL_areWays_59 : decode cL_areWays 59 = .ok (.iload 10, 2) := by decide +kernel
theorem dL_areWays_61 : decode cL_areWays 61 = .ok (.iload_n 3, 1) := by decide +kernel
theorem dL_areWays_62 : decode cL_areWays 62 = .ok (.if_icmp .ge 250, 3) := by decide +kernel
theorem dL_areWays_65 : decode cL_areWays 65 = .ok (.aload_n 0, 1) := by decide +kernel
theorem dL_areWays_66 : decode cL_areWays 66 = .ok (.iload 10, 2) := by decide +kernel
theorem dL_areWays_68 : decode cL_areWays 68 = .ok (.iconst (-1), 1) := by decide +kernel
theorem dL_areWays_69 : decode cL_areWays 69 = .ok (.invokevirtual 77, 3) := by decide +kernel
theorem dL_areWays_72 : decode cL_areWays 72 = .ok (.istore 11, 2) := by decide +kernel
theorem dL_areWays_74 : decode cL_areWays 74 = .ok (.lconst 1, 1) := by decide +kernel
theorem dL_areWays_75 : decode cL_areWays 75 = .ok (.lstore 12, 2) := by decide +kernel
theorem dL_areWays_77 : decode cL_areWays 77 = .ok (.iconst 0, 1) := by decide +kernel
theorem dL_areWays_78 : decode cL_areWays 78 = .ok (.istore 14, 2) := by decide +kernel
theorem dL_areWays_80 : decode cL_areWays 80 = .ok (.iconst 0, 1) := by decide +kernel
theorem dL_areWays_81 : decode cL_areWays 81 = .ok (.istore 15, 2) := by decide +kernel
theorem dL_areWays_83 : decode cL_areWays 83 = .ok (.iload 15, 2) := by decide +kernel
theorem dL_areWays_85 : decode cL_areWays 85 = .ok (.iload 11, 2) := by decide +kernel
theorem dL_areWays_87 : decode cL_areWays 87 = .ok (.if_icmp .ge 104, 3) := by decide +kernel
theorem dL_areWays_90 : decode cL_areWays 90 = .ok (.aload_n 0, 1) := by decide +kernel
theorem dL_areWays_91 : decode cL_areWays 91 = .ok (.iload 10, 2) := by decide +kernel
theorem dL_areWays_93 : decode cL_areWays 93 = .ok (.iload 15, 2) := by decide +kernel
theorem dL_areWays_95 : decode cL_areWays 95 = .ok (.invokevirtual 77, 3) := by decide +kernel
theorem dL_areWays_98 : decode cL_areWays 98 = .ok (.istore 16, 2) := by decide +kernel
theorem dL_areWays_100 : decode cL_areWays 100 = .ok (.lload 12, 2) := by decide +kernel
theorem dL_areWays_102 : decode cL_areWays 102 = .ok (.iload 15, 2) := by decide +kernel
theorem dL_areWays_104 : decode cL_areWays 104 = .ok (.ifCond .ne 15, 3) := by decide +kernel
theorem dL_areWays_107 : decode cL_areWays 107 = .ok (.aload_n 0, 1) := by decide +kernel
theorem dL_areWays_108 : decode cL_areWays 108 = .ok (.iconst 0, 1) := by decide +kernel
theorem dL_areWays_109 : decode cL_areWays 109 = .ok (.iload 16, 2) := by decide +kernel
theorem dL_areWays_111 : decode cL_areWays 111 = .ok (.iconst 0, 1) := by decide +kernel
theorem dL_areWays_112 : decode cL_areWays 112 = .ok (.invokevirtual 8, 3) := by decide +kernel
theorem dL_areWays_115 : decode cL_areWays 115 = .ok (.i2l, 1) := by decide +kernel
theorem dL_areWays_116 : decode cL_areWays 116 = .ok (.goto 21, 3) := by decide +kernel
theorem dL_areWays_119 : decode cL_areWays 119 = .ok (.aload_n 0, 1) := by decide +kernel
theorem dL_areWays_120 : decode cL_areWays 120 = .ok (.iconst 1, 1) := by decide +kernel
theorem dL_areWays_121 : decode cL_areWays 121 = .ok (.aload_n 0, 1) := by decide +kernel
theorem dL_areWays_122 : decode cL_areWays 122 = .ok (.iload 10, 2) := by decide +kernel
theorem dL_areWays_124 : decode cL_areWays 124 = .ok (.iload 15, 2) := by decide +kernel
theorem dL_areWays_126 : decode cL_areWays 126 = .ok (.iconst 1, 1) := by decide +kernel
theorem dL_areWays_127 : decode cL_areWays 127 = .ok (.isub, 1) := by decide +kernel
theorem dL_areWays_128 : decode cL_areWays 128 = .ok (.invokevirtual 77, 3) := by decide +kernel
theorem dL_areWays_131 : decode cL_areWays 131 = .ok (.iload 16, 2) := by decide +kernel
theorem dL_areWays_133 : decode cL_areWays 133 = .ok (.invokevirtual 8, 3) := by decide +kernel
theorem dL_areWays_136 : decode cL_areWays 136 = .ok (.i2l, 1) := by decide +kernel
theorem dL_areWays_137 : decode cL_areWays 137 = .ok (.lmul, 1) := by decide +kernel
theorem dL_areWays_138 : decode cL_areWays 138 = .ok (.lstore 12, 2) := by decide +kernel
theorem dL_areWays_140 : decode cL_areWays 140 = .ok (.lload 12, 2) := by decide +kernel
theorem dL_areWays_142 : decode cL_areWays 142 = .ok (.iload 16, 2) := by decide +kernel
theorem dL_areWays_144 : decode cL_areWays 144 = .ok (.iconst 4, 1) := by decide +kernel
theorem dL_areWays_145 : decode cL_areWays 145 = .ok (.if_icmp .ge 20, 3) := by decide +kernel
theorem dL_areWays_148 : decode cL_areWays 148 = .ok (.aload_n 0, 1) := by decide +kernel
theorem dL_areWays_149 : decode cL_areWays 149 = .ok (.iconst 2, 1) := by decide +kernel
theorem dL_areWays_150 : decode cL_areWays 150 = .ok (.iload 16, 2) := by decide +kernel
theorem dL_areWays_152 : decode cL_areWays 152 = .ok (.aload_n 0, 1) := by decide +kernel
theorem dL_areWays_153 : decode cL_areWays 153 = .ok (.iload 14, 2) := by decide +kernel
theorem dL_areWays_155 : decode cL_areWays 155 = .ok (.invokevirtual 18, 3) := by decide +kernel
theorem dL_areWays_158 : decode cL_areWays 158 = .ok (.invokevirtual 8, 3) := by decide +kernel
theorem dL_areWays_161 : decode cL_areWays 161 = .ok (.i2l, 1) := by decide +kernel
theorem dL_areWays_162 : decode cL_areWays 162 = .ok (.goto 4, 3) := by decide +kernel
theorem dL_areWays_165 : decode cL_areWays 165 = .ok (.lconst 1, 1) := by decide +kernel
theorem dL_areWays_166 : decode cL_areWays 166 = .ok (.lmul, 1) := by decide +kernel
theorem dL_areWays_167 : decode cL_areWays 167 = .ok (.lstore 12, 2) := by decide +kernel
theorem dL_areWays_169 : decode cL_areWays 169 = .ok (.iload 14, 2) := by decide +kernel
theorem dL_areWays_171 : decode cL_areWays 171 = .ok (.iload 16, 2) := by decide +kernel
theorem dL_areWays_173 : decode cL_areWays 173 = .ok (.iconst 4, 1) := by decide +kernel
theorem dL_areWays_174 : decode cL_areWays 174 = .ok (.if_icmp .ge 7, 3) := by decide +kernel
theorem dL_areWays_177 : decode cL_areWays 177 = .ok (.iconst 1, 1) := by decide +kernel
theorem dL_areWays_178 : decode cL_areWays 178 = .ok (.goto 4, 3) := by decide +kernel
theorem dL_areWays_181 : decode cL_areWays 181 = .ok (.iconst 0, 1) := by decide +kernel
theorem dL_areWays_182 : decode cL_areWays 182 = .ok (.iadd, 1) := by decide +kernel
theorem dL_areWays_183 : decode cL_areWays 183 = .ok (.istore 14, 2) := by decide +kernel
theorem dL_areWays_185 : decode cL_areWays 185 = .ok (.iinc 15 1, 3) := by decide +kernel
theorem dL_areWays_188 : decode cL_areWays 188 = .ok (.goto (-105), 3) := by decide +kernel
theorem dL_areWays_191 : decode cL_areWays 191 = .ok (.lload 12, 2) := by decide +kernel
theorem dL_areWays_193 : decode cL_areWays 193 = .ok (.lconst 0, 1) := by decide +kernel
theorem dL_areWays_194 : decode cL_areWays 194 = .ok (.lcmp, 1) := by decide +kernel
theorem dL_areWays_195 : decode cL_areWays 195 = .ok (.ifCond .le 68, 3) := by decide +kernel
theorem dL_areWays_198 : decode cL_areWays 198 = .ok (.aload_n 0, 1) := by decide +kernel
theorem dL_areWays_199 : decode cL_areWays 199 = .ok (.iload 10, 2) := by decide +kernel
theorem dL_areWays_201 : decode cL_areWays 201 = .ok (.invokevirtual 73, 3) := by decide +kernel
theorem dL_areWays_204 : decode cL_areWays 204 = .ok (.lload 12, 2) := by decide +kernel
theorem dL_areWays_206 : decode cL_areWays 206 = .ok (.lcmp, 1) := by decide +kernel
theorem dL_areWays_207 : decode cL_areWays 207 = .ok (.ifCond .ne 56, 3) := by decide +kernel
theorem dL_areWays_210 : decode cL_areWays 210 = .ok (.iload 14, 2) := by decide +kernel
theorem dL_areWays_212 : decode cL_areWays 212 = .ok (.iload 4, 2) := by decide +kernel
theorem dL_areWays_214 : decode cL_areWays 214 = .ok (.if_icmp .ne 49, 3) := by decide +kernel
theorem dL_areWays_217 : decode cL_areWays 217 = .ok (.iload 11, 2) := by decide +kernel
theorem dL_areWays_219 : decode cL_areWays 219 = .ok (.ifCond .le 17, 3) := by decide +kernel
theorem dL_areWays_222 : decode cL_areWays 222 = .ok (.aload_n 0, 1) := by decide +kernel
theorem dL_areWays_223 : decode cL_areWays 223 = .ok (.iload 10, 2) := by decide +kernel
theorem dL_areWays_225 : decode cL_areWays 225 = .ok (.iload 11, 2) := by decide +kernel
theorem dL_areWays_227 : decode cL_areWays 227 = .ok (.iconst 1, 1) := by decide +kernel
theorem dL_areWays_228 : decode cL_areWays 228 = .ok (.isub, 1) := by decide +kernel
theorem dL_areWays_229 : decode cL_areWays 229 = .ok (.invokevirtual 77, 3) := by decide +kernel
theorem dL_areWays_232 : decode cL_areWays 232 = .ok (.iconst 3, 1) := by decide +kernel
theorem dL_areWays_233 : decode cL_areWays 233 = .ok (.if_icmp .gt 30, 3) := by decide +kernel
theorem dL_areWays_236 : decode cL_areWays 236 = .ok (.aload_n 0, 1) := by decide +kernel
theorem dL_areWays_237 : decode cL_areWays 237 = .ok (.iload 10, 2) := by decide +kernel
theorem dL_areWays_239 : decode cL_areWays 239 = .ok (.iload 11, 2) := by decide +kernel
theorem dL_areWays_241 : decode cL_areWays 241 = .ok (.invokevirtual 77, 3) := by decide +kernel
theorem dL_areWays_244 : decode cL_areWays 244 = .ok (.bipush (-6), 2) := by decide +kernel
theorem dL_areWays_246 : decode cL_areWays 246 = .ok (.if_icmp .ne 17, 3) := by decide +kernel
theorem dL_areWays_249 : decode cL_areWays 249 = .ok (.iload 10, 2) := by decide +kernel
theorem dL_areWays_251 : decode cL_areWays 251 = .ok (.ifCond .le 14, 3) := by decide +kernel
theorem dL_areWays_254 : decode cL_areWays 254 = .ok (.aload_n 0, 1) := by decide +kernel
theorem dL_areWays_255 : decode cL_areWays 255 = .ok (.iload 10, 2) := by decide +kernel
theorem dL_areWays_257 : decode cL_areWays 257 = .ok (.invokestatic 81, 3) := by decide +kernel
theorem dL_areWays_260 : decode cL_areWays 260 = .ok (.ifCond .ne 5, 3) := by decide +kernel
theorem dL_areWays_263 : decode cL_areWays 263 = .ok (.iconst 0, 1) := by decide +kernel
theorem dL_areWays_264 : decode cL_areWays 264 = .ok (.ireturn, 1) := by decide +kernel
theorem dL_areWays_265 : decode cL_areWays 265 = .ok (.lload 5, 2) := by decide +kernel
theorem dL_areWays_267 : decode cL_areWays 267 = .ok (.lload 12, 2) := by decide +kernel
theorem dL_areWays_269 : decode cL_areWays 269 = .ok (.ladd, 1) := by decide +kernel
theorem dL_areWays_270 : decode cL_areWays 270 = .ok (.lstore 5, 2) := by decide +kernel
theorem dL_areWays_272 : decode cL_areWays 272 = .ok (.lload 12, 2) := by decide +kernel
theorem dL_areWays_274 : decode cL_areWays 274 = .ok (.lload 7, 2) := by decide +kernel
theorem dL_areWays_276 : decode cL_areWays 276 = .ok (.lcmp, 1) := by decide +kernel
theorem dL_areWays_277 : decode cL_areWays 277 = .ok (.ifCond .le 8, 3) := by decide +kernel
theorem dL_areWays_280 : decode cL_areWays 280 = .ok (.iload 10, 2) := by decide +kernel
theorem dL_areWays_282 : decode cL_areWays 282 = .ok (.goto 5, 3) := by decide +kernel
theorem dL_areWays_285 : decode cL_areWays 285 = .ok (.iload 9, 2) := by decide +kernel
theorem dL_areWays_287 : decode cL_areWays 287 = .ok (.istore 9, 2) := by decide +kernel
theorem dL_areWays_289 : decode cL_areWays 289 = .ok (.lload 12, 2) := by decide +kernel
theorem dL_areWays_291 : decode cL_areWays 291 = .ok (.lload 7, 2) := by decide +kernel
theorem dL_areWays_293 : decode cL_areWays 293 = .ok (.lcmp, 1) := by decide +kernel
theorem dL_areWays_294 : decode cL_areWays 294 = .ok (.ifCond .le 8, 3) := by decide +kernel
theorem dL_areWays_297 : decode cL_areWays 297 = .ok (.lload 12, 2) := by decide +kernel
theorem dL_areWays_299 : decode cL_areWays 299 = .ok (.goto 5, 3) := by decide +kernel
theorem dL_areWays_302 : decode cL_areWays 302 = .ok (.lload 7, 2) := by decide +kernel
theorem dL_areWays_304 : decode cL_areWays 304 = .ok (.lstore 7, 2) := by decide +kernel
theorem dL_areWays_306 : decode cL_areWays 306 = .ok (.iinc 10 1, 3) := by decide +kernel
theorem dL_areWays_309 : decode cL_areWays 309 = .ok (.goto (-250), 3) := by decide +kernel
theorem dL_areWays_312 : decode cL_areWays 312 = .ok (.aload_n 0, 1) := by decide +kernel
theorem dL_areWays_313 : decode cL_areWays 313 = .ok (.bipush (-2), 2) := by decide +kernel
theorem dL_areWays_315 : decode cL_areWays 315 = .ok (.invokevirtual 85, 3) := by decide +kernel
theorem dL_areWays_318 : decode cL_areWays 318 = .ok (.iload 9, 2) := by decide +kernel
theorem dL_areWays_320 : decode cL_areWays 320 = .ok (.if_icmp .ne 22, 3) := by decide +kernel
theorem dL_areWays_323 : decode cL_areWays 323 = .ok (.lload 5, 2) := by decide +kernel
theorem dL_areWays_325 : decode cL_areWays 325 = .ok (.lload_n 1, 1) := by decide +kernel
theorem dL_areWays_326 : decode cL_areWays 326 = .ok (.lcmp, 1) := by decide +kernel
theorem dL_areWays_327 : decode cL_areWays 327 = .ok (.ifCond .ne 15, 3) := by decide +kernel
theorem dL_areWays_330 : decode cL_areWays 330 = .ok (.aload_n 0, 1) := by decide +kernel
theorem dL_areWays_331 : decode cL_areWays 331 = .ok (.iload_n 3, 1) := by decide +kernel
theorem dL_areWays_332 : decode cL_areWays 332 = .ok (.invokevirtual 73, 3) := by decide +kernel
theorem dL_areWays_335 : decode cL_areWays 335 = .ok (.ldc2_w 63, 3) := by decide +kernel
theorem dL_areWays_338 : decode cL_areWays 338 = .ok (.lcmp, 1) := by decide +kernel
theorem dL_areWays_339 : decode cL_areWays 339 = .ok (.ifCond .eq 5, 3) := by decide +kernel
theorem dL_areWays_342 : decode cL_areWays 342 = .ok (.iconst 0, 1) := by decide +kernel
theorem dL_areWays_343 : decode cL_areWays 343 = .ok (.ireturn, 1) := by decide +kernel
theorem dL_areWays_344 : decode cL_areWays 344 = .ok (.iconst (-1), 1) := by decide +kernel
theorem dL_areWays_345 : decode cL_areWays 345 = .ok (.istore 10, 2) := by decide +kernel
theorem dL_areWays_347 : decode cL_areWays 347 = .ok (.iload 9, 2) := by decide +kernel
theorem dL_areWays_349 : decode cL_areWays 349 = .ok (.ifCond .lt 40, 3) := by decide +kernel
theorem dL_areWays_352 : decode cL_areWays 352 = .ok (.iload 10, 2) := by decide +kernel
theorem dL_areWays_354 : decode cL_areWays 354 = .ok (.aload_n 0, 1) := by decide +kernel
theorem dL_areWays_355 : decode cL_areWays 355 = .ok (.iload 9, 2) := by decide +kernel
theorem dL_areWays_357 : decode cL_areWays 357 = .ok (.iconst (-1), 1) := by decide +kernel
theorem dL_areWays_358 : decode cL_areWays 358 = .ok (.invokevirtual 77, 3) := by decide +kernel
theorem dL_areWays_361 : decode cL_areWays 361 = .ok (.if_icmp .gt 28, 3) := by decide +kernel
theorem dL_areWays_364 : decode cL_areWays 364 = .ok (.aload_n 0, 1) := by decide +kernel
theorem dL_areWays_365 : decode cL_areWays 365 = .ok (.iload 10, 2) := by decide +kernel
theorem dL_areWays_367 : decode cL_areWays 367 = .ok (.invokevirtual 85, 3) := by decide +kernel
theorem dL_areWays_370 : decode cL_areWays 370 = .ok (.aload_n 0, 1) := by decide +kernel
theorem dL_areWays_371 : decode cL_areWays 371 = .ok (.iload 9, 2) := by decide +kernel
theorem dL_areWays_373 : decode cL_areWays 373 = .ok (.iload 10, 2) := by decide +kernel
theorem dL_areWays_375 : decode cL_areWays 375 = .ok (.invokevirtual 77, 3) := by decide +kernel
theorem dL_areWays_378 : decode cL_areWays 378 = .ok (.if_icmp .eq 5, 3) := by decide +kernel
theorem dL_areWays_381 : decode cL_areWays 381 = .ok (.iconst 0, 1) := by decide +kernel
theorem dL_areWays_382 : decode cL_areWays 382 = .ok (.ireturn, 1) := by decide +kernel
theorem dL_areWays_383 : decode cL_areWays 383 = .ok (.iinc 10 1, 3) := by decide +kernel
theorem dL_areWays_386 : decode cL_areWays 386 = .ok (.goto (-39), 3) := by decide +kernel
theorem dL_areWays_389 : decode cL_areWays 389 = .ok (.aload_n 0, 1) := by decide +kernel
theorem dL_areWays_390 : decode cL_areWays 390 = .ok (.invokevirtual 88, 3) := by decide +kernel
theorem dL_areWays_393 : decode cL_areWays 393 = .ok (.bipush (-5), 2) := by decide +kernel
theorem dL_areWays_395 : decode cL_areWays 395 = .ok (.if_icmp .ne 7, 3) := by decide +kernel
theorem dL_areWays_398 : decode cL_areWays 398 = .ok (.iconst 1, 1) := by decide +kernel
theorem dL_areWays_399 : decode cL_areWays 399 = .ok (.goto 4, 3) := by decide +kernel
theorem dL_areWays_402 : decode cL_areWays 402 = .ok (.iconst 0, 1) := by decide +kernel
theorem dL_areWays_403 : decode cL_areWays 403 = .ok (.lload_n 1, 1) := by decide +kernel
theorem dL_areWays_404 : decode cL_areWays 404 = .ok (.lconst 0, 1) := by decide +kernel
theorem dL_areWays_405 : decode cL_areWays 405 = .ok (.lcmp, 1) := by decide +kernel
theorem dL_areWays_406 : decode cL_areWays 406 = .ok (.ifCond .ne 7, 3) := by decide +kernel
theorem dL_areWays_409 : decode cL_areWays 409 = .ok (.iconst 1, 1) := by decide +kernel
theorem dL_areWays_410 : decode cL_areWays 410 = .ok (.goto 4, 3) := by decide +kernel
theorem dL_areWays_413 : decode cL_areWays 413 = .ok (.iconst 0, 1) := by decide +kernel
theorem dL_areWays_414 : decode cL_areWays 414 = .ok (.if_icmp .ne 21, 3) := by decide +kernel
theorem dL_areWays_417 : decode cL_areWays 417 = .ok (.iload_n 3, 1) := by decide +kernel
theorem dL_areWays_418 : decode cL_areWays 418 = .ok (.iconst 1, 1) := by decide +kernel
theorem dL_areWays_419 : decode cL_areWays 419 = .ok (.if_icmp .ne 12, 3) := by decide +kernel
theorem dL_areWays_422 : decode cL_areWays 422 = .ok (.aload_n 0, 1) := by decide +kernel
theorem dL_areWays_423 : decode cL_areWays 423 = .ok (.invokevirtual 88, 3) := by decide +kernel
theorem dL_areWays_426 : decode cL_areWays 426 = .ok (.ldc 91, 2) := by decide +kernel
theorem dL_areWays_428 : decode cL_areWays 428 = .ok (.if_icmp .ne 7, 3) := by decide +kernel
theorem dL_areWays_431 : decode cL_areWays 431 = .ok (.iconst 1, 1) := by decide +kernel
theorem dL_areWays_432 : decode cL_areWays 432 = .ok (.goto 4, 3) := by decide +kernel
theorem dL_areWays_435 : decode cL_areWays 435 = .ok (.iconst 0, 1) := by decide +kernel
theorem dL_areWays_436 : decode cL_areWays 436 = .ok (.ireturn, 1) := by decide +kernel
theorem dL_isBehind_0 : decode cL_isBehind 0 = .ok (.iconst 0, 1) := by decide +kernel
theorem dL_isBehind_1 : decode cL_isBehind 1 = .ok (.istore_n 2, 1) := by decide +kernel
theorem dL_isBehind_2 : decode cL_isBehind 2 = .ok (.aload_n 0, 1) := by decide +kernel
theorem dL_isBehind_3 : decode cL_isBehind 3 = .ok (.iload_n 1, 1) := by decide +kernel
theorem dL_isBehind_4 : decode cL_isBehind 4 = .ok (.iload_n 2, 1) := by decide +kernel
theorem dL_isBehind_5 : decode cL_isBehind 5 = .ok (.invokevirtual 77, 3) := by decide +kernel
theorem dL_isBehind_8 : decode cL_isBehind 8 = .ok (.aload_n 0, 1) := by decide +kernel
theorem dL_isBehind_9 : decode cL_isBehind 9 = .ok (.iload_n 1, 1) := by decide +kernel
theorem dL_isBehind_10 : decode cL_isBehind 10 = .ok (.iconst 1, 1) := by decide +kernel
theorem dL_isBehind_11 : decode cL_isBehind 11 = .ok (.isub, 1) := by decide +kernel
theorem dL_isBehind_12 : decode cL_isBehind 12 = .ok (.iload_n 2, 1) := by decide +kernel
theorem dL_isBehind_13 : decode cL_isBehind 13 = .ok (.invokevirtual 77, 3) := by decide +kernel
theorem dL_isBehind_16 : decode cL_isBehind 16 = .ok (.if_icmp .ne 18, 3) := by decide +kernel
theorem dL_isBehind_19 : decode cL_isBehind 19 = .ok (.aload_n 0, 1) := by decide +kernel
theorem dL_isBehind_20 : decode cL_isBehind 20 = .ok (.iload_n 1, 1) := by decide +kernel
theorem dL_isBehind_21 : decode cL_isBehind 21 = .ok (.iload_n 2, 1) := by decide +kernel
theorem dL_isBehind_22 : decode cL_isBehind 22 = .ok (.invokevirtual 77, 3) := by decide +kernel
theorem dL_isBehind_25 : decode cL_isBehind 25 = .ok (.ifCond .lt 9, 3) := by decide +kernel
theorem dL_isBehind_28 : decode cL_isBehind 28 = .ok (.iinc 2 1, 3) := by decide +kernel
theorem dL_isBehind_31 : decode cL_isBehind 31 = .ok (.goto (-29), 3) := by decide +kernel
theorem dL_isBehind_34 : decode cL_isBehind 34 = .ok (.aload_n 0, 1) := by decide +kernel
theorem dL_isBehind_35 : decode cL_isBehind 35 = .ok (.iload_n 1, 1) := by decide +kernel
theorem dL_isBehind_36 : decode cL_isBehind 36 = .ok (.iconst 1, 1) := by decide +kernel
theorem dL_isBehind_37 : decode cL_isBehind 37 = .ok (.isub, 1) := by decide +kernel
theorem dL_isBehind_38 : decode cL_isBehind 38 = .ok (.iload_n 2, 1) := by decide +kernel
theorem dL_isBehind_39 : decode cL_isBehind 39 = .ok (.invokevirtual 77, 3) := by decide +kernel
theorem dL_isBehind_42 : decode cL_isBehind 42 = .ok (.ifCond .lt 24, 3) := by decide +kernel
theorem dL_isBehind_45 : decode cL_isBehind 45 = .ok (.aload_n 0, 1) := by decide +kernel
theorem dL_isBehind_46 : decode cL_isBehind 46 = .ok (.iload_n 1, 1) := by decide +kernel
theorem dL_isBehind_47 : decode cL_isBehind 47 = .ok (.iload_n 2, 1) := by decide +kernel
theorem dL_isBehind_48 : decode cL_isBehind 48 = .ok (.invokevirtual 77, 3) := by decide +kernel
theorem dL_isBehind_51 : decode cL_isBehind 51 = .ok (.aload_n 0, 1) := by decide +kernel
theorem dL_isBehind_52 : decode cL_isBehind 52 = .ok (.iload_n 1, 1) := by decide +kernel
theorem dL_isBehind_53 : decode cL_isBehind 53 = .ok (.iconst 1, 1) := by decide +kernel
theorem dL_isBehind_54 : decode cL_isBehind 54 = .ok (.isub, 1) := by decide +kernel
theorem dL_isBehind_55 : decode cL_isBehind 55 = .ok (.iload_n 2, 1) := by decide +kernel
theorem dL_isBehind_56 : decode cL_isBehind 56 = .ok (.invokevirtual 77, 3) := by decide +kernel
theorem dL_isBehind_59 : decode cL_isBehind 59 = .ok (.if_icmp .le 7, 3) := by decide +kernel
theorem dL_isBehind_62 : decode cL_isBehind 62 = .ok (.iconst 1, 1) := by decide +kernel
theorem dL_isBehind_63 : decode cL_isBehind 63 = .ok (.goto 4, 3) := by decide +kernel
theorem dL_isBehind_66 : decode cL_isBehind 66 = .ok (.iconst 0, 1) := by decide +kernel
theorem dL_isBehind_67 : decode cL_isBehind 67 = .ok (.ireturn, 1) := by decide +kernel
theorem dL_agree_0 : decode cL_agree 0 = .ok (.bipush 24, 2) := by decide +kernel
theorem dL_agree_2 : decode cL_agree 2 = .ok (.newarray .long, 2) := by decide +kernel
theorem dL_agree_4 : decode cL_agree 4 = .ok (.astore_n 1, 1) := by decide +kernel
theorem dL_agree_5 : decode cL_agree 5 = .ok (.bipush 24, 2) := by decide +kernel
theorem dL_agree_7 : decode cL_agree 7 = .ok (.newarray .long, 2) := by decide +kernel
theorem dL_agree_9 : decode cL_agree 9 = .ok (.astore_n 2, 1) := by decide +kernel
theorem dL_agree_10 : decode cL_agree 10 = .ok (.iconst 0, 1) := by decide +kernel
theorem dL_agree_11 : decode cL_agree 11 = .ok (.istore_n 3, 1) := by decide +kernel
theorem dL_agree_12 : decode cL_agree 12 = .ok (.iconst 0, 1) := by decide +kernel
theorem dL_agree_13 : decode cL_agree 13 = .ok (.istore 4, 2) := by decide +kernel
theorem dL_agree_15 : decode cL_agree 15 = .ok (.iload 4, 2) := by decide +kernel
theorem dL_agree_17 : decode cL_agree 17 = .ok (.bipush 6, 2) := by decide +kernel
theorem dL_agree_19 : decode cL_agree 19 = .ok (.if_icmp .ge 96, 3) := by decide +kernel
theorem dL_agree_22 : decode cL_agree 22 = .ok (.iload_n 3, 1) := by decide +kernel
theorem dL_agree_23 : decode cL_agree 23 = .ok (.aload_n 0, 1) := by decide +kernel
theorem dL_agree_24 : decode cL_agree 24 = .ok (.iconst 0, 1) := by decide +kernel
theorem dL_agree_25 : decode cL_agree 25 = .ok (.iload 4, 2) := by decide +kernel
theorem dL_agree_27 : decode cL_agree 27 = .ok (.iconst 0, 1) := by decide +kernel
theorem dL_agree_28 : decode cL_agree 28 = .ok (.invokevirtual 8, 3) := by decide +kernel
theorem dL_agree_31 : decode cL_agree 31 = .ok (.ifCond .le 7, 3) := by decide +kernel
theorem dL_agree_34 : decode cL_agree 34 = .ok (.iconst 1, 1) := by decide +kernel
theorem dL_agree_35 : decode cL_agree 35 = .ok (.goto 4, 3) := by decide +kernel
theorem dL_agree_38 : decode cL_agree 38 = .ok (.iconst 0, 1) := by decide +kernel
theorem dL_agree_39 : decode cL_agree 39 = .ok (.iadd, 1) := by decide +kernel
theorem dL_agree_40 : decode cL_agree 40 = .ok (.istore_n 3, 1) := by decide +kernel
theorem dL_agree_41 : decode cL_agree 41 = .ok (.iconst 0, 1) := by decide +kernel
theorem dL_agree_42 : decode cL_agree 42 = .ok (.istore 5, 2) := by decide +kernel
theorem dL_agree_44 : decode cL_agree 44 = .ok (.iload 5, 2) := by decide +kernel
theorem dL_agree_46 : decode cL_agree 46 = .ok (.bipush 6, 2) := by decide +kernel
theorem dL_agree_48 : decode cL_agree 48 = .ok (.if_icmp .ge 61, 3) := by decide +kernel
theorem dL_agree_51 : decode cL_agree 51 = .ok (.iload_n 3, 1) := by decide +kernel
theorem dL_agree_52 : decode cL_agree 52 = .ok (.aload_n 0, 1) := by decide +kernel
theorem dL_agree_53 : decode cL_agree 53 = .ok (.iconst 1, 1) := by decide +kernel
theorem dL_agree_54 : decode cL_agree 54 = .ok (.iload 4, 2) := by decide +kernel
theorem dL_agree_56 : decode cL_agree 56 = .ok (.iload 5, 2) := by decide +kernel
theorem dL_agree_58 : decode cL_agree 58 = .ok (.invokevirtual 8, 3) := by decide +kernel
theorem dL_agree_61 : decode cL_agree 61 = .ok (.ifCond .le 7, 3) := by decide +kernel
theorem dL_agree_64 : decode cL_agree 64 = .ok (.iconst 1, 1) := by decide +kernel
theorem dL_agree_65 : decode cL_agree 65 = .ok (.goto 4, 3) := by decide +kernel
theorem dL_agree_68 : decode cL_agree 68 = .ok (.iconst 0, 1) := by decide +kernel
theorem dL_agree_69 : decode cL_agree 69 = .ok (.iadd, 1) := by decide +kernel
theorem dL_agree_70 : decode cL_agree 70 = .ok (.istore_n 3, 1) := by decide +kernel
theorem dL_agree_71 : decode cL_agree 71 = .ok (.iload_n 3, 1) := by decide +kernel
theorem dL_agree_72 : decode cL_agree 72 = .ok (.iload 4, 2) := by decide +kernel
theorem dL_agree_74 : decode cL_agree 74 = .ok (.iconst 4, 1) := by decide +kernel
theorem dL_agree_75 : decode cL_agree 75 = .ok (.if_icmp .ge 25, 3) := by decide +kernel
theorem dL_agree_78 : decode cL_agree 78 = .ok (.iload 5, 2) := by decide +kernel
theorem dL_agree_80 : decode cL_agree 80 = .ok (.iconst 4, 1) := by decide +kernel
theorem dL_agree_81 : decode cL_agree 81 = .ok (.if_icmp .ge 19, 3) := by decide +kernel
theorem dL_agree_84 : decode cL_agree 84 = .ok (.aload_n 0, 1) := by decide +kernel
theorem dL_agree_85 : decode cL_agree 85 = .ok (.iconst 2, 1) := by decide +kernel
theorem dL_agree_86 : decode cL_agree 86 = .ok (.iload 4, 2) := by decide +kernel
theorem dL_agree_88 : decode cL_agree 88 = .ok (.iload 5, 2) := by decide +kernel
theorem dL_agree_90 : decode cL_agree 90 = .ok (.invokevirtual 8, 3) := by decide +kernel
theorem dL_agree_93 : decode cL_agree 93 = .ok (.ifCond .le 7, 3) := by decide +kernel
theorem dL_agree_96 : decode cL_agree 96 = .ok (.iconst 1, 1) := by decide +kernel
theorem dL_agree_97 : decode cL_agree 97 = .ok (.goto 4, 3) := by decide +kernel
theorem dL_agree_100 : decode cL_agree 100 = .ok (.iconst 0, 1) := by decide +kernel
theorem dL_agree_101 : decode cL_agree 101 = .ok (.iadd, 1) := by decide +kernel
theorem dL_agree_102 : decode cL_agree 102 = .ok (.istore_n 3, 1) := by decide +kernel
theorem dL_agree_103 : decode cL_agree 103 = .ok (.iinc 5 1, 3) := by decide +kernel
theorem dL_agree_106 : decode cL_agree 106 = .ok (.goto (-62), 3) := by decide +kernel
theorem dL_agree_109 : decode cL_agree 109 = .ok (.iinc 4 1, 3) := by decide +kernel
theorem dL_agree_112 : decode cL_agree 112 = .ok (.goto (-97), 3) := by decide +kernel
theorem dL_agree_115 : decode cL_agree 115 = .ok (.aload_n 0, 1) := by decide +kernel
theorem dL_agree_116 : decode cL_agree 116 = .ok (.iconst 1, 1) := by decide +kernel
theorem dL_agree_117 : decode cL_agree 117 = .ok (.invokevirtual 14, 3) := by decide +kernel
theorem dL_agree_120 : decode cL_agree 120 = .ok (.iload_n 3, 1) := by decide +kernel
theorem dL_agree_121 : decode cL_agree 121 = .ok (.if_icmp .ne 83, 3) := by decide +kernel
theorem dL_agree_124 : decode cL_agree 124 = .ok (.aload_n 0, 1) := by decide +kernel
theorem dL_agree_125 : decode cL_agree 125 = .ok (.iconst 1, 1) := by decide +kernel
theorem dL_agree_126 : decode cL_agree 126 = .ok (.iconst 4, 1) := by decide +kernel
theorem dL_agree_127 : decode cL_agree 127 = .ok (.iconst 4, 1) := by decide +kernel
theorem dL_agree_128 : decode cL_agree 128 = .ok (.invokevirtual 8, 3) := by decide +kernel
theorem dL_agree_131 : decode cL_agree 131 = .ok (.ifCond .ne 73, 3) := by decide +kernel
theorem dL_agree_134 : decode cL_agree 134 = .ok (.aload_n 0, 1) := by decide +kernel
theorem dL_agree_135 : decode cL_agree 135 = .ok (.iconst 1, 1) := by decide +kernel
theorem dL_agree_136 : decode cL_agree 136 = .ok (.iconst 5, 1) := by decide +kernel
theorem dL_agree_137 : decode cL_agree 137 = .ok (.iconst 5, 1) := by decide +kernel
theorem dL_agree_138 : decode cL_agree 138 = .ok (.invokevirtual 8, 3) := by decide +kernel
theorem dL_agree_141 : decode cL_agree 141 = .ok (.ifCond .ne 63, 3) := by decide +kernel
theorem dL_agree_144 : decode cL_agree 144 = .ok (.aload_n 0, 1) := by decide +kernel
theorem dL_agree_145 : decode cL_agree 145 = .ok (.iconst 1, 1) := by decide +kernel
theorem dL_agree_146 : decode cL_agree 146 = .ok (.iconst 5, 1) := by decide +kernel
theorem dL_agree_147 : decode cL_agree 147 = .ok (.iconst 4, 1) := by decide +kernel
theorem dL_agree_148 : decode cL_agree 148 = .ok (.invokevirtual 8, 3) := by decide +kernel
theorem dL_agree_151 : decode cL_agree 151 = .ok (.ifCond .ne 53, 3) := by decide +kernel
theorem dL_agree_154 : decode cL_agree 154 = .ok (.aload_n 0, 1) := by decide +kernel
theorem dL_agree_155 : decode cL_agree 155 = .ok (.aload_n 1, 1) := by decide +kernel
theorem dL_agree_156 : decode cL_agree 156 = .ok (.aload_n 2, 1) := by decide +kernel
theorem dL_agree_157 : decode cL_agree 157 = .ok (.invokestatic 92, 3) := by decide +kernel
theorem dL_agree_160 : decode cL_agree 160 = .ok (.ifCond .eq 44, 3) := by decide +kernel
theorem dL_agree_163 : decode cL_agree 163 = .ok (.aload_n 0, 1) := by decide +kernel
theorem dL_agree_164 : decode cL_agree 164 = .ok (.aload_n 1, 1) := by decide +kernel
theorem dL_agree_165 : decode cL_agree 165 = .ok (.aload_n 2, 1) := by decide +kernel
theorem dL_agree_166 : decode cL_agree 166 = .ok (.aload_n 0, 1) := by decide +kernel
theorem dL_agree_167 : decode cL_agree 167 = .ok (.invokevirtual 38, 3) := by decide +kernel
theorem dL_agree_170 : decode cL_agree 170 = .ok (.invokestatic 96, 3) := by decide +kernel
theorem dL_agree_173 : decode cL_agree 173 = .ok (.ifCond .eq 31, 3) := by decide +kernel
theorem dL_agree_176 : decode cL_agree 176 = .ok (.aload_n 0, 1) := by decide +kernel
theorem dL_agree_177 : decode cL_agree 177 = .ok (.aload_n 1, 1) := by decide +kernel
theorem dL_agree_178 : decode cL_agree 178 = .ok (.aload_n 2, 1) := by decide +kernel
theorem dL_agree_179 : decode cL_agree 179 = .ok (.aload_n 0, 1) := by decide +kernel
theorem dL_agree_180 : decode cL_agree 180 = .ok (.invokevirtual 38, 3) := by decide +kernel
theorem dL_agree_183 : decode cL_agree 183 = .ok (.invokestatic 100, 3) := by decide +kernel
theorem dL_agree_186 : decode cL_agree 186 = .ok (.ifCond .eq 18, 3) := by decide +kernel
theorem dL_agree_189 : decode cL_agree 189 = .ok (.aload_n 0, 1) := by decide +kernel
theorem dL_agree_190 : decode cL_agree 190 = .ok (.aload_n 0, 1) := by decide +kernel
theorem dL_agree_191 : decode cL_agree 191 = .ok (.invokevirtual 38, 3) := by decide +kernel
theorem dL_agree_194 : decode cL_agree 194 = .ok (.invokestatic 103, 3) := by decide +kernel
theorem dL_agree_197 : decode cL_agree 197 = .ok (.ifCond .eq 7, 3) := by decide +kernel
theorem dL_agree_200 : decode cL_agree 200 = .ok (.iconst 1, 1) := by decide +kernel
theorem dL_agree_201 : decode cL_agree 201 = .ok (.goto 4, 3) := by decide +kernel
theorem dL_agree_204 : decode cL_agree 204 = .ok (.iconst 0, 1) := by decide +kernel
theorem dL_agree_205 : decode cL_agree 205 = .ok (.ireturn, 1) := by decide +kernel
theorem dL_isTrained_0 : decode cL_isTrained 0 = .ok (.aload_n 0, 1) := by decide +kernel
theorem dL_isTrained_1 : decode cL_isTrained 1 = .ok (.invokevirtual 38, 3) := by decide +kernel
theorem dL_isTrained_4 : decode cL_isTrained 4 = .ok (.lstore_n 1, 1) := by decide +kernel
theorem dL_isTrained_5 : decode cL_isTrained 5 = .ok (.aload_n 0, 1) := by decide +kernel
theorem dL_isTrained_6 : decode cL_isTrained 6 = .ok (.iconst 0, 1) := by decide +kernel
theorem dL_isTrained_7 : decode cL_isTrained 7 = .ok (.invokevirtual 14, 3) := by decide +kernel
theorem dL_isTrained_10 : decode cL_isTrained 10 = .ok (.ifCond .eq 9, 3) := by decide +kernel
theorem dL_isTrained_13 : decode cL_isTrained 13 = .ok (.lload_n 1, 1) := by decide +kernel
theorem dL_isTrained_14 : decode cL_isTrained 14 = .ok (.lconst 0, 1) := by decide +kernel
theorem dL_isTrained_15 : decode cL_isTrained 15 = .ok (.lcmp, 1) := by decide +kernel
theorem dL_isTrained_16 : decode cL_isTrained 16 = .ok (.ifCond .ne 18, 3) := by decide +kernel
theorem dL_isTrained_19 : decode cL_isTrained 19 = .ok (.aload_n 0, 1) := by decide +kernel
theorem dL_isTrained_20 : decode cL_isTrained 20 = .ok (.invokevirtual 107, 3) := by decide +kernel
theorem dL_isTrained_23 : decode cL_isTrained 23 = .ok (.bipush (-5), 2) := by decide +kernel
theorem dL_isTrained_25 : decode cL_isTrained 25 = .ok (.if_icmp .ne 7, 3) := by decide +kernel
theorem dL_isTrained_28 : decode cL_isTrained 28 = .ok (.iconst 1, 1) := by decide +kernel
theorem dL_isTrained_29 : decode cL_isTrained 29 = .ok (.goto 4, 3) := by decide +kernel
theorem dL_isTrained_32 : decode cL_isTrained 32 = .ok (.iconst 0, 1) := by decide +kernel
theorem dL_isTrained_33 : decode cL_isTrained 33 = .ok (.ireturn, 1) := by decide +kernel
theorem dL_isTrained_34 : decode cL_isTrained 34 = .ok (.bipush 64, 2) := by decide +kernel
theorem dL_isTrained_36 : decode cL_isTrained 36 = .ok (.newarray .int, 2) := by decide +kernel
theorem dL_isTrained_38 : decode cL_isTrained 38 = .ok (.astore_n 3, 1) := by decide +kernel
theorem dL_isTrained_39 : decode cL_isTrained 39 = .ok (.iconst 0, 1) := by decide +kernel
theorem dL_isTrained_40 : decode cL_isTrained 40 = .ok (.istore 4, 2) := by decide +kernel
theorem dL_isTrained_42 : decode cL_isTrained 42 = .ok (.iconst 0, 1) := by decide +kernel
theorem dL_isTrained_43 : decode cL_isTrained 43 = .ok (.istore 5, 2) := by decide +kernel
theorem dL_isTrained_45 : decode cL_isTrained 45 = .ok (.iload 5, 2) := by decide +kernel
theorem dL_isTrained_47 : decode cL_isTrained 47 = .ok (.bipush 11, 2) := by decide +kernel
theorem dL_isTrained_49 : decode cL_isTrained 49 = .ok (.if_icmp .ge 210, 3) := by decide +kernel
theorem dL_isTrained_52 : decode cL_isTrained 52 = .ok (.iload 5, 2) := by decide +kernel
theorem dL_isTrained_54 : decode cL_isTrained 54 = .ok (.ifCond .ne 7, 3) := by decide +kernel
theorem dL_isTrained_57 : decode cL_isTrained 57 = .ok (.iconst 0, 1) := by decide +kernel
theorem dL_isTrained_58 : decode cL_isTrained 58 = .ok (.goto 15, 3) := by decide +kernel
theorem dL_isTrained_61 : decode cL_isTrained 61 = .ok (.iload 5, 2) := by decide +kernel
theorem dL_isTrained_63 : decode cL_isTrained 63 = .ok (.bipush 7, 2) := by decide +kernel
theorem dL_isTrained_65 : decode cL_isTrained 65 = .ok (.if_icmp .ge 7, 3) := by decide +kernel
theorem dL_isTrained_68 : decode cL_isTrained 68 = .ok (.iconst 1, 1) := by decide +kernel
theorem dL_isTrained_69 : decode cL_isTrained 69 = .ok (.goto 4, 3) := by decide +kernel
theorem dL_isTrained_72 : decode cL_isTrained 72 = .ok (.iconst 2, 1) := by decide +kernel
theorem dL_isTrained_73 : decode cL_isTrained 73 = .ok (.istore 6, 2) := by decide +kernel
theorem dL_isTrained_75 : decode cL_isTrained 75 = .ok (.iload 6, 2) := by decide +kernel
theorem dL_isTrained_77 : decode cL_isTrained 77 = .ok (.iconst 2, 1) := by decide +kernel
theorem dL_isTrained_78 : decode cL_isTrained 78 = .ok (.if_icmp .ne 7, 3) := by decide +kernel
theorem dL_isTrained_81 : decode cL_isTrained 81 = .ok (.iconst 4, 1) := by decide +kernel
theorem dL_isTrained_82 : decode cL_isTrained 82 = .ok (.goto 5, 3) := by decide +kernel
theorem dL_isTrained_85 : decode cL_isTrained 85 = .ok (.bipush 6, 2) := by decide +kernel
theorem dL_isTrained_87 : decode cL_isTrained 87 = .ok (.istore 7, 2) := by decide +kernel
theorem dL_isTrained_89 : decode cL_isTrained 89 = .ok (.lconst 0, 1) := by decide +kernel
theorem dL_isTrained_90 : decode cL_isTrained 90 = .ok (.lstore 8, 2) := by decide +kernel
theorem dL_isTrained_92 : decode cL_isTrained 92 = .ok (.iconst 0, 1) := by decide +kernel
theorem dL_isTrained_93 : decode cL_isTrained 93 = .ok (.istore 10, 2) := by decide +kernel
theorem dL_isTrained_95 : decode cL_isTrained 95 = .ok (.iload 10, 2) := by decide +kernel
theorem dL_isTrained_97 : decode cL_isTrained 97 = .ok (.iload 7, 2) := by decide +kernel
theorem dL_isTrained_99 : decode cL_isTrained 99 = .ok (.if_icmp .ge 37, 3) := by decide +kernel
theorem dL_isTrained_102 : decode cL_isTrained 102 = .ok (.aload_n 0, 1) := by decide +kernel
theorem dL_isTrained_103 : decode cL_isTrained 103 = .ok (.iload 5, 2) := by decide +kernel
theorem dL_isTrained_105 : decode cL_isTrained 105 = .ok (.iload 10, 2) := by decide +kernel
theorem dL_isTrained_107 : decode cL_isTrained 107 = .ok (.lload_n 1, 1) := by decide +kernel
theorem dL_isTrained_108 : decode cL_isTrained 108 = .ok (.invokestatic 110, 3) := by decide +kernel
theorem dL_isTrained_111 : decode cL_isTrained 111 = .ok (.lstore 11, 2) := by decide +kernel
theorem dL_isTrained_113 : decode cL_isTrained 113 = .ok (.lload 11, 2) := by decide +kernel
theorem dL_isTrained_115 : decode cL_isTrained 115 = .ok (.lload 8, 2) := by decide +kernel
theorem dL_isTrained_117 : decode cL_isTrained 117 = .ok (.lcmp, 1) := by decide +kernel
theorem dL_isTrained_118 : decode cL_isTrained 118 = .ok (.ifCond .le 8, 3) := by decide +kernel
theorem dL_isTrained_121 : decode cL_isTrained 121 = .ok (.lload 11, 2) := by decide +kernel
theorem dL_isTrained_123 : decode cL_isTrained 123 = .ok (.goto 5, 3) := by decide +kernel
theorem dL_isTrained_126 : decode cL_isTrained 126 = .ok (.lload 8, 2) := by decide +kernel
theorem dL_isTrained_128 : decode cL_isTrained 128 = .ok (.lstore 8, 2) := by decide +kernel
theorem dL_isTrained_130 : decode cL_isTrained 130 = .ok (.iinc 10 1, 3) := by decide +kernel
theorem dL_isTrained_133 : decode cL_isTrained 133 = .ok (.goto (-38), 3) := by decide +kernel
theorem dL_isTrained_136 : decode cL_isTrained 136 = .ok (.iconst 0, 1) := by decide +kernel
theorem dL_isTrained_137 : decode cL_isTrained 137 = .ok (.istore 10, 2) := by decide +kernel
theorem dL_isTrained_139 : decode cL_isTrained 139 = .ok (.iload 10, 2) := by decide +kernel
theorem dL_isTrained_141 : decode cL_isTrained 141 = .ok (.iload 7, 2) := by decide +kernel
theorem dL_isTrained_143 : decode cL_isTrained 143 = .ok (.if_icmp .ge 110, 3) := by decide +kernel
theorem dL_isTrained_146 : decode cL_isTrained 146 = .ok (.aload_n 0, 1) := by decide +kernel
theorem dL_isTrained_147 : decode cL_isTrained 147 = .ok (.iload 5, 2) := by decide +kernel
theorem dL_isTrained_149 : decode cL_isTrained 149 = .ok (.iload 10, 2) := by decide +kernel
theorem dL_isTrained_151 : decode cL_isTrained 151 = .ok (.invokestatic 114, 3) := by decide +kernel
theorem dL_isTrained_154 : decode cL_isTrained 154 = .ok (.istore 11, 2) := by decide +kernel
theorem dL_isTrained_156 : decode cL_isTrained 156 = .ok (.ldc2_w 116, 3) := by decide +kernel
theorem dL_isTrained_159 : decode cL_isTrained 159 = .ok (.aload_n 0, 1) := by decide +kernel
theorem dL_isTrained_160 : decode cL_isTrained 160 = .ok (.iload 5, 2) := by decide +kernel
theorem dL_isTrained_162 : decode cL_isTrained 162 = .ok (.iload 10, 2) := by decide +kernel
theorem dL_isTrained_164 : decode cL_isTrained 164 = .ok (.lload_n 1, 1) := by decide +kernel
theorem dL_isTrained_165 : decode cL_isTrained 165 = .ok (.invokestatic 110, 3) := by decide +kernel
theorem dL_isTrained_168 : decode cL_isTrained 168 = .ok (.lmul, 1) := by decide +kernel
theorem dL_isTrained_169 : decode cL_isTrained 169 = .ok (.lstore 12, 2) := by decide +kernel
theorem dL_isTrained_171 : decode cL_isTrained 171 = .ok (.iload 11, 2) := by decide +kernel
theorem dL_isTrained_173 : decode cL_isTrained 173 = .ok (.istore 14, 2) := by decide +kernel
theorem dL_isTrained_175 : decode cL_isTrained 175 = .ok (.lload 8, 2) := by decide +kernel
theorem dL_isTrained_177 : decode cL_isTrained 177 = .ok (.lconst 0, 1) := by decide +kernel
theorem dL_isTrained_178 : decode cL_isTrained 178 = .ok (.lcmp, 1) := by decide +kernel
theorem dL_isTrained_179 : decode cL_isTrained 179 = .ok (.ifCond .le 40, 3) := by decide +kernel
theorem dL_isTrained_182 : decode cL_isTrained 182 = .ok (.lload 12, 2) := by decide +kernel
theorem dL_isTrained_184 : decode cL_isTrained 184 = .ok (.lload 8, 2) := by decide +kernel
theorem dL_isTrained_186 : decode cL_isTrained 186 = .ok (.ldiv, 1) := by decide +kernel
theorem dL_isTrained_187 : decode cL_isTrained 187 = .ok (.l2i, 1) := by decide +kernel
theorem dL_isTrained_188 : decode cL_isTrained 188 = .ok (.istore 14, 2) := by decide +kernel
theorem dL_isTrained_190 : decode cL_isTrained 190 = .ok (.iload 14, 2) := by decide +kernel
theorem dL_isTrained_192 : decode cL_isTrained 192 = .ok (.ldc2_w 118, 3) := by decide +kernel
theorem dL_isTrained_195 : decode cL_isTrained 195 = .ok (.lload 12, 2) := by decide +kernel
theorem dL_isTrained_197 : decode cL_isTrained 197 = .ok (.iload 14, 2) := by decide +kernel
theorem dL_isTrained_199 : decode cL_isTrained 199 = .ok (.i2l, 1) := by decide +kernel
theorem dL_isTrained_200 : decode cL_isTrained 200 = .ok (.lload 8, 2) := by decide +kernel
theorem dL_isTrained_202 : decode cL_isTrained 202 = .ok (.lmul, 1) := by decide +kernel
theorem dL_isTrained_203 : decode cL_isTrained 203 = .ok (.lsub, 1) := by decide +kernel
theorem dL_isTrained_204 : decode cL_isTrained 204 = .ok (.lmul, 1) := by decide +kernel
theorem dL_isTrained_205 : decode cL_isTrained 205 = .ok (.lload 8, 2) := by decide +kernel
theorem dL_isTrained_207 : decode cL_isTrained 207 = .ok (.lcmp, 1) := by decide +kernel
theorem dL_isTrained_208 : decode cL_isTrained 208 = .ok (.ifCond .lt 7, 3) := by decide +kernel
theorem dL_isTrained_211 : decode cL_isTrained 211 = .ok (.iconst 1, 1) := by decide +kernel
theorem dL_isTrained_212 : decode cL_isTrained 212 = .ok (.goto 4, 3) := by decide +kernel
theorem dL_isTrained_215 : decode cL_isTrained 215 = .ok (.iconst 0, 1) := by decide +kernel
theorem dL_isTrained_216 : decode cL_isTrained 216 = .ok (.iadd, 1) := by decide +kernel
theorem dL_isTrained_217 : decode cL_isTrained 217 = .ok (.istore 14, 2) := by decide +kernel
theorem dL_isTrained_219 : decode cL_isTrained 219 = .ok (.aload_n 3, 1) := by decide +kernel
theorem dL_isTrained_220 : decode cL_isTrained 220 = .ok (.iload 5, 2) := by decide +kernel
theorem dL_isTrained_222 : decode cL_isTrained 222 = .ok (.iload 10, 2) := by decide +kernel
theorem dL_isTrained_224 : decode cL_isTrained 224 = .ok (.invokestatic 120, 3) := by decide +kernel
theorem dL_isTrained_227 : decode cL_isTrained 227 = .ok (.iload 14, 2) := by decide +kernel
theorem dL_isTrained_229 : decode cL_isTrained 229 = .ok (.iastore, 1) := by decide +kernel
theorem dL_isTrained_230 : decode cL_isTrained 230 = .ok (.iload 4, 2) := by decide +kernel
theorem dL_isTrained_232 : decode cL_isTrained 232 = .ok (.iload 14, 2) := by decide +kernel
theorem dL_isTrained_234 : decode cL_isTrained 234 = .ok (.iload 11, 2) := by decide +kernel
theorem dL_isTrained_236 : decode cL_isTrained 236 = .ok (.if_icmp .eq 7, 3) := by decide +kernel
theorem dL_isTrained_239 : decode cL_isTrained 239 = .ok (.iconst 1, 1) := by decide +kernel
theorem dL_isTrained_240 : decode cL_isTrained 240 = .ok (.goto 4, 3) := by decide +kernel
theorem dL_isTrained_243 : decode cL_isTrained 243 = .ok (.iconst 0, 1) := by decide +kernel
theorem dL_isTrained_244 : decode cL_isTrained 244 = .ok (.iadd, 1) := by decide +kernel
theorem dL_isTrained_245 : decode cL_isTrained 245 = .ok (.istore 4, 2) := by decide +kernel
theorem dL_isTrained_247 : decode cL_isTrained 247 = .ok (.iinc 10 1, 3) := by decide +kernel
theorem dL_isTrained_250 : decode cL_isTrained 250 = .ok (.goto (-111), 3) := by decide +kernel
theorem dL_isTrained_253 : decode cL_isTrained 253 = .ok (.iinc 5 1, 3) := by decide +kernel
theorem dL_isTrained_256 : decode cL_isTrained 256 = .ok (.goto (-211), 3) := by decide +kernel
theorem dL_isTrained_259 : decode cL_isTrained 259 = .ok (.aload_n 0, 1) := by decide +kernel
theorem dL_isTrained_260 : decode cL_isTrained 260 = .ok (.invokevirtual 107, 3) := by decide +kernel
theorem dL_isTrained_263 : decode cL_isTrained 263 = .ok (.iload 4, 2) := by decide +kernel
theorem dL_isTrained_265 : decode cL_isTrained 265 = .ok (.if_icmp .eq 5, 3) := by decide +kernel
theorem dL_isTrained_268 : decode cL_isTrained 268 = .ok (.iconst 0, 1) := by decide +kernel
theorem dL_isTrained_269 : decode cL_isTrained 269 = .ok (.ireturn, 1) := by decide +kernel
theorem dL_isTrained_270 : decode cL_isTrained 270 = .ok (.iconst 0, 1) := by decide +kernel
theorem dL_isTrained_271 : decode cL_isTrained 271 = .ok (.istore 5, 2) := by decide +kernel
theorem dL_isTrained_273 : decode cL_isTrained 273 = .ok (.iload 5, 2) := by decide +kernel
theorem dL_isTrained_275 : decode cL_isTrained 275 = .ok (.bipush 11, 2) := by decide +kernel
theorem dL_isTrained_277 : decode cL_isTrained 277 = .ok (.if_icmp .ge 58, 3) := by decide +kernel
theorem dL_isTrained_280 : decode cL_isTrained 280 = .ok (.iconst 0, 1) := by decide +kernel
theorem dL_isTrained_281 : decode cL_isTrained 281 = .ok (.istore 6, 2) := by decide +kernel
theorem dL_isTrained_283 : decode cL_isTrained 283 = .ok (.iload 6, 2) := by decide +kernel
theorem dL_isTrained_285 : decode cL_isTrained 285 = .ok (.iload 5, 2) := by decide +kernel
theorem dL_isTrained_287 : decode cL_isTrained 287 = .ok (.bipush 7, 2) := by decide +kernel
theorem dL_isTrained_289 : decode cL_isTrained 289 = .ok (.if_icmp .ge 8, 3) := by decide +kernel
theorem dL_isTrained_292 : decode cL_isTrained 292 = .ok (.bipush 6, 2) := by decide +kernel
theorem dL_isTrained_294 : decode cL_isTrained 294 = .ok (.goto 4, 3) := by decide +kernel
theorem dL_isTrained_297 : decode cL_isTrained 297 = .ok (.iconst 4, 1) := by decide +kernel
theorem dL_isTrained_298 : decode cL_isTrained 298 = .ok (.if_icmp .ge 31, 3) := by decide +kernel
theorem dL_isTrained_301 : decode cL_isTrained 301 = .ok (.aload_n 0, 1) := by decide +kernel
theorem dL_isTrained_302 : decode cL_isTrained 302 = .ok (.iload 5, 2) := by decide +kernel
theorem dL_isTrained_304 : decode cL_isTrained 304 = .ok (.iload 6, 2) := by decide +kernel
theorem dL_isTrained_306 : decode cL_isTrained 306 = .ok (.invokestatic 114, 3) := by decide +kernel
theorem dL_isTrained_309 : decode cL_isTrained 309 = .ok (.aload_n 3, 1) := by decide +kernel
theorem dL_isTrained_310 : decode cL_isTrained 310 = .ok (.iload 5, 2) := by decide +kernel
theorem dL_isTrained_312 : decode cL_isTrained 312 = .ok (.iload 6, 2) := by decide +kernel
theorem dL_isTrained_314 : decode cL_isTrained 314 = .ok (.invokestatic 120, 3) := by decide +kernel
theorem dL_isTrained_317 : decode cL_isTrained 317 = .ok (.iaload, 1) := by decide +kernel
theorem dL_isTrained_318 : decode cL_isTrained 318 = .ok (.if_icmp .eq 5, 3) := by decide +kernel
theorem dL_isTrained_321 : decode cL_isTrained 321 = .ok (.iconst 0, 1) := by decide +kernel
theorem dL_isTrained_322 : decode cL_isTrained 322 = .ok (.ireturn, 1) := by decide +kernel
theorem dL_isTrained_323 : decode cL_isTrained 323 = .ok (.iinc 6 1, 3) := by decide +kernel
theorem dL_isTrained_326 : decode cL_isTrained 326 = .ok (.goto (-43), 3) := by decide +kernel
theorem dL_isTrained_329 : decode cL_isTrained 329 = .ok (.iinc 5 1, 3) := by decide +kernel
theorem dL_isTrained_332 : decode cL_isTrained 332 = .ok (.goto (-59), 3) := by decide +kernel
theorem dL_isTrained_335 : decode cL_isTrained 335 = .ok (.iconst 1, 1) := by decide +kernel
theorem dL_isTrained_336 : decode cL_isTrained 336 = .ok (.ireturn, 1) := by decide +kernel
theorem dL_at_0 : decode cL_at 0 = .ok (.iload_n 0, 1) := by decide +kernel
theorem dL_at_1 : decode cL_at 1 = .ok (.bipush 7, 2) := by decide +kernel
theorem dL_at_3 : decode cL_at 3 = .ok (.if_icmp .ge 12, 3) := by decide +kernel
theorem dL_at_6 : decode cL_at 6 = .ok (.bipush 6, 2) := by decide +kernel
theorem dL_at_8 : decode cL_at 8 = .ok (.iload_n 0, 1) := by decide +kernel
theorem dL_at_9 : decode cL_at 9 = .ok (.imul, 1) := by decide +kernel
theorem dL_at_10 : decode cL_at 10 = .ok (.iload_n 1, 1) := by decide +kernel
theorem dL_at_11 : decode cL_at 11 = .ok (.iadd, 1) := by decide +kernel
theorem dL_at_12 : decode cL_at 12 = .ok (.goto 14, 3) := by decide +kernel
theorem dL_at_15 : decode cL_at 15 = .ok (.bipush 42, 2) := by decide +kernel
theorem dL_at_17 : decode cL_at 17 = .ok (.iconst 4, 1) := by decide +kernel
theorem dL_at_18 : decode cL_at 18 = .ok (.iload_n 0, 1) := by decide +kernel
theorem dL_at_19 : decode cL_at 19 = .ok (.bipush 7, 2) := by decide +kernel
theorem dL_at_21 : decode cL_at 21 = .ok (.isub, 1) := by decide +kernel
theorem dL_at_22 : decode cL_at 22 = .ok (.imul, 1) := by decide +kernel
theorem dL_at_23 : decode cL_at 23 = .ok (.iadd, 1) := by decide +kernel
theorem dL_at_24 : decode cL_at 24 = .ok (.iload_n 1, 1) := by decide +kernel
theorem dL_at_25 : decode cL_at 25 = .ok (.iadd, 1) := by decide +kernel
theorem dL_at_26 : decode cL_at 26 = .ok (.ireturn, 1) := by decide +kernel
theorem dL_weight_0 : decode cL_weight 0 = .ok (.iload_n 1, 1) := by decide +kernel
theorem dL_weight_1 : decode cL_weight 1 = .ok (.ifCond .ne 13, 3) := by decide +kernel
theorem dL_weight_4 : decode cL_weight 4 = .ok (.aload_n 0, 1) := by decide +kernel
theorem dL_weight_5 : decode cL_weight 5 = .ok (.iconst 0, 1) := by decide +kernel
theorem dL_weight_6 : decode cL_weight 6 = .ok (.iload_n 2, 1) := by decide +kernel
theorem dL_weight_7 : decode cL_weight 7 = .ok (.iconst 0, 1) := by decide +kernel
theorem dL_weight_8 : decode cL_weight 8 = .ok (.invokevirtual 8, 3) := by decide +kernel
theorem dL_weight_11 : decode cL_weight 11 = .ok (.goto 31, 3) := by decide +kernel
theorem dL_weight_14 : decode cL_weight 14 = .ok (.iload_n 1, 1) := by decide +kernel
theorem dL_weight_15 : decode cL_weight 15 = .ok (.bipush 7, 2) := by decide +kernel
theorem dL_weight_17 : decode cL_weight 17 = .ok (.if_icmp .ge 15, 3) := by decide +kernel
theorem dL_weight_20 : decode cL_weight 20 = .ok (.aload_n 0, 1) := by decide +kernel
theorem dL_weight_21 : decode cL_weight 21 = .ok (.iconst 1, 1) := by decide +kernel
theorem dL_weight_22 : decode cL_weight 22 = .ok (.iload_n 1, 1) := by decide +kernel
theorem dL_weight_23 : decode cL_weight 23 = .ok (.iconst 1, 1) := by decide +kernel
theorem dL_weight_24 : decode cL_weight 24 = .ok (.isub, 1) := by decide +kernel
theorem dL_weight_25 : decode cL_weight 25 = .ok (.iload_n 2, 1) := by decide +kernel
theorem dL_weight_26 : decode cL_weight 26 = .ok (.invokevirtual 8, 3) := by decide +kernel
theorem dL_weight_29 : decode cL_weight 29 = .ok (.goto 13, 3) := by decide +kernel
theorem dL_weight_32 : decode cL_weight 32 = .ok (.aload_n 0, 1) := by decide +kernel
theorem dL_weight_33 : decode cL_weight 33 = .ok (.iconst 2, 1) := by decide +kernel
theorem dL_weight_34 : decode cL_weight 34 = .ok (.iload_n 1, 1) := by decide +kernel
theorem dL_weight_35 : decode cL_weight 35 = .ok (.bipush 7, 2) := by decide +kernel
theorem dL_weight_37 : decode cL_weight 37 = .ok (.isub, 1) := by decide +kernel
theorem dL_weight_38 : decode cL_weight 38 = .ok (.iload_n 2, 1) := by decide +kernel
theorem dL_weight_39 : decode cL_weight 39 = .ok (.invokevirtual 8, 3) := by decide +kernel
theorem dL_weight_42 : decode cL_weight 42 = .ok (.ireturn, 1) := by decide +kernel
theorem dL_number_0 : decode cL_number 0 = .ok (.iload_n 1, 1) := by decide +kernel
theorem dL_number_1 : decode cL_number 1 = .ok (.ifCond .ne 14, 3) := by decide +kernel
theorem dL_number_4 : decode cL_number 4 = .ok (.aload_n 0, 1) := by decide +kernel
theorem dL_number_5 : decode cL_number 5 = .ok (.iconst 0, 1) := by decide +kernel
theorem dL_number_6 : decode cL_number 6 = .ok (.iload_n 2, 1) := by decide +kernel
theorem dL_number_7 : decode cL_number 7 = .ok (.iconst 0, 1) := by decide +kernel
theorem dL_number_8 : decode cL_number 8 = .ok (.lload_n 3, 1) := by decide +kernel
theorem dL_number_9 : decode cL_number 9 = .ok (.invokestatic 69, 3) := by decide +kernel
theorem dL_number_12 : decode cL_number 12 = .ok (.goto 33, 3) := by decide +kernel
theorem dL_number_15 : decode cL_number 15 = .ok (.iload_n 1, 1) := by decide +kernel
theorem dL_number_16 : decode cL_number 16 = .ok (.bipush 7, 2) := by decide +kernel
theorem dL_number_18 : decode cL_number 18 = .ok (.if_icmp .ge 16, 3) := by decide +kernel
theorem dL_number_21 : decode cL_number 21 = .ok (.aload_n 0, 1) := by decide +kernel
theorem dL_number_22 : decode cL_number 22 = .ok (.iconst 1, 1) := by decide +kernel
theorem dL_number_23 : decode cL_number 23 = .ok (.iload_n 1, 1) := by decide +kernel
theorem dL_number_24 : decode cL_number 24 = .ok (.iconst 1, 1) := by decide +kernel
theorem dL_number_25 : decode cL_number 25 = .ok (.isub, 1) := by decide +kernel
theorem dL_number_26 : decode cL_number 26 = .ok (.iload_n 2, 1) := by decide +kernel
theorem dL_number_27 : decode cL_number 27 = .ok (.lload_n 3, 1) := by decide +kernel
theorem dL_number_28 : decode cL_number 28 = .ok (.invokestatic 69, 3) := by decide +kernel
theorem dL_number_31 : decode cL_number 31 = .ok (.goto 14, 3) := by decide +kernel
theorem dL_number_34 : decode cL_number 34 = .ok (.aload_n 0, 1) := by decide +kernel
theorem dL_number_35 : decode cL_number 35 = .ok (.iconst 2, 1) := by decide +kernel
theorem dL_number_36 : decode cL_number 36 = .ok (.iload_n 1, 1) := by decide +kernel
theorem dL_number_37 : decode cL_number 37 = .ok (.bipush 7, 2) := by decide +kernel
theorem dL_number_39 : decode cL_number 39 = .ok (.isub, 1) := by decide +kernel
theorem dL_number_40 : decode cL_number 40 = .ok (.iload_n 2, 1) := by decide +kernel
theorem dL_number_41 : decode cL_number 41 = .ok (.lload_n 3, 1) := by decide +kernel
theorem dL_number_42 : decode cL_number 42 = .ok (.invokestatic 69, 3) := by decide +kernel
theorem dL_number_45 : decode cL_number 45 = .ok (.lreturn, 1) := by decide +kernel
theorem dL_isGiven_0 : decode cL_isGiven 0 = .ok (.iload_n 2, 1) := by decide +kernel
theorem dL_isGiven_1 : decode cL_isGiven 1 = .ok (.iload_n 1, 1) := by decide +kernel
theorem dL_isGiven_2 : decode cL_isGiven 2 = .ok (.iconst 2, 1) := by decide +kernel
theorem dL_isGiven_3 : decode cL_isGiven 3 = .ok (.if_icmp .ne 7, 3) := by decide +kernel
theorem dL_isGiven_6 : decode cL_isGiven 6 = .ok (.iconst 4, 1) := by decide +kernel
theorem dL_isGiven_7 : decode cL_isGiven 7 = .ok (.goto 5, 3) := by decide +kernel
theorem dL_isGiven_10 : decode cL_isGiven 10 = .ok (.bipush 6, 2) := by decide +kernel
theorem dL_isGiven_12 : decode cL_isGiven 12 = .ok (.if_icmp .ge 30, 3) := by decide +kernel
theorem dL_isGiven_15 : decode cL_isGiven 15 = .ok (.iload_n 3, 1) := by decide +kernel
theorem dL_isGiven_16 : decode cL_isGiven 16 = .ok (.iload_n 1, 1) := by decide +kernel
theorem dL_isGiven_17 : decode cL_isGiven 17 = .ok (.ifCond .ne 7, 3) := by decide +kernel
theorem dL_isGiven_20 : decode cL_isGiven 20 = .ok (.iconst 1, 1) := by decide +kernel
theorem dL_isGiven_21 : decode cL_isGiven 21 = .ok (.goto 14, 3) := by decide +kernel
theorem dL_isGiven_24 : decode cL_isGiven 24 = .ok (.iload_n 1, 1) := by decide +kernel
theorem dL_isGiven_25 : decode cL_isGiven 25 = .ok (.iconst 1, 1) := by decide +kernel
theorem dL_isGiven_26 : decode cL_isGiven 26 = .ok (.if_icmp .ne 8, 3) := by decide +kernel
theorem dL_isGiven_29 : decode cL_isGiven 29 = .ok (.bipush 6, 2) := by decide +kernel
theorem dL_isGiven_31 : decode cL_isGiven 31 = .ok (.goto 4, 3) := by decide +kernel
theorem dL_isGiven_34 : decode cL_isGiven 34 = .ok (.iconst 4, 1) := by decide +kernel
theorem dL_isGiven_35 : decode cL_isGiven 35 = .ok (.if_icmp .ge 7, 3) := by decide +kernel
theorem dL_isGiven_38 : decode cL_isGiven 38 = .ok (.iconst 1, 1) := by decide +kernel
theorem dL_isGiven_39 : decode cL_isGiven 39 = .ok (.goto 4, 3) := by decide +kernel
theorem dL_isGiven_42 : decode cL_isGiven 42 = .ok (.iconst 0, 1) := by decide +kernel
theorem dL_isGiven_43 : decode cL_isGiven 43 = .ok (.istore 5, 2) := by decide +kernel
theorem dL_isGiven_45 : decode cL_isGiven 45 = .ok (.iload_n 1, 1) := by decide +kernel
theorem dL_isGiven_46 : decode cL_isGiven 46 = .ok (.iconst 1, 1) := by decide +kernel
theorem dL_isGiven_47 : decode cL_isGiven 47 = .ok (.if_icmp .ne 27, 3) := by decide +kernel
theorem dL_isGiven_50 : decode cL_isGiven 50 = .ok (.iload_n 2, 1) := by decide +kernel
theorem dL_isGiven_51 : decode cL_isGiven 51 = .ok (.iload_n 3, 1) := by decide +kernel
theorem dL_isGiven_52 : decode cL_isGiven 52 = .ok (.if_icmp .ne 8, 3) := by decide +kernel
theorem dL_isGiven_55 : decode cL_isGiven 55 = .ok (.iload_n 2, 1) := by decide +kernel
theorem dL_isGiven_56 : decode cL_isGiven 56 = .ok (.iconst 3, 1) := by decide +kernel
theorem dL_isGiven_57 : decode cL_isGiven 57 = .ok (.if_icmp .gt 13, 3) := by decide +kernel
theorem dL_isGiven_60 : decode cL_isGiven 60 = .ok (.iload_n 2, 1) := by decide +kernel
theorem dL_isGiven_61 : decode cL_isGiven 61 = .ok (.iconst 5, 1) := by decide +kernel
theorem dL_isGiven_62 : decode cL_isGiven 62 = .ok (.if_icmp .ne 12, 3) := by decide +kernel
theorem dL_isGiven_65 : decode cL_isGiven 65 = .ok (.iload_n 3, 1) := by decide +kernel
theorem dL_isGiven_66 : decode cL_isGiven 66 = .ok (.iconst 4, 1) := by decide +kernel
theorem dL_isGiven_67 : decode cL_isGiven 67 = .ok (.if_icmp .ne 7, 3) := by decide +kernel
theorem dL_isGiven_70 : decode cL_isGiven 70 = .ok (.iconst 1, 1) := by decide +kernel
theorem dL_isGiven_71 : decode cL_isGiven 71 = .ok (.goto 4, 3) := by decide +kernel
theorem dL_isGiven_74 : decode cL_isGiven 74 = .ok (.iconst 0, 1) := by decide +kernel
theorem dL_isGiven_75 : decode cL_isGiven 75 = .ok (.istore 6, 2) := by decide +kernel
theorem dL_isGiven_77 : decode cL_isGiven 77 = .ok (.aload_n 0, 1) := by decide +kernel
theorem dL_isGiven_78 : decode cL_isGiven 78 = .ok (.iload_n 1, 1) := by decide +kernel
theorem dL_isGiven_79 : decode cL_isGiven 79 = .ok (.iload_n 2, 1) := by decide +kernel
theorem dL_isGiven_80 : decode cL_isGiven 80 = .ok (.iload_n 3, 1) := by decide +kernel
theorem dL_isGiven_81 : decode cL_isGiven 81 = .ok (.invokevirtual 8, 3) := by decide +kernel
theorem dL_isGiven_84 : decode cL_isGiven 84 = .ok (.istore 7, 2) := by decide +kernel
theorem dL_isGiven_86 : decode cL_isGiven 86 = .ok (.aload_n 0, 1) := by decide +kernel
theorem dL_isGiven_87 : decode cL_isGiven 87 = .ok (.iload_n 1, 1) := by decide +kernel
theorem dL_isGiven_88 : decode cL_isGiven 88 = .ok (.iload_n 2, 1) := by decide +kernel
theorem dL_isGiven_89 : decode cL_isGiven 89 = .ok (.iload_n 3, 1) := by decide +kernel
theorem dL_isGiven_90 : decode cL_isGiven 90 = .ok (.iload 4, 2) := by decide +kernel
theorem dL_isGiven_92 : decode cL_isGiven 92 = .ok (.invokevirtual 123, 3) := by decide +kernel
theorem dL_isGiven_95 : decode cL_isGiven 95 = .ok (.istore 8, 2) := by decide +kernel
theorem dL_isGiven_97 : decode cL_isGiven 97 = .ok (.iload 5, 2) := by decide +kernel
theorem dL_isGiven_99 : decode cL_isGiven 99 = .ok (.ifCond .ne 21, 3) := by decide +kernel
theorem dL_isGiven_102 : decode cL_isGiven 102 = .ok (.iload 7, 2) := by decide +kernel
theorem dL_isGiven_104 : decode cL_isGiven 104 = .ok (.iconst (-1), 1) := by decide +kernel
theorem dL_isGiven_105 : decode cL_isGiven 105 = .ok (.if_icmp .ne 13, 3) := by decide +kernel
theorem dL_isGiven_108 : decode cL_isGiven 108 = .ok (.iload 8, 2) := by decide +kernel
theorem dL_isGiven_110 : decode cL_isGiven 110 = .ok (.iconst (-1), 1) := by decide +kernel
theorem dL_isGiven_111 : decode cL_isGiven 111 = .ok (.if_icmp .ne 7, 3) := by decide +kernel
theorem dL_isGiven_114 : decode cL_isGiven 114 = .ok (.iconst 1, 1) := by decide +kernel
theorem dL_isGiven_115 : decode cL_isGiven 115 = .ok (.goto 4, 3) := by decide +kernel
theorem dL_isGiven_118 : decode cL_isGiven 118 = .ok (.iconst 0, 1) := by decide +kernel
theorem dL_isGiven_119 : decode cL_isGiven 119 = .ok (.ireturn, 1) := by decide +kernel
theorem dL_isGiven_120 : decode cL_isGiven 120 = .ok (.iload 6, 2) := by decide +kernel
theorem dL_isGiven_122 : decode cL_isGiven 122 = .ok (.ifCond .eq 28, 3) := by decide +kernel
theorem dL_isGiven_125 : decode cL_isGiven 125 = .ok (.iload 4, 2) := by decide +kernel
theorem dL_isGiven_127 : decode cL_isGiven 127 = .ok (.ifCond .le 23, 3) := by decide +kernel
theorem dL_isGiven_130 : decode cL_isGiven 130 = .ok (.iload 8, 2) := by decide +kernel
theorem dL_isGiven_132 : decode cL_isGiven 132 = .ok (.bipush (-5), 2) := by decide +kernel
theorem dL_isGiven_134 : decode cL_isGiven 134 = .ok (.if_icmp .ne 12, 3) := by decide +kernel
theorem dL_isGiven_137 : decode cL_isGiven 137 = .ok (.iload 7, 2) := by decide +kernel
theorem dL_isGiven_139 : decode cL_isGiven 139 = .ok (.ifCond .ne 7, 3) := by decide +kernel
theorem dL_isGiven_142 : decode cL_isGiven 142 = .ok (.iconst 1, 1) := by decide +kernel
theorem dL_isGiven_143 : decode cL_isGiven 143 = .ok (.goto 31, 3) := by decide +kernel
theorem dL_isGiven_146 : decode cL_isGiven 146 = .ok (.iconst 0, 1) := by decide +kernel
theorem dL_isGiven_147 : decode cL_isGiven 147 = .ok (.goto 27, 3) := by decide +kernel
theorem dL_isGiven_150 : decode cL_isGiven 150 = .ok (.iload 8, 2) := by decide +kernel
theorem dL_isGiven_152 : decode cL_isGiven 152 = .ok (.iload 7, 2) := by decide +kernel
theorem dL_isGiven_154 : decode cL_isGiven 154 = .ok (.if_icmp .ne 19, 3) := by decide +kernel
theorem dL_isGiven_157 : decode cL_isGiven 157 = .ok (.aload_n 0, 1) := by decide +kernel
theorem dL_isGiven_158 : decode cL_isGiven 158 = .ok (.iload_n 1, 1) := by decide +kernel
theorem dL_isGiven_159 : decode cL_isGiven 159 = .ok (.iload_n 2, 1) := by decide +kernel
theorem dL_isGiven_160 : decode cL_isGiven 160 = .ok (.iload_n 3, 1) := by decide +kernel
theorem dL_isGiven_161 : decode cL_isGiven 161 = .ok (.invokevirtual 8, 3) := by decide +kernel
theorem dL_isGiven_164 : decode cL_isGiven 164 = .ok (.iload 4, 2) := by decide +kernel
theorem dL_isGiven_166 : decode cL_isGiven 166 = .ok (.if_icmp .ne 7, 3) := by decide +kernel
theorem dL_isGiven_169 : decode cL_isGiven 169 = .ok (.iconst 1, 1) := by decide +kernel
theorem dL_isGiven_170 : decode cL_isGiven 170 = .ok (.goto 4, 3) := by decide +kernel
theorem dL_isGiven_173 : decode cL_isGiven 173 = .ok (.iconst 0, 1) := by decide +kernel
theorem dL_isGiven_174 : decode cL_isGiven 174 = .ok (.ireturn, 1) := by decide +kernel
theorem dL_isAct_0 : decode cL_isAct 0 = .ok (.aload_n 0, 1) := by decide +kernel
theorem dL_isAct_1 : decode cL_isAct 1 = .ok (.iconst 0, 1) := by decide +kernel
theorem dL_isAct_2 : decode cL_isAct 2 = .ok (.invokevirtual 14, 3) := by decide +kernel
theorem dL_isAct_5 : decode cL_isAct 5 = .ok (.istore_n 3, 1) := by decide +kernel
theorem dL_isAct_6 : decode cL_isAct 6 = .ok (.aload_n 1, 1) := by decide +kernel
theorem dL_isAct_7 : decode cL_isAct 7 = .ok (.iload_n 2, 1) := by decide +kernel
theorem dL_isAct_8 : decode cL_isAct 8 = .ok (.bipush 12, 2) := by decide +kernel
theorem dL_isAct_10 : decode cL_isAct 10 = .ok (.invokestatic 127, 3) := by decide +kernel
theorem dL_isAct_13 : decode cL_isAct 13 = .ok (.tableswitch 252 0 10 #[59, 59, 83, 83, 83, 115, 115, 145, 145, 145, 200], 59) := by decide +kernel
theorem dL_isAct_72 : decode cL_isAct 72 = .ok (.aload_n 0, 1) := by decide +kernel
theorem dL_isAct_73 : decode cL_isAct 73 = .ok (.iconst 0, 1) := by decide +kernel
theorem dL_isAct_74 : decode cL_isAct 74 = .ok (.aload_n 1, 1) := by decide +kernel
theorem dL_isAct_75 : decode cL_isAct 75 = .ok (.iload_n 2, 1) := by decide +kernel
theorem dL_isAct_76 : decode cL_isAct 76 = .ok (.iconst 1, 1) := by decide +kernel
theorem dL_isAct_77 : decode cL_isAct 77 = .ok (.iadd, 1) := by decide +kernel
theorem dL_isAct_78 : decode cL_isAct 78 = .ok (.bipush 6, 2) := by decide +kernel
theorem dL_isAct_80 : decode cL_isAct 80 = .ok (.invokestatic 127, 3) := by decide +kernel
theorem dL_isAct_83 : decode cL_isAct 83 = .ok (.iconst 0, 1) := by decide +kernel
theorem dL_isAct_84 : decode cL_isAct 84 = .ok (.aload_n 1, 1) := by decide +kernel
theorem dL_isAct_85 : decode cL_isAct 85 = .ok (.iload_n 2, 1) := by decide +kernel
theorem dL_isAct_86 : decode cL_isAct 86 = .ok (.iconst 3, 1) := by decide +kernel
theorem dL_isAct_87 : decode cL_isAct 87 = .ok (.iadd, 1) := by decide +kernel
theorem dL_isAct_88 : decode cL_isAct 88 = .ok (.iconst 4, 1) := by decide +kernel
theorem dL_isAct_89 : decode cL_isAct 89 = .ok (.invokestatic 127, 3) := by decide +kernel
theorem dL_isAct_92 : decode cL_isAct 92 = .ok (.invokestatic 131, 3) := by decide +kernel
theorem dL_isAct_95 : decode cL_isAct 95 = .ok (.ireturn, 1) := by decide +kernel
theorem dL_isAct_96 : decode cL_isAct 96 = .ok (.aload_n 0, 1) := by decide +kernel
theorem dL_isAct_97 : decode cL_isAct 97 = .ok (.iconst 1, 1) := by decide +kernel
theorem dL_isAct_98 : decode cL_isAct 98 = .ok (.aload_n 1, 1) := by decide +kernel
theorem dL_isAct_99 : decode cL_isAct 99 = .ok (.iload_n 2, 1) := by decide +kernel
theorem dL_isAct_100 : decode cL_isAct 100 = .ok (.iconst 1, 1) := by decide +kernel
theorem dL_isAct_101 : decode cL_isAct 101 = .ok (.iadd, 1) := by decide +kernel
theorem dL_isAct_102 : decode cL_isAct 102 = .ok (.bipush 6, 2) := by decide +kernel
theorem dL_isAct_104 : decode cL_isAct 104 = .ok (.invokestatic 127, 3) := by decide +kernel
theorem dL_isAct_107 : decode cL_isAct 107 = .ok (.aload_n 1, 1) := by decide +kernel
theorem dL_isAct_108 : decode cL_isAct 108 = .ok (.iload_n 2, 1) := by decide +kernel
theorem dL_isAct_109 : decode cL_isAct 109 = .ok (.iconst 2, 1) := by decide +kernel
theorem dL_isAct_110 : decode cL_isAct 110 = .ok (.iadd, 1) := by decide +kernel
theorem dL_isAct_111 : decode cL_isAct 111 = .ok (.bipush 6, 2) := by decide +kernel
theorem dL_isAct_113 : decode cL_isAct 113 = .ok (.invokestatic 127, 3) := by decide +kernel
theorem dL_isAct_116 : decode cL_isAct 116 = .ok (.aload_n 1, 1) := by decide +kernel
theorem dL_isAct_117 : decode cL_isAct 117 = .ok (.iload_n 2, 1) := by decide +kernel
theorem dL_isAct_118 : decode cL_isAct 118 = .ok (.iconst 3, 1) := by decide +kernel
theorem dL_isAct_119 : decode cL_isAct 119 = .ok (.iadd, 1) := by decide +kernel
theorem dL_isAct_120 : decode cL_isAct 120 = .ok (.iconst 4, 1) := by decide +kernel
theorem dL_isAct_121 : decode cL_isAct 121 = .ok (.invokestatic 127, 3) := by decide +kernel
theorem dL_isAct_124 : decode cL_isAct 124 = .ok (.invokestatic 131, 3) := by decide +kernel
theorem dL_isAct_127 : decode cL_isAct 127 = .ok (.ireturn, 1) := by decide +kernel
theorem dL_isAct_128 : decode cL_isAct 128 = .ok (.aload_n 0, 1) := by decide +kernel
theorem dL_isAct_129 : decode cL_isAct 129 = .ok (.iconst 2, 1) := by decide +kernel
theorem dL_isAct_130 : decode cL_isAct 130 = .ok (.aload_n 1, 1) := by decide +kernel
theorem dL_isAct_131 : decode cL_isAct 131 = .ok (.iload_n 2, 1) := by decide +kernel
theorem dL_isAct_132 : decode cL_isAct 132 = .ok (.iconst 1, 1) := by decide +kernel
theorem dL_isAct_133 : decode cL_isAct 133 = .ok (.iadd, 1) := by decide +kernel
theorem dL_isAct_134 : decode cL_isAct 134 = .ok (.iconst 5, 1) := by decide +kernel
theorem dL_isAct_135 : decode cL_isAct 135 = .ok (.invokestatic 127, 3) := by decide +kernel
theorem dL_isAct_138 : decode cL_isAct 138 = .ok (.aload_n 1, 1) := by decide +kernel
theorem dL_isAct_139 : decode cL_isAct 139 = .ok (.iload_n 2, 1) := by decide +kernel
theorem dL_isAct_140 : decode cL_isAct 140 = .ok (.iconst 2, 1) := by decide +kernel
theorem dL_isAct_141 : decode cL_isAct 141 = .ok (.iadd, 1) := by decide +kernel
theorem dL_isAct_142 : decode cL_isAct 142 = .ok (.iconst 5, 1) := by decide +kernel
theorem dL_isAct_143 : decode cL_isAct 143 = .ok (.invokestatic 127, 3) := by decide +kernel
theorem dL_isAct_146 : decode cL_isAct 146 = .ok (.aload_n 1, 1) := by decide +kernel
theorem dL_isAct_147 : decode cL_isAct 147 = .ok (.iload_n 2, 1) := by decide +kernel
theorem dL_isAct_148 : decode cL_isAct 148 = .ok (.iconst 3, 1) := by decide +kernel
theorem dL_isAct_149 : decode cL_isAct 149 = .ok (.iadd, 1) := by decide +kernel
theorem dL_isAct_150 : decode cL_isAct 150 = .ok (.iconst 4, 1) := by decide +kernel
theorem dL_isAct_151 : decode cL_isAct 151 = .ok (.invokestatic 127, 3) := by decide +kernel
theorem dL_isAct_154 : decode cL_isAct 154 = .ok (.invokestatic 131, 3) := by decide +kernel
theorem dL_isAct_157 : decode cL_isAct 157 = .ok (.ireturn, 1) := by decide +kernel
theorem dL_isAct_158 : decode cL_isAct 158 = .ok (.aload_n 1, 1) := by decide +kernel
theorem dL_isAct_159 : decode cL_isAct 159 = .ok (.iload_n 2, 1) := by decide +kernel
theorem dL_isAct_160 : decode cL_isAct 160 = .ok (.iconst 1, 1) := by decide +kernel
theorem dL_isAct_161 : decode cL_isAct 161 = .ok (.iadd, 1) := by decide +kernel
theorem dL_isAct_162 : decode cL_isAct 162 = .ok (.iconst 4, 1) := by decide +kernel
theorem dL_isAct_163 : decode cL_isAct 163 = .ok (.invokestatic 127, 3) := by decide +kernel
theorem dL_isAct_166 : decode cL_isAct 166 = .ok (.istore 4, 2) := by decide +kernel
theorem dL_isAct_168 : decode cL_isAct 168 = .ok (.aload_n 0, 1) := by decide +kernel
theorem dL_isAct_169 : decode cL_isAct 169 = .ok (.iload 4, 2) := by decide +kernel
theorem dL_isAct_171 : decode cL_isAct 171 = .ok (.invokevirtual 135, 3) := by decide +kernel
theorem dL_isAct_174 : decode cL_isAct 174 = .ok (.iload_n 3, 1) := by decide +kernel
theorem dL_isAct_175 : decode cL_isAct 175 = .ok (.bipush 6, 2) := by decide +kernel
theorem dL_isAct_177 : decode cL_isAct 177 = .ok (.if_icmp .ne 8, 3) := by decide +kernel
theorem dL_isAct_180 : decode cL_isAct 180 = .ok (.bipush (-4), 2) := by decide +kernel
theorem dL_isAct_182 : decode cL_isAct 182 = .ok (.goto 6, 3) := by decide +kernel
theorem dL_isAct_185 : decode cL_isAct 185 = .ok (.iload_n 3, 1) := by decide +kernel
theorem dL_isAct_186 : decode cL_isAct 186 = .ok (.iconst 1, 1) := by decide +kernel
theorem dL_isAct_187 : decode cL_isAct 187 = .ok (.iadd, 1) := by decide +kernel
theorem dL_isAct_188 : decode cL_isAct 188 = .ok (.if_icmp .ne 23, 3) := by decide +kernel
theorem dL_isAct_191 : decode cL_isAct 191 = .ok (.iload_n 3, 1) := by decide +kernel
theorem dL_isAct_192 : decode cL_isAct 192 = .ok (.bipush 6, 2) := by decide +kernel
theorem dL_isAct_194 : decode cL_isAct 194 = .ok (.if_icmp .eq 13, 3) := by decide +kernel
theorem dL_isAct_197 : decode cL_isAct 197 = .ok (.aload_n 0, 1) := by decide +kernel
theorem dL_isAct_198 : decode cL_isAct 198 = .ok (.iload_n 3, 1) := by decide +kernel
theorem dL_isAct_199 : decode cL_isAct 199 = .ok (.invokevirtual 18, 3) := by decide +kernel
theorem dL_isAct_202 : decode cL_isAct 202 = .ok (.iload 4, 2) := by decide +kernel
theorem dL_isAct_204 : decode cL_isAct 204 = .ok (.if_icmp .ne 7, 3) := by decide +kernel
theorem dL_isAct_207 : decode cL_isAct 207 = .ok (.iconst 1, 1) := by decide +kernel
theorem dL_isAct_208 : decode cL_isAct 208 = .ok (.goto 4, 3) := by decide +kernel
theorem dL_isAct_211 : decode cL_isAct 211 = .ok (.iconst 0, 1) := by decide +kernel
theorem dL_isAct_212 : decode cL_isAct 212 = .ok (.ireturn, 1) := by decide +kernel
theorem dL_isAct_213 : decode cL_isAct 213 = .ok (.iload_n 3, 1) := by decide +kernel
theorem dL_isAct_214 : decode cL_isAct 214 = .ok (.ifCond .ne 8, 3) := by decide +kernel
theorem dL_isAct_217 : decode cL_isAct 217 = .ok (.bipush (-5), 2) := by decide +kernel
theorem dL_isAct_219 : decode cL_isAct 219 = .ok (.goto 10, 3) := by decide +kernel
theorem dL_isAct_222 : decode cL_isAct 222 = .ok (.aload_n 0, 1) := by decide +kernel
theorem dL_isAct_223 : decode cL_isAct 223 = .ok (.iload_n 3, 1) := by decide +kernel
theorem dL_isAct_224 : decode cL_isAct 224 = .ok (.iconst 1, 1) := by decide +kernel
theorem dL_isAct_225 : decode cL_isAct 225 = .ok (.isub, 1) := by decide +kernel
theorem dL_isAct_226 : decode cL_isAct 226 = .ok (.invokevirtual 18, 3) := by decide +kernel
theorem dL_isAct_229 : decode cL_isAct 229 = .ok (.istore 5, 2) := by decide +kernel
theorem dL_isAct_231 : decode cL_isAct 231 = .ok (.aload_n 0, 1) := by decide +kernel
theorem dL_isAct_232 : decode cL_isAct 232 = .ok (.invokevirtual 138, 3) := by decide +kernel
theorem dL_isAct_235 : decode cL_isAct 235 = .ok (.iload 5, 2) := by decide +kernel
theorem dL_isAct_237 : decode cL_isAct 237 = .ok (.if_icmp .ne 26, 3) := by decide +kernel
theorem dL_isAct_240 : decode cL_isAct 240 = .ok (.aload_n 0, 1) := by decide +kernel
theorem dL_isAct_241 : decode cL_isAct 241 = .ok (.iconst 0, 1) := by decide +kernel
theorem dL_isAct_242 : decode cL_isAct 242 = .ok (.invokevirtual 14, 3) := by decide +kernel
theorem dL_isAct_245 : decode cL_isAct 245 = .ok (.iload_n 3, 1) := by decide +kernel
theorem dL_isAct_246 : decode cL_isAct 246 = .ok (.ifCond .ne 7, 3) := by decide +kernel
theorem dL_isAct_249 : decode cL_isAct 249 = .ok (.iconst 0, 1) := by decide +kernel
theorem dL_isAct_250 : decode cL_isAct 250 = .ok (.goto 6, 3) := by decide +kernel
theorem dL_isAct_253 : decode cL_isAct 253 = .ok (.iload_n 3, 1) := by decide +kernel
theorem dL_isAct_254 : decode cL_isAct 254 = .ok (.iconst 1, 1) := by decide +kernel
theorem dL_isAct_255 : decode cL_isAct 255 = .ok (.isub, 1) := by decide +kernel
theorem dL_isAct_256 : decode cL_isAct 256 = .ok (.if_icmp .ne 7, 3) := by decide +kernel
theorem dL_isAct_259 : decode cL_isAct 259 = .ok (.iconst 1, 1) := by decide +kernel
theorem dL_isAct_260 : decode cL_isAct 260 = .ok (.goto 4, 3) := by decide +kernel
theorem dL_isAct_263 : decode cL_isAct 263 = .ok (.iconst 0, 1) := by decide +kernel
theorem dL_isAct_264 : decode cL_isAct 264 = .ok (.ireturn, 1) := by decide +kernel
theorem dL_isAct_265 : decode cL_isAct 265 = .ok (.aload_n 0, 1) := by decide +kernel
theorem dL_isAct_266 : decode cL_isAct 266 = .ok (.invokestatic 141, 3) := by decide +kernel
theorem dL_isAct_269 : decode cL_isAct 269 = .ok (.ireturn, 1) := by decide +kernel
theorem dL_law_0 : decode cL_law 0 = .ok (.new 9, 3) := by decide +kernel
theorem dL_law_3 : decode cL_law 3 = .ok (.dup, 1) := by decide +kernel
theorem dL_law_4 : decode cL_law 4 = .ok (.invokespecial 145, 3) := by decide +kernel
theorem dL_law_7 : decode cL_law 7 = .ok (.astore_n 1, 1) := by decide +kernel
theorem dL_law_8 : decode cL_law 8 = .ok (.iconst 0, 1) := by decide +kernel
theorem dL_law_9 : decode cL_law 9 = .ok (.istore_n 2, 1) := by decide +kernel
theorem dL_law_10 : decode cL_law 10 = .ok (.iload_n 2, 1) := by decide +kernel
theorem dL_law_11 : decode cL_law 11 = .ok (.bipush 16, 2) := by decide +kernel
theorem dL_law_13 : decode cL_law 13 = .ok (.if_icmp .ge 57, 3) := by decide +kernel
theorem dL_law_16 : decode cL_law 16 = .ok (.iconst 1, 1) := by decide +kernel
theorem dL_law_17 : decode cL_law 17 = .ok (.aload_n 0, 1) := by decide +kernel
theorem dL_law_18 : decode cL_law 18 = .ok (.iload_n 2, 1) := by decide +kernel
theorem dL_law_19 : decode cL_law 19 = .ok (.iconst 2, 1) := by decide +kernel
theorem dL_law_20 : decode cL_law 20 = .ok (.invokestatic 127, 3) := by decide +kernel
theorem dL_law_23 : decode cL_law 23 = .ok (.iadd, 1) := by decide +kernel
theorem dL_law_24 : decode cL_law 24 = .ok (.istore_n 3, 1) := by decide +kernel
theorem dL_law_25 : decode cL_law 25 = .ok (.aload_n 1, 1) := by decide +kernel
theorem dL_law_26 : decode cL_law 26 = .ok (.iload_n 3, 1) := by decide +kernel
theorem dL_law_27 : decode cL_law 27 = .ok (.aload_n 0, 1) := by decide +kernel
theorem dL_law_28 : decode cL_law 28 = .ok (.bipush 16, 2) := by decide +kernel
theorem dL_law_30 : decode cL_law 30 = .ok (.iload_n 2, 1) := by decide +kernel
theorem dL_law_31 : decode cL_law 31 = .ok (.iadd, 1) := by decide +kernel
theorem dL_law_32 : decode cL_law 32 = .ok (.bipush 6, 2) := by decide +kernel
theorem dL_law_34 : decode cL_law 34 = .ok (.invokestatic 127, 3) := by decide +kernel
theorem dL_law_37 : decode cL_law 37 = .ok (.aload_n 0, 1) := by decide +kernel
theorem dL_law_38 : decode cL_law 38 = .ok (.bipush 32, 2) := by decide +kernel
theorem dL_law_40 : decode cL_law 40 = .ok (.iload_n 2, 1) := by decide +kernel
theorem dL_law_41 : decode cL_law 41 = .ok (.iadd, 1) := by decide +kernel
theorem dL_law_42 : decode cL_law 42 = .ok (.bipush 6, 2) := by decide +kernel
theorem dL_law_44 : decode cL_law 44 = .ok (.invokestatic 127, 3) := by decide +kernel
theorem dL_law_47 : decode cL_law 47 = .ok (.aload_n 0, 1) := by decide +kernel
theorem dL_law_48 : decode cL_law 48 = .ok (.bipush 48, 2) := by decide +kernel
theorem dL_law_50 : decode cL_law 50 = .ok (.iload_n 2, 1) := by decide +kernel
theorem dL_law_51 : decode cL_law 51 = .ok (.iadd, 1) := by decide +kernel
theorem dL_law_52 : decode cL_law 52 = .ok (.iconst 4, 1) := by decide +kernel
theorem dL_law_53 : decode cL_law 53 = .ok (.invokestatic 127, 3) := by decide +kernel
theorem dL_law_56 : decode cL_law 56 = .ok (.invokestatic 131, 3) := by decide +kernel
theorem dL_law_59 : decode cL_law 59 = .ok (.ifCond .ne 5, 3) := by decide +kernel
theorem dL_law_62 : decode cL_law 62 = .ok (.iconst 0, 1) := by decide +kernel
theorem dL_law_63 : decode cL_law 63 = .ok (.ireturn, 1) := by decide +kernel
theorem dL_law_64 : decode cL_law 64 = .ok (.iinc 2 1, 3) := by decide +kernel
theorem dL_law_67 : decode cL_law 67 = .ok (.goto (-57), 3) := by decide +kernel
theorem dL_law_70 : decode cL_law 70 = .ok (.iconst 0, 1) := by decide +kernel
theorem dL_law_71 : decode cL_law 71 = .ok (.istore_n 2, 1) := by decide +kernel
theorem dL_law_72 : decode cL_law 72 = .ok (.iload_n 2, 1) := by decide +kernel
theorem dL_law_73 : decode cL_law 73 = .ok (.bipush 30, 2) := by decide +kernel
theorem dL_law_75 : decode cL_law 75 = .ok (.if_icmp .ge 32, 3) := by decide +kernel
theorem dL_law_78 : decode cL_law 78 = .ok (.aload_n 1, 1) := by decide +kernel
theorem dL_law_79 : decode cL_law 79 = .ok (.invokestatic 146, 3) := by decide +kernel
theorem dL_law_82 : decode cL_law 82 = .ok (.ifCond .eq 17, 3) := by decide +kernel
theorem dL_law_85 : decode cL_law 85 = .ok (.aload_n 1, 1) := by decide +kernel
theorem dL_law_86 : decode cL_law 86 = .ok (.aload_n 0, 1) := by decide +kernel
theorem dL_law_87 : decode cL_law 87 = .ok (.bipush 64, 2) := by decide +kernel
theorem dL_law_89 : decode cL_law 89 = .ok (.iconst 4, 1) := by decide +kernel
theorem dL_law_90 : decode cL_law 90 = .ok (.iload_n 2, 1) := by decide +kernel
theorem dL_law_91 : decode cL_law 91 = .ok (.imul, 1) := by decide +kernel
theorem dL_law_92 : decode cL_law 92 = .ok (.iadd, 1) := by decide +kernel
theorem dL_law_93 : decode cL_law 93 = .ok (.invokestatic 149, 3) := by decide +kernel
theorem dL_law_96 : decode cL_law 96 = .ok (.ifCond .ne 5, 3) := by decide +kernel
theorem dL_law_99 : decode cL_law 99 = .ok (.iconst 0, 1) := by decide +kernel
theorem dL_law_100 : decode cL_law 100 = .ok (.ireturn, 1) := by decide +kernel
theorem dL_law_101 : decode cL_law 101 = .ok (.iinc 2 1, 3) := by decide +kernel
theorem dL_law_104 : decode cL_law 104 = .ok (.goto (-32), 3) := by decide +kernel
theorem dL_law_107 : decode cL_law 107 = .ok (.aload_n 1, 1) := by decide +kernel
theorem dL_law_108 : decode cL_law 108 = .ok (.invokestatic 146, 3) := by decide +kernel
theorem dL_law_111 : decode cL_law 111 = .ok (.ireturn, 1) := by decide +kernel
