theorem dL_low_0 : decode cL_low 0 = .ok (.iload_n 0, 1) := by decide +kernel
theorem dL_low_1 : decode cL_low 1 = .ok (.ldc 7, 2) := by decide +kernel
theorem dL_low_3 : decode cL_low 3 = .ok (.iand, 1) := by decide +kernel
theorem dL_low_4 : decode cL_low 4 = .ok (.iload_n 1, 1) := by decide +kernel
theorem dL_low_5 : decode cL_low 5 = .ok (.irem, 1) := by decide +kernel
theorem dL_low_6 : decode cL_low 6 = .ok (.ireturn, 1) := by decide +kernel
theorem dL_cell_0 : decode cL_cell 0 = .ok (.iload_n 1, 1) := by decide +kernel
theorem dL_cell_1 : decode cL_cell 1 = .ok (.aload_n 0, 1) := by decide +kernel
theorem dL_cell_2 : decode cL_cell 2 = .ok (.arraylength, 1) := by decide +kernel
theorem dL_cell_3 : decode cL_cell 3 = .ok (.if_icmp .ge 9, 3) := by decide +kernel
theorem dL_cell_6 : decode cL_cell 6 = .ok (.aload_n 0, 1) := by decide +kernel
theorem dL_cell_7 : decode cL_cell 7 = .ok (.iload_n 1, 1) := by decide +kernel
theorem dL_cell_8 : decode cL_cell 8 = .ok (.iaload, 1) := by decide +kernel
theorem dL_cell_9 : decode cL_cell 9 = .ok (.goto 11, 3) := by decide +kernel
theorem dL_cell_12 : decode cL_cell 12 = .ok (.ldc 8, 2) := by decide +kernel
theorem dL_cell_14 : decode cL_cell 14 = .ok (.iload_n 1, 1) := by decide +kernel
theorem dL_cell_15 : decode cL_cell 15 = .ok (.imul, 1) := by decide +kernel
theorem dL_cell_16 : decode cL_cell 16 = .ok (.sipush 977, 3) := by decide +kernel
theorem dL_cell_19 : decode cL_cell 19 = .ok (.iadd, 1) := by decide +kernel
theorem dL_cell_20 : decode cL_cell 20 = .ok (.ireturn, 1) := by decide +kernel
theorem dL_two_0 : decode cL_two 0 = .ok (.iload_n 1, 1) := by decide +kernel
theorem dL_two_1 : decode cL_two 1 = .ok (.bipush 9, 2) := by decide +kernel
theorem dL_two_3 : decode cL_two 3 = .ok (.if_icmp .le 15, 3) := by decide +kernel
theorem dL_two_6 : decode cL_two 6 = .ok (.aload_n 0, 1) := by decide +kernel
theorem dL_two_7 : decode cL_two 7 = .ok (.bipush 48, 2) := by decide +kernel
theorem dL_two_9 : decode cL_two 9 = .ok (.iload_n 1, 1) := by decide +kernel
theorem dL_two_10 : decode cL_two 10 = .ok (.bipush 10, 2) := by decide +kernel
theorem dL_two_12 : decode cL_two 12 = .ok (.idiv, 1) := by decide +kernel
theorem dL_two_13 : decode cL_two 13 = .ok (.iadd, 1) := by decide +kernel
theorem dL_two_14 : decode cL_two 14 = .ok (.invokevirtual 9, 3) := by decide +kernel
theorem dL_two_17 : decode cL_two 17 = .ok (.pop, 1) := by decide +kernel
theorem dL_two_18 : decode cL_two 18 = .ok (.aload_n 0, 1) := by decide +kernel
theorem dL_two_19 : decode cL_two 19 = .ok (.bipush 48, 2) := by decide +kernel
theorem dL_two_21 : decode cL_two 21 = .ok (.iload_n 1, 1) := by decide +kernel
theorem dL_two_22 : decode cL_two 22 = .ok (.bipush 10, 2) := by decide +kernel
theorem dL_two_24 : decode cL_two 24 = .ok (.irem, 1) := by decide +kernel
theorem dL_two_25 : decode cL_two 25 = .ok (.iadd, 1) := by decide +kernel
theorem dL_two_26 : decode cL_two 26 = .ok (.invokevirtual 9, 3) := by decide +kernel
theorem dL_two_29 : decode cL_two 29 = .ok (.pop, 1) := by decide +kernel
theorem dL_two_30 : decode cL_two 30 = .ok (.aload_n 0, 1) := by decide +kernel
theorem dL_two_31 : decode cL_two 31 = .ok (.iload_n 2, 1) := by decide +kernel
theorem dL_two_32 : decode cL_two 32 = .ok (.invokevirtual 9, 3) := by decide +kernel
theorem dL_two_35 : decode cL_two 35 = .ok (.pop, 1) := by decide +kernel
theorem dL_two_36 : decode cL_two 36 = .ok (.return_, 1) := by decide +kernel
theorem dL_item_0 : decode cL_item 0 = .ok (.aload_n 0, 1) := by decide +kernel
theorem dL_item_1 : decode cL_item 1 = .ok (.iload_n 1, 1) := by decide +kernel
theorem dL_item_2 : decode cL_item 2 = .ok (.invokevirtual 9, 3) := by decide +kernel
theorem dL_item_5 : decode cL_item 5 = .ok (.pop, 1) := by decide +kernel
theorem dL_item_6 : decode cL_item 6 = .ok (.aload_n 0, 1) := by decide +kernel
theorem dL_item_7 : decode cL_item 7 = .ok (.iload_n 2, 1) := by decide +kernel
theorem dL_item_8 : decode cL_item 8 = .ok (.bipush 44, 2) := by decide +kernel
theorem dL_item_10 : decode cL_item 10 = .ok (.invokestatic 15, 3) := by decide +kernel
theorem dL_item_13 : decode cL_item 13 = .ok (.aload_n 0, 1) := by decide +kernel
theorem dL_item_14 : decode cL_item 14 = .ok (.iload_n 3, 1) := by decide +kernel
theorem dL_item_15 : decode cL_item 15 = .ok (.bipush 44, 2) := by decide +kernel
theorem dL_item_17 : decode cL_item 17 = .ok (.invokestatic 15, 3) := by decide +kernel
theorem dL_item_20 : decode cL_item 20 = .ok (.aload_n 0, 1) := by decide +kernel
theorem dL_item_21 : decode cL_item 21 = .ok (.iload 4, 2) := by decide +kernel
theorem dL_item_23 : decode cL_item 23 = .ok (.bipush 59, 2) := by decide +kernel
theorem dL_item_25 : decode cL_item 25 = .ok (.invokestatic 15, 3) := by decide +kernel
theorem dL_item_28 : decode cL_item 28 = .ok (.return_, 1) := by decide +kernel
theorem dL_street_0 : decode cL_street 0 = .ok (.iconst (-1), 1) := by decide +kernel
theorem dL_street_1 : decode cL_street 1 = .ok (.istore 4, 2) := by decide +kernel
theorem dL_street_3 : decode cL_street 3 = .ok (.iconst 0, 1) := by decide +kernel
theorem dL_street_4 : decode cL_street 4 = .ok (.istore 5, 2) := by decide +kernel
theorem dL_street_6 : decode cL_street 6 = .ok (.iload 5, 2) := by decide +kernel
theorem dL_street_8 : decode cL_street 8 = .ok (.aload_n 0, 1) := by decide +kernel
theorem dL_street_9 : decode cL_street 9 = .ok (.bipush 50, 2) := by decide +kernel
theorem dL_street_11 : decode cL_street 11 = .ok (.iload_n 1, 1) := by decide +kernel
theorem dL_street_12 : decode cL_street 12 = .ok (.iadd, 1) := by decide +kernel
theorem dL_street_13 : decode cL_street 13 = .ok (.iaload, 1) := by decide +kernel
theorem dL_street_14 : decode cL_street 14 = .ok (.if_icmp .ge 65, 3) := by decide +kernel
theorem dL_street_17 : decode cL_street 17 = .ok (.bipush 8, 2) := by decide +kernel
theorem dL_street_19 : decode cL_street 19 = .ok (.iload_n 1, 1) := by decide +kernel
theorem dL_street_20 : decode cL_street 20 = .ok (.imul, 1) := by decide +kernel
theorem dL_street_21 : decode cL_street 21 = .ok (.iload 5, 2) := by decide +kernel
theorem dL_street_23 : decode cL_street 23 = .ok (.iadd, 1) := by decide +kernel
theorem dL_street_24 : decode cL_street 24 = .ok (.istore 6, 2) := by decide +kernel
theorem dL_street_26 : decode cL_street 26 = .ok (.aload_n 0, 1) := by decide +kernel
theorem dL_street_27 : decode cL_street 27 = .ok (.iload 6, 2) := by decide +kernel
theorem dL_street_29 : decode cL_street 29 = .ok (.iaload, 1) := by decide +kernel
theorem dL_street_30 : decode cL_street 30 = .ok (.iload_n 2, 1) := by decide +kernel
theorem dL_street_31 : decode cL_street 31 = .ok (.if_icmp .ne 14, 3) := by decide +kernel
theorem dL_street_34 : decode cL_street 34 = .ok (.aload_n 0, 1) := by decide +kernel
theorem dL_street_35 : decode cL_street 35 = .ok (.bipush 16, 2) := by decide +kernel
theorem dL_street_37 : decode cL_street 37 = .ok (.iload 6, 2) := by decide +kernel
theorem dL_street_39 : decode cL_street 39 = .ok (.iadd, 1) := by decide +kernel
theorem dL_street_40 : decode cL_street 40 = .ok (.iaload, 1) := by decide +kernel
theorem dL_street_41 : decode cL_street 41 = .ok (.iload_n 3, 1) := by decide +kernel
theorem dL_street_42 : decode cL_street 42 = .ok (.if_icmp .eq 22, 3) := by decide +kernel
theorem dL_street_45 : decode cL_street 45 = .ok (.aload_n 0, 1) := by decide +kernel
theorem dL_street_46 : decode cL_street 46 = .ok (.iload 6, 2) := by decide +kernel
theorem dL_street_48 : decode cL_street 48 = .ok (.iaload, 1) := by decide +kernel
theorem dL_street_49 : decode cL_street 49 = .ok (.iload_n 3, 1) := by decide +kernel
theorem dL_street_50 : decode cL_street 50 = .ok (.if_icmp .ne 19, 3) := by decide +kernel
theorem dL_street_53 : decode cL_street 53 = .ok (.aload_n 0, 1) := by decide +kernel
theorem dL_street_54 : decode cL_street 54 = .ok (.bipush 16, 2) := by decide +kernel
theorem dL_street_56 : decode cL_street 56 = .ok (.iload 6, 2) := by decide +kernel
theorem dL_street_58 : decode cL_street 58 = .ok (.iadd, 1) := by decide +kernel
theorem dL_street_59 : decode cL_street 59 = .ok (.iaload, 1) := by decide +kernel
theorem dL_street_60 : decode cL_street 60 = .ok (.iload_n 2, 1) := by decide +kernel
theorem dL_street_61 : decode cL_street 61 = .ok (.if_icmp .ne 8, 3) := by decide +kernel
theorem dL_street_64 : decode cL_street 64 = .ok (.iload 5, 2) := by decide +kernel
theorem dL_street_66 : decode cL_street 66 = .ok (.goto 5, 3) := by decide +kernel
theorem dL_street_69 : decode cL_street 69 = .ok (.iload 4, 2) := by decide +kernel
theorem dL_street_71 : decode cL_street 71 = .ok (.istore 4, 2) := by decide +kernel
theorem dL_street_73 : decode cL_street 73 = .ok (.iinc 5 1, 3) := by decide +kernel
theorem dL_street_76 : decode cL_street 76 = .ok (.goto (-70), 3) := by decide +kernel
theorem dL_street_79 : decode cL_street 79 = .ok (.iload 4, 2) := by decide +kernel
theorem dL_street_81 : decode cL_street 81 = .ok (.ireturn, 1) := by decide +kernel
theorem dL_surveys_0 : decode cL_surveys 0 = .ok (.aload_n 1, 1) := by decide +kernel
theorem dL_surveys_1 : decode cL_surveys 1 = .ok (.iconst 0, 1) := by decide +kernel
theorem dL_surveys_2 : decode cL_surveys 2 = .ok (.invokestatic 21, 3) := by decide +kernel
theorem dL_surveys_5 : decode cL_surveys 5 = .ok (.istore 4, 2) := by decide +kernel
theorem dL_surveys_7 : decode cL_surveys 7 = .ok (.aload_n 3, 1) := by decide +kernel
theorem dL_surveys_8 : decode cL_surveys 8 = .ok (.bipush 52, 2) := by decide +kernel
theorem dL_surveys_10 : decode cL_surveys 10 = .ok (.iconst 1, 1) := by decide +kernel
theorem dL_surveys_11 : decode cL_surveys 11 = .ok (.iload 4, 2) := by decide +kernel
theorem dL_surveys_13 : decode cL_surveys 13 = .ok (.bipush 20, 2) := by decide +kernel
theorem dL_surveys_15 : decode cL_surveys 15 = .ok (.invokestatic 25, 3) := by decide +kernel
theorem dL_surveys_18 : decode cL_surveys 18 = .ok (.iadd, 1) := by decide +kernel
theorem dL_surveys_19 : decode cL_surveys 19 = .ok (.iastore, 1) := by decide +kernel
theorem dL_surveys_20 : decode cL_surveys 20 = .ok (.aload_n 3, 1) := by decide +kernel
theorem dL_surveys_21 : decode cL_surveys 21 = .ok (.bipush 53, 2) := by decide +kernel
theorem dL_surveys_23 : decode cL_surveys 23 = .ok (.iload 4, 2) := by decide +kernel
theorem dL_surveys_25 : decode cL_surveys 25 = .ok (.iconst 5, 1) := by decide +kernel
theorem dL_surveys_26 : decode cL_surveys 26 = .ok (.ishr, 1) := by decide +kernel
theorem dL_surveys_27 : decode cL_surveys 27 = .ok (.iconst 4, 1) := by decide +kernel
theorem dL_surveys_28 : decode cL_surveys 28 = .ok (.invokestatic 25, 3) := by decide +kernel
theorem dL_surveys_31 : decode cL_surveys 31 = .ok (.iastore, 1) := by decide +kernel
theorem dL_surveys_32 : decode cL_surveys 32 = .ok (.aload_n 3, 1) := by decide +kernel
theorem dL_surveys_33 : decode cL_surveys 33 = .ok (.bipush 50, 2) := by decide +kernel
theorem dL_surveys_35 : decode cL_surveys 35 = .ok (.iconst 0, 1) := by decide +kernel
theorem dL_surveys_36 : decode cL_surveys 36 = .ok (.iastore, 1) := by decide +kernel
theorem dL_surveys_37 : decode cL_surveys 37 = .ok (.aload_n 3, 1) := by decide +kernel
theorem dL_surveys_38 : decode cL_surveys 38 = .ok (.bipush 51, 2) := by decide +kernel
theorem dL_surveys_40 : decode cL_surveys 40 = .ok (.iconst 0, 1) := by decide +kernel
theorem dL_surveys_41 : decode cL_surveys 41 = .ok (.iastore, 1) := by decide +kernel
theorem dL_surveys_42 : decode cL_surveys 42 = .ok (.iload 4, 2) := by decide +kernel
theorem dL_surveys_44 : decode cL_surveys 44 = .ok (.bipush 8, 2) := by decide +kernel
theorem dL_surveys_46 : decode cL_surveys 46 = .ok (.ishr, 1) := by decide +kernel
theorem dL_surveys_47 : decode cL_surveys 47 = .ok (.iconst 3, 1) := by decide +kernel
theorem dL_surveys_48 : decode cL_surveys 48 = .ok (.invokestatic 25, 3) := by decide +kernel
theorem dL_surveys_51 : decode cL_surveys 51 = .ok (.ifCond .ne 8, 3) := by decide +kernel
theorem dL_surveys_54 : decode cL_surveys 54 = .ok (.bipush 61, 2) := by decide +kernel
theorem dL_surveys_56 : decode cL_surveys 56 = .ok (.goto 5, 3) := by decide +kernel
theorem dL_surveys_59 : decode cL_surveys 59 = .ok (.bipush 20, 2) := by decide +kernel
theorem dL_surveys_61 : decode cL_surveys 61 = .ok (.istore 5, 2) := by decide +kernel
theorem dL_surveys_63 : decode cL_surveys 63 = .ok (.aload_n 0, 1) := by decide +kernel
theorem dL_surveys_64 : decode cL_surveys 64 = .ok (.invokevirtual 29, 3) := by decide +kernel
theorem dL_surveys_67 : decode cL_surveys 67 = .ok (.pop, 1) := by decide +kernel
theorem dL_surveys_68 : decode cL_surveys 68 = .ok (.aload_n 0, 1) := by decide +kernel
theorem dL_surveys_69 : decode cL_surveys 69 = .ok (.bipush 114, 2) := by decide +kernel
theorem dL_surveys_71 : decode cL_surveys 71 = .ok (.invokevirtual 9, 3) := by decide +kernel
theorem dL_surveys_74 : decode cL_surveys 74 = .ok (.pop, 1) := by decide +kernel
theorem dL_surveys_75 : decode cL_surveys 75 = .ok (.aload_n 0, 1) := by decide +kernel
theorem dL_surveys_76 : decode cL_surveys 76 = .ok (.aload_n 3, 1) := by decide +kernel
theorem dL_surveys_77 : decode cL_surveys 77 = .ok (.bipush 52, 2) := by decide +kernel
theorem dL_surveys_79 : decode cL_surveys 79 = .ok (.iaload, 1) := by decide +kernel
theorem dL_surveys_80 : decode cL_surveys 80 = .ok (.bipush 59, 2) := by decide +kernel
theorem dL_surveys_82 : decode cL_surveys 82 = .ok (.invokestatic 15, 3) := by decide +kernel
theorem dL_surveys_85 : decode cL_surveys 85 = .ok (.aload_n 0, 1) := by decide +kernel
theorem dL_surveys_86 : decode cL_surveys 86 = .ok (.bipush 110, 2) := by decide +kernel
theorem dL_surveys_88 : decode cL_surveys 88 = .ok (.invokevirtual 9, 3) := by decide +kernel
theorem dL_surveys_91 : decode cL_surveys 91 = .ok (.pop, 1) := by decide +kernel
theorem dL_surveys_92 : decode cL_surveys 92 = .ok (.aload_n 0, 1) := by decide +kernel
theorem dL_surveys_93 : decode cL_surveys 93 = .ok (.aload_n 3, 1) := by decide +kernel
theorem dL_surveys_94 : decode cL_surveys 94 = .ok (.bipush 53, 2) := by decide +kernel
theorem dL_surveys_96 : decode cL_surveys 96 = .ok (.iaload, 1) := by decide +kernel
theorem dL_surveys_97 : decode cL_surveys 97 = .ok (.bipush 59, 2) := by decide +kernel
theorem dL_surveys_99 : decode cL_surveys 99 = .ok (.invokestatic 15, 3) := by decide +kernel
theorem dL_surveys_102 : decode cL_surveys 102 = .ok (.iconst 0, 1) := by decide +kernel
theorem dL_surveys_103 : decode cL_surveys 103 = .ok (.istore 6, 2) := by decide +kernel
theorem dL_surveys_105 : decode cL_surveys 105 = .ok (.iload 6, 2) := by decide +kernel
theorem dL_surveys_107 : decode cL_surveys 107 = .ok (.iconst 2, 1) := by decide +kernel
theorem dL_surveys_108 : decode cL_surveys 108 = .ok (.if_icmp .ge 445, 3) := by decide +kernel
theorem dL_surveys_111 : decode cL_surveys 111 = .ok (.aload_n 3, 1) := by decide +kernel
theorem dL_surveys_112 : decode cL_surveys 112 = .ok (.bipush 48, 2) := by decide +kernel
theorem dL_surveys_114 : decode cL_surveys 114 = .ok (.iload 6, 2) := by decide +kernel
theorem dL_surveys_116 : decode cL_surveys 116 = .ok (.iadd, 1) := by decide +kernel
theorem dL_surveys_117 : decode cL_surveys 117 = .ok (.iconst 1, 1) := by decide +kernel
theorem dL_surveys_118 : decode cL_surveys 118 = .ok (.iload 4, 2) := by decide +kernel
theorem dL_surveys_120 : decode cL_surveys 120 = .ok (.bipush 11, 2) := by decide +kernel
theorem dL_surveys_122 : decode cL_surveys 122 = .ok (.iconst 3, 1) := by decide +kernel
theorem dL_surveys_123 : decode cL_surveys 123 = .ok (.iload 6, 2) := by decide +kernel
theorem dL_surveys_125 : decode cL_surveys 125 = .ok (.imul, 1) := by decide +kernel
theorem dL_surveys_126 : decode cL_surveys 126 = .ok (.iadd, 1) := by decide +kernel
theorem dL_surveys_127 : decode cL_surveys 127 = .ok (.ishr, 1) := by decide +kernel
theorem dL_surveys_128 : decode cL_surveys 128 = .ok (.bipush 6, 2) := by decide +kernel
theorem dL_surveys_130 : decode cL_surveys 130 = .ok (.invokestatic 25, 3) := by decide +kernel
theorem dL_surveys_133 : decode cL_surveys 133 = .ok (.iadd, 1) := by decide +kernel
theorem dL_surveys_134 : decode cL_surveys 134 = .ok (.iastore, 1) := by decide +kernel
theorem dL_surveys_135 : decode cL_surveys 135 = .ok (.iconst 0, 1) := by decide +kernel
theorem dL_surveys_136 : decode cL_surveys 136 = .ok (.istore 7, 2) := by decide +kernel
theorem dL_surveys_138 : decode cL_surveys 138 = .ok (.iload 7, 2) := by decide +kernel
theorem dL_surveys_140 : decode cL_surveys 140 = .ok (.aload_n 3, 1) := by decide +kernel
theorem dL_surveys_141 : decode cL_surveys 141 = .ok (.bipush 48, 2) := by decide +kernel
theorem dL_surveys_143 : decode cL_surveys 143 = .ok (.iload 6, 2) := by decide +kernel
theorem dL_surveys_145 : decode cL_surveys 145 = .ok (.iadd, 1) := by decide +kernel
theorem dL_surveys_146 : decode cL_surveys 146 = .ok (.iaload, 1) := by decide +kernel
theorem dL_surveys_147 : decode cL_surveys 147 = .ok (.if_icmp .ge 217, 3) := by decide +kernel
theorem dL_surveys_150 : decode cL_surveys 150 = .ok (.aload_n 1, 1) := by decide +kernel
theorem dL_surveys_151 : decode cL_surveys 151 = .ok (.iconst 1, 1) := by decide +kernel
theorem dL_surveys_152 : decode cL_surveys 152 = .ok (.bipush 6, 2) := by decide +kernel
theorem dL_surveys_154 : decode cL_surveys 154 = .ok (.iload 6, 2) := by decide +kernel
theorem dL_surveys_156 : decode cL_surveys 156 = .ok (.imul, 1) := by decide +kernel
theorem dL_surveys_157 : decode cL_surveys 157 = .ok (.iadd, 1) := by decide +kernel
theorem dL_surveys_158 : decode cL_surveys 158 = .ok (.iload 7, 2) := by decide +kernel
theorem dL_surveys_160 : decode cL_surveys 160 = .ok (.iadd, 1) := by decide +kernel
theorem dL_surveys_161 : decode cL_surveys 161 = .ok (.invokestatic 21, 3) := by decide +kernel
theorem dL_surveys_164 : decode cL_surveys 164 = .ok (.istore 8, 2) := by decide +kernel
theorem dL_surveys_166 : decode cL_surveys 166 = .ok (.bipush 8, 2) := by decide +kernel
theorem dL_surveys_168 : decode cL_surveys 168 = .ok (.iload 6, 2) := by decide +kernel
theorem dL_surveys_170 : decode cL_surveys 170 = .ok (.imul, 1) := by decide +kernel
theorem dL_surveys_171 : decode cL_surveys 171 = .ok (.iload 7, 2) := by decide +kernel
theorem dL_surveys_173 : decode cL_surveys 173 = .ok (.iadd, 1) := by decide +kernel
theorem dL_surveys_174 : decode cL_surveys 174 = .ok (.istore 9, 2) := by decide +kernel
theorem dL_surveys_176 : decode cL_surveys 176 = .ok (.aload_n 2, 1) := by decide +kernel
theorem dL_surveys_177 : decode cL_surveys 177 = .ok (.iload 9, 2) := by decide +kernel
theorem dL_surveys_179 : decode cL_surveys 179 = .ok (.iload 8, 2) := by decide +kernel
theorem dL_surveys_181 : decode cL_surveys 181 = .ok (.iconst 3, 1) := by decide +kernel
theorem dL_surveys_182 : decode cL_surveys 182 = .ok (.invokestatic 25, 3) := by decide +kernel
theorem dL_surveys_185 : decode cL_surveys 185 = .ok (.ifCond .le 7, 3) := by decide +kernel
theorem dL_surveys_188 : decode cL_surveys 188 = .ok (.iconst 0, 1) := by decide +kernel
theorem dL_surveys_189 : decode cL_surveys 189 = .ok (.goto 11, 3) := by decide +kernel
theorem dL_surveys_192 : decode cL_surveys 192 = .ok (.iload 8, 2) := by decide +kernel
theorem dL_surveys_194 : decode cL_surveys 194 = .ok (.iconst 2, 1) := by decide +kernel
theorem dL_surveys_195 : decode cL_surveys 195 = .ok (.ishr, 1) := by decide +kernel
theorem dL_surveys_196 : decode cL_surveys 196 = .ok (.iconst 4, 1) := by decide +kernel
theorem dL_surveys_197 : decode cL_surveys 197 = .ok (.invokestatic 25, 3) := by decide +kernel
theorem dL_surveys_200 : decode cL_surveys 200 = .ok (.iastore, 1) := by decide +kernel
theorem dL_surveys_201 : decode cL_surveys 201 = .ok (.iload 6, 2) := by decide +kernel
theorem dL_surveys_203 : decode cL_surveys 203 = .ok (.iconst 1, 1) := by decide +kernel
theorem dL_surveys_204 : decode cL_surveys 204 = .ok (.if_icmp .ne 27, 3) := by decide +kernel
theorem dL_surveys_207 : decode cL_surveys 207 = .ok (.iload 7, 2) := by decide +kernel
theorem dL_surveys_209 : decode cL_surveys 209 = .ok (.aload_n 3, 1) := by decide +kernel
theorem dL_surveys_210 : decode cL_surveys 210 = .ok (.bipush 48, 2) := by decide +kernel
theorem dL_surveys_212 : decode cL_surveys 212 = .ok (.iaload, 1) := by decide +kernel
theorem dL_surveys_213 : decode cL_surveys 213 = .ok (.if_icmp .ge 18, 3) := by decide +kernel
theorem dL_surveys_216 : decode cL_surveys 216 = .ok (.iload 8, 2) := by decide +kernel
theorem dL_surveys_218 : decode cL_surveys 218 = .ok (.iconst 4, 1) := by decide +kernel
theorem dL_surveys_219 : decode cL_surveys 219 = .ok (.ishr, 1) := by decide +kernel
theorem dL_surveys_220 : decode cL_surveys 220 = .ok (.iconst 3, 1) := by decide +kernel
theorem dL_surveys_221 : decode cL_surveys 221 = .ok (.invokestatic 25, 3) := by decide +kernel
theorem dL_surveys_224 : decode cL_surveys 224 = .ok (.ifCond .le 7, 3) := by decide +kernel
theorem dL_surveys_227 : decode cL_surveys 227 = .ok (.iconst 1, 1) := by decide +kernel
theorem dL_surveys_228 : decode cL_surveys 228 = .ok (.goto 4, 3) := by decide +kernel
theorem dL_surveys_231 : decode cL_surveys 231 = .ok (.iconst 0, 1) := by decide +kernel
theorem dL_surveys_232 : decode cL_surveys 232 = .ok (.istore 10, 2) := by decide +kernel
theorem dL_surveys_234 : decode cL_surveys 234 = .ok (.aload_n 2, 1) := by decide +kernel
theorem dL_surveys_235 : decode cL_surveys 235 = .ok (.bipush 16, 2) := by decide +kernel
theorem dL_surveys_237 : decode cL_surveys 237 = .ok (.iload 9, 2) := by decide +kernel
theorem dL_surveys_239 : decode cL_surveys 239 = .ok (.iadd, 1) := by decide +kernel
theorem dL_surveys_240 : decode cL_surveys 240 = .ok (.iload 10, 2) := by decide +kernel
theorem dL_surveys_242 : decode cL_surveys 242 = .ok (.ifCond .eq 26, 3) := by decide +kernel
theorem dL_surveys_245 : decode cL_surveys 245 = .ok (.aload_n 2, 1) := by decide +kernel
theorem dL_surveys_246 : decode cL_surveys 246 = .ok (.bipush 16, 2) := by decide +kernel
theorem dL_surveys_248 : decode cL_surveys 248 = .ok (.iload 7, 2) := by decide +kernel
theorem dL_surveys_250 : decode cL_surveys 250 = .ok (.iadd, 1) := by decide +kernel
theorem dL_surveys_251 : decode cL_surveys 251 = .ok (.iaload, 1) := by decide +kernel
theorem dL_surveys_252 : decode cL_surveys 252 = .ok (.iload 8, 2) := by decide +kernel
theorem dL_surveys_254 : decode cL_surveys 254 = .ok (.bipush 6, 2) := by decide +kernel
theorem dL_surveys_256 : decode cL_surveys 256 = .ok (.ishr, 1) := by decide +kernel
theorem dL_surveys_257 : decode cL_surveys 257 = .ok (.iconst 5, 1) := by decide +kernel
theorem dL_surveys_258 : decode cL_surveys 258 = .ok (.invokestatic 25, 3) := by decide +kernel
theorem dL_surveys_261 : decode cL_surveys 261 = .ok (.iadd, 1) := by decide +kernel
theorem dL_surveys_262 : decode cL_surveys 262 = .ok (.bipush 61, 2) := by decide +kernel
theorem dL_surveys_264 : decode cL_surveys 264 = .ok (.irem, 1) := by decide +kernel
theorem dL_surveys_265 : decode cL_surveys 265 = .ok (.goto 13, 3) := by decide +kernel
theorem dL_surveys_268 : decode cL_surveys 268 = .ok (.iload 8, 2) := by decide +kernel
theorem dL_surveys_270 : decode cL_surveys 270 = .ok (.bipush 6, 2) := by decide +kernel
theorem dL_surveys_272 : decode cL_surveys 272 = .ok (.ishr, 1) := by decide +kernel
theorem dL_surveys_273 : decode cL_surveys 273 = .ok (.iload 5, 2) := by decide +kernel
theorem dL_surveys_275 : decode cL_surveys 275 = .ok (.invokestatic 25, 3) := by decide +kernel
theorem dL_surveys_278 : decode cL_surveys 278 = .ok (.iastore, 1) := by decide +kernel
theorem dL_surveys_279 : decode cL_surveys 279 = .ok (.aload_n 2, 1) := by decide +kernel
theorem dL_surveys_280 : decode cL_surveys 280 = .ok (.bipush 32, 2) := by decide +kernel
theorem dL_surveys_282 : decode cL_surveys 282 = .ok (.iload 9, 2) := by decide +kernel
theorem dL_surveys_284 : decode cL_surveys 284 = .ok (.iadd, 1) := by decide +kernel
theorem dL_surveys_285 : decode cL_surveys 285 = .ok (.iload 10, 2) := by decide +kernel
theorem dL_surveys_287 : decode cL_surveys 287 = .ok (.ifCond .eq 26, 3) := by decide +kernel
theorem dL_surveys_290 : decode cL_surveys 290 = .ok (.aload_n 2, 1) := by decide +kernel
theorem dL_surveys_291 : decode cL_surveys 291 = .ok (.bipush 32, 2) := by decide +kernel
theorem dL_surveys_293 : decode cL_surveys 293 = .ok (.iload 7, 2) := by decide +kernel
theorem dL_surveys_295 : decode cL_surveys 295 = .ok (.iadd, 1) := by decide +kernel
theorem dL_surveys_296 : decode cL_surveys 296 = .ok (.iaload, 1) := by decide +kernel
theorem dL_surveys_297 : decode cL_surveys 297 = .ok (.iload 8, 2) := by decide +kernel
theorem dL_surveys_299 : decode cL_surveys 299 = .ok (.bipush 12, 2) := by decide +kernel
theorem dL_surveys_301 : decode cL_surveys 301 = .ok (.ishr, 1) := by decide +kernel
theorem dL_surveys_302 : decode cL_surveys 302 = .ok (.iconst 5, 1) := by decide +kernel
theorem dL_surveys_303 : decode cL_surveys 303 = .ok (.invokestatic 25, 3) := by decide +kernel
theorem dL_surveys_306 : decode cL_surveys 306 = .ok (.iadd, 1) := by decide +kernel
theorem dL_surveys_307 : decode cL_surveys 307 = .ok (.bipush 61, 2) := by decide +kernel
theorem dL_surveys_309 : decode cL_surveys 309 = .ok (.irem, 1) := by decide +kernel
theorem dL_surveys_310 : decode cL_surveys 310 = .ok (.goto 13, 3) := by decide +kernel
theorem dL_surveys_313 : decode cL_surveys 313 = .ok (.iload 8, 2) := by decide +kernel
theorem dL_surveys_315 : decode cL_surveys 315 = .ok (.bipush 12, 2) := by decide +kernel
theorem dL_surveys_317 : decode cL_surveys 317 = .ok (.ishr, 1) := by decide +kernel
theorem dL_surveys_318 : decode cL_surveys 318 = .ok (.iload 5, 2) := by decide +kernel
theorem dL_surveys_320 : decode cL_surveys 320 = .ok (.invokestatic 25, 3) := by decide +kernel
theorem dL_surveys_323 : decode cL_surveys 323 = .ok (.iastore, 1) := by decide +kernel
theorem dL_surveys_324 : decode cL_surveys 324 = .ok (.aload_n 0, 1) := by decide +kernel
theorem dL_surveys_325 : decode cL_surveys 325 = .ok (.iload 6, 2) := by decide +kernel
theorem dL_surveys_327 : decode cL_surveys 327 = .ok (.ifCond .ne 8, 3) := by decide +kernel
theorem dL_surveys_330 : decode cL_surveys 330 = .ok (.bipush 97, 2) := by decide +kernel
theorem dL_surveys_332 : decode cL_surveys 332 = .ok (.goto 5, 3) := by decide +kernel
theorem dL_surveys_335 : decode cL_surveys 335 = .ok (.bipush 98, 2) := by decide +kernel
theorem dL_surveys_337 : decode cL_surveys 337 = .ok (.aload_n 2, 1) := by decide +kernel
theorem dL_surveys_338 : decode cL_surveys 338 = .ok (.iload 9, 2) := by decide +kernel
theorem dL_surveys_340 : decode cL_surveys 340 = .ok (.iaload, 1) := by decide +kernel
theorem dL_surveys_341 : decode cL_surveys 341 = .ok (.aload_n 2, 1) := by decide +kernel
theorem dL_surveys_342 : decode cL_surveys 342 = .ok (.bipush 16, 2) := by decide +kernel
theorem dL_surveys_344 : decode cL_surveys 344 = .ok (.iload 9, 2) := by decide +kernel
theorem dL_surveys_346 : decode cL_surveys 346 = .ok (.iadd, 1) := by decide +kernel
theorem dL_surveys_347 : decode cL_surveys 347 = .ok (.iaload, 1) := by decide +kernel
theorem dL_surveys_348 : decode cL_surveys 348 = .ok (.aload_n 2, 1) := by decide +kernel
theorem dL_surveys_349 : decode cL_surveys 349 = .ok (.bipush 32, 2) := by decide +kernel
theorem dL_surveys_351 : decode cL_surveys 351 = .ok (.iload 9, 2) := by decide +kernel
theorem dL_surveys_353 : decode cL_surveys 353 = .ok (.iadd, 1) := by decide +kernel
theorem dL_surveys_354 : decode cL_surveys 354 = .ok (.iaload, 1) := by decide +kernel
theorem dL_surveys_355 : decode cL_surveys 355 = .ok (.invokestatic 33, 3) := by decide +kernel
theorem dL_surveys_358 : decode cL_surveys 358 = .ok (.iinc 7 1, 3) := by decide +kernel
theorem dL_surveys_361 : decode cL_surveys 361 = .ok (.goto (-223), 3) := by decide +kernel
theorem dL_surveys_364 : decode cL_surveys 364 = .ok (.iconst 0, 1) := by decide +kernel
theorem dL_surveys_365 : decode cL_surveys 365 = .ok (.istore 7, 2) := by decide +kernel
theorem dL_surveys_367 : decode cL_surveys 367 = .ok (.iload 7, 2) := by decide +kernel
theorem dL_surveys_369 : decode cL_surveys 369 = .ok (.bipush 6, 2) := by decide +kernel
theorem dL_surveys_371 : decode cL_surveys 371 = .ok (.if_icmp .ge 176, 3) := by decide +kernel
theorem dL_surveys_374 : decode cL_surveys 374 = .ok (.aload_n 1, 1) := by decide +kernel
theorem dL_surveys_375 : decode cL_surveys 375 = .ok (.bipush 13, 2) := by decide +kernel
theorem dL_surveys_377 : decode cL_surveys 377 = .ok (.bipush 6, 2) := by decide +kernel
theorem dL_surveys_379 : decode cL_surveys 379 = .ok (.iload 6, 2) := by decide +kernel
theorem dL_surveys_381 : decode cL_surveys 381 = .ok (.imul, 1) := by decide +kernel
theorem dL_surveys_382 : decode cL_surveys 382 = .ok (.iadd, 1) := by decide +kernel
theorem dL_surveys_383 : decode cL_surveys 383 = .ok (.iload 7, 2) := by decide +kernel
theorem dL_surveys_385 : decode cL_surveys 385 = .ok (.iadd, 1) := by decide +kernel
theorem dL_surveys_386 : decode cL_surveys 386 = .ok (.invokestatic 21, 3) := by decide +kernel
theorem dL_surveys_389 : decode cL_surveys 389 = .ok (.istore 8, 2) := by decide +kernel
theorem dL_surveys_391 : decode cL_surveys 391 = .ok (.iload 8, 2) := by decide +kernel
theorem dL_surveys_393 : decode cL_surveys 393 = .ok (.aload_n 3, 1) := by decide +kernel
theorem dL_surveys_394 : decode cL_surveys 394 = .ok (.bipush 48, 2) := by decide +kernel
theorem dL_surveys_396 : decode cL_surveys 396 = .ok (.iload 6, 2) := by decide +kernel
theorem dL_surveys_398 : decode cL_surveys 398 = .ok (.iadd, 1) := by decide +kernel
theorem dL_surveys_399 : decode cL_surveys 399 = .ok (.iaload, 1) := by decide +kernel
theorem dL_surveys_400 : decode cL_surveys 400 = .ok (.invokestatic 25, 3) := by decide +kernel
theorem dL_surveys_403 : decode cL_surveys 403 = .ok (.istore 9, 2) := by decide +kernel
theorem dL_surveys_405 : decode cL_surveys 405 = .ok (.iload 8, 2) := by decide +kernel
theorem dL_surveys_407 : decode cL_surveys 407 = .ok (.iconst 4, 1) := by decide +kernel
theorem dL_surveys_408 : decode cL_surveys 408 = .ok (.ishr, 1) := by decide +kernel
theorem dL_surveys_409 : decode cL_surveys 409 = .ok (.aload_n 3, 1) := by decide +kernel
theorem dL_surveys_410 : decode cL_surveys 410 = .ok (.bipush 48, 2) := by decide +kernel
theorem dL_surveys_412 : decode cL_surveys 412 = .ok (.iload 6, 2) := by decide +kernel
theorem dL_surveys_414 : decode cL_surveys 414 = .ok (.iadd, 1) := by decide +kernel
theorem dL_surveys_415 : decode cL_surveys 415 = .ok (.iaload, 1) := by decide +kernel
theorem dL_surveys_416 : decode cL_surveys 416 = .ok (.invokestatic 25, 3) := by decide +kernel
theorem dL_surveys_419 : decode cL_surveys 419 = .ok (.istore 10, 2) := by decide +kernel
theorem dL_surveys_421 : decode cL_surveys 421 = .ok (.iload 9, 2) := by decide +kernel
theorem dL_surveys_423 : decode cL_surveys 423 = .ok (.iload 10, 2) := by decide +kernel
theorem dL_surveys_425 : decode cL_surveys 425 = .ok (.if_icmp .eq 116, 3) := by decide +kernel
theorem dL_surveys_428 : decode cL_surveys 428 = .ok (.aload_n 3, 1) := by decide +kernel
theorem dL_surveys_429 : decode cL_surveys 429 = .ok (.iload 6, 2) := by decide +kernel
theorem dL_surveys_431 : decode cL_surveys 431 = .ok (.iload 9, 2) := by decide +kernel
theorem dL_surveys_433 : decode cL_surveys 433 = .ok (.iload 10, 2) := by decide +kernel
theorem dL_surveys_435 : decode cL_surveys 435 = .ok (.invokestatic 37, 3) := by decide +kernel
theorem dL_surveys_438 : decode cL_surveys 438 = .ok (.ifCond .ge 103, 3) := by decide +kernel
theorem dL_surveys_441 : decode cL_surveys 441 = .ok (.bipush 8, 2) := by decide +kernel
theorem dL_surveys_443 : decode cL_surveys 443 = .ok (.iload 6, 2) := by decide +kernel
theorem dL_surveys_445 : decode cL_surveys 445 = .ok (.imul, 1) := by decide +kernel
theorem dL_surveys_446 : decode cL_surveys 446 = .ok (.aload_n 3, 1) := by decide +kernel
theorem dL_surveys_447 : decode cL_surveys 447 = .ok (.bipush 50, 2) := by decide +kernel
theorem dL_surveys_449 : decode cL_surveys 449 = .ok (.iload 6, 2) := by decide +kernel
theorem dL_surveys_451 : decode cL_surveys 451 = .ok (.iadd, 1) := by decide +kernel
theorem dL_surveys_452 : decode cL_surveys 452 = .ok (.iaload, 1) := by decide +kernel
theorem dL_surveys_453 : decode cL_surveys 453 = .ok (.iadd, 1) := by decide +kernel
theorem dL_surveys_454 : decode cL_surveys 454 = .ok (.istore 11, 2) := by decide +kernel
theorem dL_surveys_456 : decode cL_surveys 456 = .ok (.aload_n 3, 1) := by decide +kernel
theorem dL_surveys_457 : decode cL_surveys 457 = .ok (.iload 11, 2) := by decide +kernel
theorem dL_surveys_459 : decode cL_surveys 459 = .ok (.iload 9, 2) := by decide +kernel
theorem dL_surveys_461 : decode cL_surveys 461 = .ok (.iastore, 1) := by decide +kernel
theorem dL_surveys_462 : decode cL_surveys 462 = .ok (.aload_n 3, 1) := by decide +kernel
theorem dL_surveys_463 : decode cL_surveys 463 = .ok (.bipush 16, 2) := by decide +kernel
theorem dL_surveys_465 : decode cL_surveys 465 = .ok (.iload 11, 2) := by decide +kernel
theorem dL_surveys_467 : decode cL_surveys 467 = .ok (.iadd, 1) := by decide +kernel
theorem dL_surveys_468 : decode cL_surveys 468 = .ok (.iload 10, 2) := by decide +kernel
theorem dL_surveys_470 : decode cL_surveys 470 = .ok (.iastore, 1) := by decide +kernel
theorem dL_surveys_471 : decode cL_surveys 471 = .ok (.aload_n 3, 1) := by decide +kernel
theorem dL_surveys_472 : decode cL_surveys 472 = .ok (.bipush 32, 2) := by decide +kernel
theorem dL_surveys_474 : decode cL_surveys 474 = .ok (.iload 11, 2) := by decide +kernel
theorem dL_surveys_476 : decode cL_surveys 476 = .ok (.iadd, 1) := by decide +kernel
theorem dL_surveys_477 : decode cL_surveys 477 = .ok (.iload 8, 2) := by decide +kernel
theorem dL_surveys_479 : decode cL_surveys 479 = .ok (.bipush 8, 2) := by decide +kernel
theorem dL_surveys_481 : decode cL_surveys 481 = .ok (.ishr, 1) := by decide +kernel
theorem dL_surveys_482 : decode cL_surveys 482 = .ok (.iconst 2, 1) := by decide +kernel
theorem dL_surveys_483 : decode cL_surveys 483 = .ok (.invokestatic 25, 3) := by decide +kernel
theorem dL_surveys_486 : decode cL_surveys 486 = .ok (.ifCond .ne 7, 3) := by decide +kernel
theorem dL_surveys_489 : decode cL_surveys 489 = .ok (.iconst 0, 1) := by decide +kernel
theorem dL_surveys_490 : decode cL_surveys 490 = .ok (.goto 12, 3) := by decide +kernel
theorem dL_surveys_493 : decode cL_surveys 493 = .ok (.iload 8, 2) := by decide +kernel
theorem dL_surveys_495 : decode cL_surveys 495 = .ok (.bipush 9, 2) := by decide +kernel
theorem dL_surveys_497 : decode cL_surveys 497 = .ok (.ishr, 1) := by decide +kernel
theorem dL_surveys_498 : decode cL_surveys 498 = .ok (.iconst 4, 1) := by decide +kernel
theorem dL_surveys_499 : decode cL_surveys 499 = .ok (.invokestatic 25, 3) := by decide +kernel
theorem dL_surveys_502 : decode cL_surveys 502 = .ok (.iastore, 1) := by decide +kernel
theorem dL_surveys_503 : decode cL_surveys 503 = .ok (.aload_n 3, 1) := by decide +kernel
theorem dL_surveys_504 : decode cL_surveys 504 = .ok (.bipush 50, 2) := by decide +kernel
theorem dL_surveys_506 : decode cL_surveys 506 = .ok (.iload 6, 2) := by decide +kernel
theorem dL_surveys_508 : decode cL_surveys 508 = .ok (.iadd, 1) := by decide +kernel
theorem dL_surveys_509 : decode cL_surveys 509 = .ok (.dup2, 1) := by decide +kernel
theorem dL_surveys_510 : decode cL_surveys 510 = .ok (.iaload, 1) := by decide +kernel
theorem dL_surveys_511 : decode cL_surveys 511 = .ok (.iconst 1, 1) := by decide +kernel
theorem dL_surveys_512 : decode cL_surveys 512 = .ok (.iadd, 1) := by decide +kernel
theorem dL_surveys_513 : decode cL_surveys 513 = .ok (.iastore, 1) := by decide +kernel
theorem dL_surveys_514 : decode cL_surveys 514 = .ok (.aload_n 0, 1) := by decide +kernel
theorem dL_surveys_515 : decode cL_surveys 515 = .ok (.iload 6, 2) := by decide +kernel
theorem dL_surveys_517 : decode cL_surveys 517 = .ok (.ifCond .ne 8, 3) := by decide +kernel
theorem dL_surveys_520 : decode cL_surveys 520 = .ok (.bipush 115, 2) := by decide +kernel
theorem dL_surveys_522 : decode cL_surveys 522 = .ok (.goto 5, 3) := by decide +kernel
theorem dL_surveys_525 : decode cL_surveys 525 = .ok (.bipush 116, 2) := by decide +kernel
theorem dL_surveys_527 : decode cL_surveys 527 = .ok (.iload 9, 2) := by decide +kernel
theorem dL_surveys_529 : decode cL_surveys 529 = .ok (.iload 10, 2) := by decide +kernel
theorem dL_surveys_531 : decode cL_surveys 531 = .ok (.aload_n 3, 1) := by decide +kernel
theorem dL_surveys_532 : decode cL_surveys 532 = .ok (.bipush 32, 2) := by decide +kernel
theorem dL_surveys_534 : decode cL_surveys 534 = .ok (.iload 11, 2) := by decide +kernel
theorem dL_surveys_536 : decode cL_surveys 536 = .ok (.iadd, 1) := by decide +kernel
theorem dL_surveys_537 : decode cL_surveys 537 = .ok (.iaload, 1) := by decide +kernel
theorem dL_surveys_538 : decode cL_surveys 538 = .ok (.invokestatic 33, 3) := by decide +kernel
theorem dL_surveys_541 : decode cL_surveys 541 = .ok (.iinc 7 1, 3) := by decide +kernel
theorem dL_surveys_544 : decode cL_surveys 544 = .ok (.goto (-177), 3) := by decide +kernel
theorem dL_surveys_547 : decode cL_surveys 547 = .ok (.iinc 6 1, 3) := by decide +kernel
theorem dL_surveys_550 : decode cL_surveys 550 = .ok (.goto (-445), 3) := by decide +kernel
theorem dL_surveys_553 : decode cL_surveys 553 = .ok (.aload_n 0, 1) := by decide +kernel
theorem dL_surveys_554 : decode cL_surveys 554 = .ok (.invokevirtual 41, 3) := by decide +kernel
theorem dL_surveys_557 : decode cL_surveys 557 = .ok (.bipush (-4), 2) := by decide +kernel
theorem dL_surveys_559 : decode cL_surveys 559 = .ok (.if_icmp .ne 30, 3) := by decide +kernel
theorem dL_surveys_562 : decode cL_surveys 562 = .ok (.aload_n 0, 1) := by decide +kernel
theorem dL_surveys_563 : decode cL_surveys 563 = .ok (.invokevirtual 44, 3) := by decide +kernel
theorem dL_surveys_566 : decode cL_surveys 566 = .ok (.aload_n 3, 1) := by decide +kernel
theorem dL_surveys_567 : decode cL_surveys 567 = .ok (.bipush 48, 2) := by decide +kernel
theorem dL_surveys_569 : decode cL_surveys 569 = .ok (.iaload, 1) := by decide +kernel
theorem dL_surveys_570 : decode cL_surveys 570 = .ok (.aload_n 3, 1) := by decide +kernel
theorem dL_surveys_571 : decode cL_surveys 571 = .ok (.bipush 49, 2) := by decide +kernel
theorem dL_surveys_573 : decode cL_surveys 573 = .ok (.iaload, 1) := by decide +kernel
theorem dL_surveys_574 : decode cL_surveys 574 = .ok (.iadd, 1) := by decide +kernel
theorem dL_surveys_575 : decode cL_surveys 575 = .ok (.if_icmp .ne 14, 3) := by decide +kernel
theorem dL_surveys_578 : decode cL_surveys 578 = .ok (.aload_n 0, 1) := by decide +kernel
theorem dL_surveys_579 : decode cL_surveys 579 = .ok (.invokevirtual 29, 3) := by decide +kernel
theorem dL_surveys_582 : decode cL_surveys 582 = .ok (.ifCond .le 7, 3) := by decide +kernel
theorem dL_surveys_585 : decode cL_surveys 585 = .ok (.iconst 1, 1) := by decide +kernel
theorem dL_surveys_586 : decode cL_surveys 586 = .ok (.goto 4, 3) := by decide +kernel
theorem dL_surveys_589 : decode cL_surveys 589 = .ok (.iconst 0, 1) := by decide +kernel
theorem dL_surveys_590 : decode cL_surveys 590 = .ok (.ireturn, 1) := by decide +kernel
theorem dL_alike_0 : decode cL_alike 0 = .ok (.aload_n 0, 1) := by decide +kernel
theorem dL_alike_1 : decode cL_alike 1 = .ok (.iconst 4, 1) := by decide +kernel
theorem dL_alike_2 : decode cL_alike 2 = .ok (.invokevirtual 47, 3) := by decide +kernel
theorem dL_alike_5 : decode cL_alike 5 = .ok (.aload_n 2, 1) := by decide +kernel
theorem dL_alike_6 : decode cL_alike 6 = .ok (.bipush 52, 2) := by decide +kernel
theorem dL_alike_8 : decode cL_alike 8 = .ok (.iaload, 1) := by decide +kernel
theorem dL_alike_9 : decode cL_alike 9 = .ok (.if_icmp .ne 19, 3) := by decide +kernel
theorem dL_alike_12 : decode cL_alike 12 = .ok (.aload_n 0, 1) := by decide +kernel
theorem dL_alike_13 : decode cL_alike 13 = .ok (.iconst 5, 1) := by decide +kernel
theorem dL_alike_14 : decode cL_alike 14 = .ok (.invokevirtual 47, 3) := by decide +kernel
theorem dL_alike_17 : decode cL_alike 17 = .ok (.aload_n 2, 1) := by decide +kernel
theorem dL_alike_18 : decode cL_alike 18 = .ok (.bipush 53, 2) := by decide +kernel
theorem dL_alike_20 : decode cL_alike 20 = .ok (.iaload, 1) := by decide +kernel
theorem dL_alike_21 : decode cL_alike 21 = .ok (.if_icmp .ne 7, 3) := by decide +kernel
theorem dL_alike_24 : decode cL_alike 24 = .ok (.iconst 1, 1) := by decide +kernel
theorem dL_alike_25 : decode cL_alike 25 = .ok (.goto 4, 3) := by decide +kernel
theorem dL_alike_28 : decode cL_alike 28 = .ok (.iconst 0, 1) := by decide +kernel
theorem dL_alike_29 : decode cL_alike 29 = .ok (.istore_n 3, 1) := by decide +kernel
theorem dL_alike_30 : decode cL_alike 30 = .ok (.iconst 0, 1) := by decide +kernel
theorem dL_alike_31 : decode cL_alike 31 = .ok (.istore 4, 2) := by decide +kernel
theorem dL_alike_33 : decode cL_alike 33 = .ok (.iload 4, 2) := by decide +kernel
theorem dL_alike_35 : decode cL_alike 35 = .ok (.iconst 2, 1) := by decide +kernel
theorem dL_alike_36 : decode cL_alike 36 = .ok (.if_icmp .ge 203, 3) := by decide +kernel
theorem dL_alike_39 : decode cL_alike 39 = .ok (.iload_n 3, 1) := by decide +kernel
theorem dL_alike_40 : decode cL_alike 40 = .ok (.ifCond .eq 41, 3) := by decide +kernel
theorem dL_alike_43 : decode cL_alike 43 = .ok (.aload_n 0, 1) := by decide +kernel
theorem dL_alike_44 : decode cL_alike 44 = .ok (.iload 4, 2) := by decide +kernel
theorem dL_alike_46 : decode cL_alike 46 = .ok (.invokevirtual 47, 3) := by decide +kernel
theorem dL_alike_49 : decode cL_alike 49 = .ok (.aload_n 2, 1) := by decide +kernel
theorem dL_alike_50 : decode cL_alike 50 = .ok (.bipush 48, 2) := by decide +kernel
theorem dL_alike_52 : decode cL_alike 52 = .ok (.iload 4, 2) := by decide +kernel
theorem dL_alike_54 : decode cL_alike 54 = .ok (.iadd, 1) := by decide +kernel
theorem dL_alike_55 : decode cL_alike 55 = .ok (.iaload, 1) := by decide +kernel
theorem dL_alike_56 : decode cL_alike 56 = .ok (.if_icmp .ne 25, 3) := by decide +kernel
theorem dL_alike_59 : decode cL_alike 59 = .ok (.aload_n 0, 1) := by decide +kernel
theorem dL_alike_60 : decode cL_alike 60 = .ok (.iconst 2, 1) := by decide +kernel
theorem dL_alike_61 : decode cL_alike 61 = .ok (.iload 4, 2) := by decide +kernel
theorem dL_alike_63 : decode cL_alike 63 = .ok (.iadd, 1) := by decide +kernel
theorem dL_alike_64 : decode cL_alike 64 = .ok (.invokevirtual 47, 3) := by decide +kernel
theorem dL_alike_67 : decode cL_alike 67 = .ok (.aload_n 2, 1) := by decide +kernel
theorem dL_alike_68 : decode cL_alike 68 = .ok (.bipush 50, 2) := by decide +kernel
theorem dL_alike_70 : decode cL_alike 70 = .ok (.iload 4, 2) := by decide +kernel
theorem dL_alike_72 : decode cL_alike 72 = .ok (.iadd, 1) := by decide +kernel
theorem dL_alike_73 : decode cL_alike 73 = .ok (.iaload, 1) := by decide +kernel
theorem dL_alike_74 : decode cL_alike 74 = .ok (.if_icmp .ne 7, 3) := by decide +kernel
theorem dL_alike_77 : decode cL_alike 77 = .ok (.iconst 1, 1) := by decide +kernel
theorem dL_alike_78 : decode cL_alike 78 = .ok (.goto 4, 3) := by decide +kernel
theorem dL_alike_81 : decode cL_alike 81 = .ok (.iconst 0, 1) := by decide +kernel
theorem dL_alike_82 : decode cL_alike 82 = .ok (.istore_n 3, 1) := by decide +kernel
theorem dL_alike_83 : decode cL_alike 83 = .ok (.iconst 0, 1) := by decide +kernel
theorem dL_alike_84 : decode cL_alike 84 = .ok (.istore 5, 2) := by decide +kernel
theorem dL_alike_86 : decode cL_alike 86 = .ok (.iload 5, 2) := by decide +kernel
theorem dL_alike_88 : decode cL_alike 88 = .ok (.aload_n 2, 1) := by decide +kernel
theorem dL_alike_89 : decode cL_alike 89 = .ok (.bipush 48, 2) := by decide +kernel
theorem dL_alike_91 : decode cL_alike 91 = .ok (.iload 4, 2) := by decide +kernel
theorem dL_alike_93 : decode cL_alike 93 = .ok (.iadd, 1) := by decide +kernel
theorem dL_alike_94 : decode cL_alike 94 = .ok (.iaload, 1) := by decide +kernel
theorem dL_alike_95 : decode cL_alike 95 = .ok (.if_icmp .ge 63, 3) := by decide +kernel
theorem dL_alike_98 : decode cL_alike 98 = .ok (.iconst 0, 1) := by decide +kernel
theorem dL_alike_99 : decode cL_alike 99 = .ok (.istore 6, 2) := by decide +kernel
theorem dL_alike_101 : decode cL_alike 101 = .ok (.iload 6, 2) := by decide +kernel
theorem dL_alike_103 : decode cL_alike 103 = .ok (.iconst 3, 1) := by decide +kernel
theorem dL_alike_104 : decode cL_alike 104 = .ok (.if_icmp .ge 48, 3) := by decide +kernel
theorem dL_alike_107 : decode cL_alike 107 = .ok (.iload_n 3, 1) := by decide +kernel
theorem dL_alike_108 : decode cL_alike 108 = .ok (.ifCond .eq 36, 3) := by decide +kernel
theorem dL_alike_111 : decode cL_alike 111 = .ok (.aload_n 0, 1) := by decide +kernel
theorem dL_alike_112 : decode cL_alike 112 = .ok (.iload 4, 2) := by decide +kernel
theorem dL_alike_114 : decode cL_alike 114 = .ok (.iload 5, 2) := by decide +kernel
theorem dL_alike_116 : decode cL_alike 116 = .ok (.iload 6, 2) := by decide +kernel
theorem dL_alike_118 : decode cL_alike 118 = .ok (.invokevirtual 50, 3) := by decide +kernel
theorem dL_alike_121 : decode cL_alike 121 = .ok (.aload_n 1, 1) := by decide +kernel
theorem dL_alike_122 : decode cL_alike 122 = .ok (.bipush 16, 2) := by decide +kernel
theorem dL_alike_124 : decode cL_alike 124 = .ok (.iload 6, 2) := by decide +kernel
theorem dL_alike_126 : decode cL_alike 126 = .ok (.imul, 1) := by decide +kernel
theorem dL_alike_127 : decode cL_alike 127 = .ok (.bipush 8, 2) := by decide +kernel
theorem dL_alike_129 : decode cL_alike 129 = .ok (.iload 4, 2) := by decide +kernel
theorem dL_alike_131 : decode cL_alike 131 = .ok (.imul, 1) := by decide +kernel
theorem dL_alike_132 : decode cL_alike 132 = .ok (.iadd, 1) := by decide +kernel
theorem dL_alike_133 : decode cL_alike 133 = .ok (.iload 5, 2) := by decide +kernel
theorem dL_alike_135 : decode cL_alike 135 = .ok (.iadd, 1) := by decide +kernel
theorem dL_alike_136 : decode cL_alike 136 = .ok (.iaload, 1) := by decide +kernel
theorem dL_alike_137 : decode cL_alike 137 = .ok (.if_icmp .ne 7, 3) := by decide +kernel
theorem dL_alike_140 : decode cL_alike 140 = .ok (.iconst 1, 1) := by decide +kernel
theorem dL_alike_141 : decode cL_alike 141 = .ok (.goto 4, 3) := by decide +kernel
theorem dL_alike_144 : decode cL_alike 144 = .ok (.iconst 0, 1) := by decide +kernel
theorem dL_alike_145 : decode cL_alike 145 = .ok (.istore_n 3, 1) := by decide +kernel
theorem dL_alike_146 : decode cL_alike 146 = .ok (.iinc 6 1, 3) := by decide +kernel
theorem dL_alike_149 : decode cL_alike 149 = .ok (.goto (-48), 3) := by decide +kernel
theorem dL_alike_152 : decode cL_alike 152 = .ok (.iinc 5 1, 3) := by decide +kernel
theorem dL_alike_155 : decode cL_alike 155 = .ok (.goto (-69), 3) := by decide +kernel
theorem dL_alike_158 : decode cL_alike 158 = .ok (.iconst 0, 1) := by decide +kernel
theorem dL_alike_159 : decode cL_alike 159 = .ok (.istore 5, 2) := by decide +kernel
theorem dL_alike_161 : decode cL_alike 161 = .ok (.iload 5, 2) := by decide +kernel
theorem dL_alike_163 : decode cL_alike 163 = .ok (.aload_n 2, 1) := by decide +kernel
theorem dL_alike_164 : decode cL_alike 164 = .ok (.bipush 50, 2) := by decide +kernel
theorem dL_alike_166 : decode cL_alike 166 = .ok (.iload 4, 2) := by decide +kernel
theorem dL_alike_168 : decode cL_alike 168 = .ok (.iadd, 1) := by decide +kernel
theorem dL_alike_169 : decode cL_alike 169 = .ok (.iaload, 1) := by decide +kernel
theorem dL_alike_170 : decode cL_alike 170 = .ok (.if_icmp .ge 63, 3) := by decide +kernel
theorem dL_alike_173 : decode cL_alike 173 = .ok (.iconst 0, 1) := by decide +kernel
theorem dL_alike_174 : decode cL_alike 174 = .ok (.istore 6, 2) := by decide +kernel
theorem dL_alike_176 : decode cL_alike 176 = .ok (.iload 6, 2) := by decide +kernel
theorem dL_alike_178 : decode cL_alike 178 = .ok (.iconst 3, 1) := by decide +kernel
theorem dL_alike_179 : decode cL_alike 179 = .ok (.if_icmp .ge 48, 3) := by decide +kernel
theorem dL_alike_182 : decode cL_alike 182 = .ok (.iload_n 3, 1) := by decide +kernel
theorem dL_alike_183 : decode cL_alike 183 = .ok (.ifCond .eq 36, 3) := by decide +kernel
theorem dL_alike_186 : decode cL_alike 186 = .ok (.aload_n 0, 1) := by decide +kernel
theorem dL_alike_187 : decode cL_alike 187 = .ok (.iload 4, 2) := by decide +kernel
theorem dL_alike_189 : decode cL_alike 189 = .ok (.iload 5, 2) := by decide +kernel
theorem dL_alike_191 : decode cL_alike 191 = .ok (.iload 6, 2) := by decide +kernel
theorem dL_alike_193 : decode cL_alike 193 = .ok (.invokevirtual 54, 3) := by decide +kernel
theorem dL_alike_196 : decode cL_alike 196 = .ok (.aload_n 2, 1) := by decide +kernel
theorem dL_alike_197 : decode cL_alike 197 = .ok (.bipush 16, 2) := by decide +kernel
theorem dL_alike_199 : decode cL_alike 199 = .ok (.iload 6, 2) := by decide +kernel
theorem dL_alike_201 : decode cL_alike 201 = .ok (.imul, 1) := by decide +kernel
theorem dL_alike_202 : decode cL_alike 202 = .ok (.bipush 8, 2) := by decide +kernel
theorem dL_alike_204 : decode cL_alike 204 = .ok (.iload 4, 2) := by decide +kernel
theorem dL_alike_206 : decode cL_alike 206 = .ok (.imul, 1) := by decide +kernel
theorem dL_alike_207 : decode cL_alike 207 = .ok (.iadd, 1) := by decide +kernel
theorem dL_alike_208 : decode cL_alike 208 = .ok (.iload 5, 2) := by decide +kernel
theorem dL_alike_210 : decode cL_alike 210 = .ok (.iadd, 1) := by decide +kernel
theorem dL_alike_211 : decode cL_alike 211 = .ok (.iaload, 1) := by decide +kernel
theorem dL_alike_212 : decode cL_alike 212 = .ok (.if_icmp .ne 7, 3) := by decide +kernel
theorem dL_alike_215 : decode cL_alike 215 = .ok (.iconst 1, 1) := by decide +kernel
theorem dL_alike_216 : decode cL_alike 216 = .ok (.goto 4, 3) := by decide +kernel
theorem dL_alike_219 : decode cL_alike 219 = .ok (.iconst 0, 1) := by decide +kernel
theorem dL_alike_220 : decode cL_alike 220 = .ok (.istore_n 3, 1) := by decide +kernel
theorem dL_alike_221 : decode cL_alike 221 = .ok (.iinc 6 1, 3) := by decide +kernel
theorem dL_alike_224 : decode cL_alike 224 = .ok (.goto (-48), 3) := by decide +kernel
theorem dL_alike_227 : decode cL_alike 227 = .ok (.iinc 5 1, 3) := by decide +kernel
theorem dL_alike_230 : decode cL_alike 230 = .ok (.goto (-69), 3) := by decide +kernel
theorem dL_alike_233 : decode cL_alike 233 = .ok (.iinc 4 1, 3) := by decide +kernel
theorem dL_alike_236 : decode cL_alike 236 = .ok (.goto (-203), 3) := by decide +kernel
theorem dL_alike_239 : decode cL_alike 239 = .ok (.iload_n 3, 1) := by decide +kernel
theorem dL_alike_240 : decode cL_alike 240 = .ok (.ireturn, 1) := by decide +kernel
theorem dL_acts_0 : decode cL_acts 0 = .ok (.iload_n 2, 1) := by decide +kernel
theorem dL_acts_1 : decode cL_acts 1 = .ok (.bipush 8, 2) := by decide +kernel
theorem dL_acts_3 : decode cL_acts 3 = .ok (.invokestatic 25, 3) := by decide +kernel
theorem dL_acts_6 : decode cL_acts 6 = .ok (.istore_n 3, 1) := by decide +kernel
theorem dL_acts_7 : decode cL_acts 7 = .ok (.iload_n 2, 1) := by decide +kernel
theorem dL_acts_8 : decode cL_acts 8 = .ok (.iconst 3, 1) := by decide +kernel
theorem dL_acts_9 : decode cL_acts 9 = .ok (.ishr, 1) := by decide +kernel
theorem dL_acts_10 : decode cL_acts 10 = .ok (.iconst 2, 1) := by decide +kernel
theorem dL_acts_11 : decode cL_acts 11 = .ok (.invokestatic 25, 3) := by decide +kernel
theorem dL_acts_14 : decode cL_acts 14 = .ok (.istore 4, 2) := by decide +kernel
theorem dL_acts_16 : decode cL_acts 16 = .ok (.iload_n 2, 1) := by decide +kernel
theorem dL_acts_17 : decode cL_acts 17 = .ok (.iconst 4, 1) := by decide +kernel
theorem dL_acts_18 : decode cL_acts 18 = .ok (.ishr, 1) := by decide +kernel
theorem dL_acts_19 : decode cL_acts 19 = .ok (.bipush 9, 2) := by decide +kernel
theorem dL_acts_21 : decode cL_acts 21 = .ok (.invokestatic 25, 3) := by decide +kernel
theorem dL_acts_24 : decode cL_acts 24 = .ok (.istore 5, 2) := by decide +kernel
theorem dL_acts_26 : decode cL_acts 26 = .ok (.iload_n 2, 1) := by decide +kernel
theorem dL_acts_27 : decode cL_acts 27 = .ok (.bipush 8, 2) := by decide +kernel
theorem dL_acts_29 : decode cL_acts 29 = .ok (.ishr, 1) := by decide +kernel
theorem dL_acts_30 : decode cL_acts 30 = .ok (.bipush 9, 2) := by decide +kernel
theorem dL_acts_32 : decode cL_acts 32 = .ok (.invokestatic 25, 3) := by decide +kernel
theorem dL_acts_35 : decode cL_acts 35 = .ok (.istore 6, 2) := by decide +kernel
theorem dL_acts_37 : decode cL_acts 37 = .ok (.iload_n 2, 1) := by decide +kernel
theorem dL_acts_38 : decode cL_acts 38 = .ok (.bipush 12, 2) := by decide +kernel
theorem dL_acts_40 : decode cL_acts 40 = .ok (.ishr, 1) := by decide +kernel
theorem dL_acts_41 : decode cL_acts 41 = .ok (.bipush 11, 2) := by decide +kernel
theorem dL_acts_43 : decode cL_acts 43 = .ok (.invokestatic 25, 3) := by decide +kernel
theorem dL_acts_46 : decode cL_acts 46 = .ok (.istore 7, 2) := by decide +kernel
theorem dL_acts_48 : decode cL_acts 48 = .ok (.aload_n 1, 1) := by decide +kernel
theorem dL_acts_49 : decode cL_acts 49 = .ok (.bipush 48, 2) := by decide +kernel
theorem dL_acts_51 : decode cL_acts 51 = .ok (.iload 4, 2) := by decide +kernel
theorem dL_acts_53 : decode cL_acts 53 = .ok (.iadd, 1) := by decide +kernel
theorem dL_acts_54 : decode cL_acts 54 = .ok (.iaload, 1) := by decide +kernel
theorem dL_acts_55 : decode cL_acts 55 = .ok (.istore 8, 2) := by decide +kernel
theorem dL_acts_57 : decode cL_acts 57 = .ok (.bipush 8, 2) := by decide +kernel
theorem dL_acts_59 : decode cL_acts 59 = .ok (.iload 4, 2) := by decide +kernel
theorem dL_acts_61 : decode cL_acts 61 = .ok (.imul, 1) := by decide +kernel
theorem dL_acts_62 : decode cL_acts 62 = .ok (.iload 5, 2) := by decide +kernel
theorem dL_acts_64 : decode cL_acts 64 = .ok (.iadd, 1) := by decide +kernel
theorem dL_acts_65 : decode cL_acts 65 = .ok (.istore 9, 2) := by decide +kernel
theorem dL_acts_67 : decode cL_acts 67 = .ok (.iload_n 3, 1) := by decide +kernel
theorem dL_acts_68 : decode cL_acts 68 = .ok (.iconst 2, 1) := by decide +kernel
theorem dL_acts_69 : decode cL_acts 69 = .ok (.if_icmp .ge 109, 3) := by decide +kernel
theorem dL_acts_72 : decode cL_acts 72 = .ok (.iload_n 2, 1) := by decide +kernel
theorem dL_acts_73 : decode cL_acts 73 = .ok (.bipush 8, 2) := by decide +kernel
theorem dL_acts_75 : decode cL_acts 75 = .ok (.ishr, 1) := by decide +kernel
theorem dL_acts_76 : decode cL_acts 76 = .ok (.bipush 64, 2) := by decide +kernel
theorem dL_acts_78 : decode cL_acts 78 = .ok (.invokestatic 25, 3) := by decide +kernel
theorem dL_acts_81 : decode cL_acts 81 = .ok (.istore 10, 2) := by decide +kernel
theorem dL_acts_83 : decode cL_acts 83 = .ok (.iload_n 2, 1) := by decide +kernel
theorem dL_acts_84 : decode cL_acts 84 = .ok (.bipush 14, 2) := by decide +kernel
theorem dL_acts_86 : decode cL_acts 86 = .ok (.ishr, 1) := by decide +kernel
theorem dL_acts_87 : decode cL_acts 87 = .ok (.bipush 64, 2) := by decide +kernel
theorem dL_acts_89 : decode cL_acts 89 = .ok (.invokestatic 25, 3) := by decide +kernel
theorem dL_acts_92 : decode cL_acts 92 = .ok (.istore 11, 2) := by decide +kernel
theorem dL_acts_94 : decode cL_acts 94 = .ok (.iload 5, 2) := by decide +kernel
theorem dL_acts_96 : decode cL_acts 96 = .ok (.iload 8, 2) := by decide +kernel
theorem dL_acts_98 : decode cL_acts 98 = .ok (.if_icmp .ge 17, 3) := by decide +kernel
theorem dL_acts_101 : decode cL_acts 101 = .ok (.iload 10, 2) := by decide +kernel
theorem dL_acts_103 : decode cL_acts 103 = .ok (.bipush 60, 2) := by decide +kernel
theorem dL_acts_105 : decode cL_acts 105 = .ok (.if_icmp .gt 10, 3) := by decide +kernel
theorem dL_acts_108 : decode cL_acts 108 = .ok (.iload 11, 2) := by decide +kernel
theorem dL_acts_110 : decode cL_acts 110 = .ok (.bipush 60, 2) := by decide +kernel
theorem dL_acts_112 : decode cL_acts 112 = .ok (.if_icmp .le 5, 3) := by decide +kernel
theorem dL_acts_115 : decode cL_acts 115 = .ok (.iconst (-1), 1) := by decide +kernel
theorem dL_acts_116 : decode cL_acts 116 = .ok (.ireturn, 1) := by decide +kernel
theorem dL_acts_117 : decode cL_acts 117 = .ok (.aload_n 0, 1) := by decide +kernel
theorem dL_acts_118 : decode cL_acts 118 = .ok (.bipush 16, 2) := by decide +kernel
theorem dL_acts_120 : decode cL_acts 120 = .ok (.iload 9, 2) := by decide +kernel
theorem dL_acts_122 : decode cL_acts 122 = .ok (.iadd, 1) := by decide +kernel
theorem dL_acts_123 : decode cL_acts 123 = .ok (.iaload, 1) := by decide +kernel
theorem dL_acts_124 : decode cL_acts 124 = .ok (.iload 10, 2) := by decide +kernel
theorem dL_acts_126 : decode cL_acts 126 = .ok (.if_icmp .ne 19, 3) := by decide +kernel
theorem dL_acts_129 : decode cL_acts 129 = .ok (.aload_n 0, 1) := by decide +kernel
theorem dL_acts_130 : decode cL_acts 130 = .ok (.bipush 32, 2) := by decide +kernel
theorem dL_acts_132 : decode cL_acts 132 = .ok (.iload 9, 2) := by decide +kernel
theorem dL_acts_134 : decode cL_acts 134 = .ok (.iadd, 1) := by decide +kernel
theorem dL_acts_135 : decode cL_acts 135 = .ok (.iaload, 1) := by decide +kernel
theorem dL_acts_136 : decode cL_acts 136 = .ok (.iload 11, 2) := by decide +kernel
theorem dL_acts_138 : decode cL_acts 138 = .ok (.if_icmp .ne 7, 3) := by decide +kernel
theorem dL_acts_141 : decode cL_acts 141 = .ok (.iconst 1, 1) := by decide +kernel
theorem dL_acts_142 : decode cL_acts 142 = .ok (.goto 4, 3) := by decide +kernel
theorem dL_acts_145 : decode cL_acts 145 = .ok (.iconst 0, 1) := by decide +kernel
theorem dL_acts_146 : decode cL_acts 146 = .ok (.istore 12, 2) := by decide +kernel
theorem dL_acts_148 : decode cL_acts 148 = .ok (.aload_n 0, 1) := by decide +kernel
theorem dL_acts_149 : decode cL_acts 149 = .ok (.bipush 16, 2) := by decide +kernel
theorem dL_acts_151 : decode cL_acts 151 = .ok (.iload 9, 2) := by decide +kernel
theorem dL_acts_153 : decode cL_acts 153 = .ok (.iadd, 1) := by decide +kernel
theorem dL_acts_154 : decode cL_acts 154 = .ok (.iload 10, 2) := by decide +kernel
theorem dL_acts_156 : decode cL_acts 156 = .ok (.iastore, 1) := by decide +kernel
theorem dL_acts_157 : decode cL_acts 157 = .ok (.aload_n 0, 1) := by decide +kernel
theorem dL_acts_158 : decode cL_acts 158 = .ok (.bipush 32, 2) := by decide +kernel
theorem dL_acts_160 : decode cL_acts 160 = .ok (.iload 9, 2) := by decide +kernel
theorem dL_acts_162 : decode cL_acts 162 = .ok (.iadd, 1) := by decide +kernel
theorem dL_acts_163 : decode cL_acts 163 = .ok (.iload 11, 2) := by decide +kernel
theorem dL_acts_165 : decode cL_acts 165 = .ok (.iastore, 1) := by decide +kernel
theorem dL_acts_166 : decode cL_acts 166 = .ok (.iload 12, 2) := by decide +kernel
theorem dL_acts_168 : decode cL_acts 168 = .ok (.ifCond .eq 8, 3) := by decide +kernel
theorem dL_acts_171 : decode cL_acts 171 = .ok (.bipush (-2), 2) := by decide +kernel
theorem dL_acts_173 : decode cL_acts 173 = .ok (.goto 4, 3) := by decide +kernel
theorem dL_acts_176 : decode cL_acts 176 = .ok (.iconst 1, 1) := by decide +kernel
theorem dL_acts_177 : decode cL_acts 177 = .ok (.ireturn, 1) := by decide +kernel
theorem dL_acts_178 : decode cL_acts 178 = .ok (.iload_n 3, 1) := by decide +kernel
theorem dL_acts_179 : decode cL_acts 179 = .ok (.iconst 4, 1) := by decide +kernel
theorem dL_acts_180 : decode cL_acts 180 = .ok (.if_icmp .eq 8, 3) := by decide +kernel
theorem dL_acts_183 : decode cL_acts 183 = .ok (.iload_n 3, 1) := by decide +kernel
theorem dL_acts_184 : decode cL_acts 184 = .ok (.iconst 5, 1) := by decide +kernel
theorem dL_acts_185 : decode cL_acts 185 = .ok (.if_icmp .ne 149, 3) := by decide +kernel
theorem dL_acts_188 : decode cL_acts 188 = .ok (.iload 5, 2) := by decide +kernel
theorem dL_acts_190 : decode cL_acts 190 = .ok (.iload 8, 2) := by decide +kernel
theorem dL_acts_192 : decode cL_acts 192 = .ok (.if_icmp .ge 24, 3) := by decide +kernel
theorem dL_acts_195 : decode cL_acts 195 = .ok (.iload 6, 2) := by decide +kernel
theorem dL_acts_197 : decode cL_acts 197 = .ok (.iload 8, 2) := by decide +kernel
theorem dL_acts_199 : decode cL_acts 199 = .ok (.if_icmp .ge 17, 3) := by decide +kernel
theorem dL_acts_202 : decode cL_acts 202 = .ok (.iload 5, 2) := by decide +kernel
theorem dL_acts_204 : decode cL_acts 204 = .ok (.iload 6, 2) := by decide +kernel
theorem dL_acts_206 : decode cL_acts 206 = .ok (.if_icmp .eq 10, 3) := by decide +kernel
theorem dL_acts_209 : decode cL_acts 209 = .ok (.iload 7, 2) := by decide +kernel
theorem dL_acts_211 : decode cL_acts 211 = .ok (.bipush 9, 2) := by decide +kernel
theorem dL_acts_213 : decode cL_acts 213 = .ok (.if_icmp .le 5, 3) := by decide +kernel
theorem dL_acts_216 : decode cL_acts 216 = .ok (.iconst (-1), 1) := by decide +kernel
theorem dL_acts_217 : decode cL_acts 217 = .ok (.ireturn, 1) := by decide +kernel
theorem dL_acts_218 : decode cL_acts 218 = .ok (.aload_n 1, 1) := by decide +kernel
theorem dL_acts_219 : decode cL_acts 219 = .ok (.iload 4, 2) := by decide +kernel
theorem dL_acts_221 : decode cL_acts 221 = .ok (.iload 5, 2) := by decide +kernel
theorem dL_acts_223 : decode cL_acts 223 = .ok (.iload 6, 2) := by decide +kernel
theorem dL_acts_225 : decode cL_acts 225 = .ok (.invokestatic 37, 3) := by decide +kernel
theorem dL_acts_228 : decode cL_acts 228 = .ok (.ifCond .ge 15, 3) := by decide +kernel
theorem dL_acts_231 : decode cL_acts 231 = .ok (.aload_n 1, 1) := by decide +kernel
theorem dL_acts_232 : decode cL_acts 232 = .ok (.bipush 50, 2) := by decide +kernel
theorem dL_acts_234 : decode cL_acts 234 = .ok (.iload 4, 2) := by decide +kernel
theorem dL_acts_236 : decode cL_acts 236 = .ok (.iadd, 1) := by decide +kernel
theorem dL_acts_237 : decode cL_acts 237 = .ok (.iaload, 1) := by decide +kernel
theorem dL_acts_238 : decode cL_acts 238 = .ok (.bipush 8, 2) := by decide +kernel
theorem dL_acts_240 : decode cL_acts 240 = .ok (.if_icmp .ne 36, 3) := by decide +kernel
theorem dL_acts_243 : decode cL_acts 243 = .ok (.aload_n 1, 1) := by decide +kernel
theorem dL_acts_244 : decode cL_acts 244 = .ok (.bipush 50, 2) := by decide +kernel
theorem dL_acts_246 : decode cL_acts 246 = .ok (.iload 4, 2) := by decide +kernel
theorem dL_acts_248 : decode cL_acts 248 = .ok (.iadd, 1) := by decide +kernel
theorem dL_acts_249 : decode cL_acts 249 = .ok (.iaload, 1) := by decide +kernel
theorem dL_acts_250 : decode cL_acts 250 = .ok (.bipush 8, 2) := by decide +kernel
theorem dL_acts_252 : decode cL_acts 252 = .ok (.if_icmp .ne 21, 3) := by decide +kernel
theorem dL_acts_255 : decode cL_acts 255 = .ok (.aload_n 1, 1) := by decide +kernel
theorem dL_acts_256 : decode cL_acts 256 = .ok (.iload 4, 2) := by decide +kernel
theorem dL_acts_258 : decode cL_acts 258 = .ok (.iload 5, 2) := by decide +kernel
theorem dL_acts_260 : decode cL_acts 260 = .ok (.iload 6, 2) := by decide +kernel
theorem dL_acts_262 : decode cL_acts 262 = .ok (.invokestatic 37, 3) := by decide +kernel
theorem dL_acts_265 : decode cL_acts 265 = .ok (.ifCond .ge 8, 3) := by decide +kernel
theorem dL_acts_268 : decode cL_acts 268 = .ok (.bipush (-3), 2) := by decide +kernel
theorem dL_acts_270 : decode cL_acts 270 = .ok (.goto 5, 3) := by decide +kernel
theorem dL_acts_273 : decode cL_acts 273 = .ok (.bipush (-2), 2) := by decide +kernel
theorem dL_acts_275 : decode cL_acts 275 = .ok (.ireturn, 1) := by decide +kernel
theorem dL_acts_276 : decode cL_acts 276 = .ok (.bipush 8, 2) := by decide +kernel
theorem dL_acts_278 : decode cL_acts 278 = .ok (.iload 4, 2) := by decide +kernel
theorem dL_acts_280 : decode cL_acts 280 = .ok (.imul, 1) := by decide +kernel
theorem dL_acts_281 : decode cL_acts 281 = .ok (.aload_n 1, 1) := by decide +kernel
theorem dL_acts_282 : decode cL_acts 282 = .ok (.bipush 50, 2) := by decide +kernel
theorem dL_acts_284 : decode cL_acts 284 = .ok (.iload 4, 2) := by decide +kernel
theorem dL_acts_286 : decode cL_acts 286 = .ok (.iadd, 1) := by decide +kernel
theorem dL_acts_287 : decode cL_acts 287 = .ok (.iaload, 1) := by decide +kernel
theorem dL_acts_288 : decode cL_acts 288 = .ok (.iadd, 1) := by decide +kernel
theorem dL_acts_289 : decode cL_acts 289 = .ok (.istore 10, 2) := by decide +kernel
theorem dL_acts_291 : decode cL_acts 291 = .ok (.aload_n 1, 1) := by decide +kernel
theorem dL_acts_292 : decode cL_acts 292 = .ok (.iload 10, 2) := by decide +kernel
theorem dL_acts_294 : decode cL_acts 294 = .ok (.iload 5, 2) := by decide +kernel
theorem dL_acts_296 : decode cL_acts 296 = .ok (.iastore, 1) := by decide +kernel
theorem dL_acts_297 : decode cL_acts 297 = .ok (.aload_n 1, 1) := by decide +kernel
theorem dL_acts_298 : decode cL_acts 298 = .ok (.bipush 16, 2) := by decide +kernel
theorem dL_acts_300 : decode cL_acts 300 = .ok (.iload 10, 2) := by decide +kernel
theorem dL_acts_302 : decode cL_acts 302 = .ok (.iadd, 1) := by decide +kernel
theorem dL_acts_303 : decode cL_acts 303 = .ok (.iload 6, 2) := by decide +kernel
theorem dL_acts_305 : decode cL_acts 305 = .ok (.iastore, 1) := by decide +kernel
theorem dL_acts_306 : decode cL_acts 306 = .ok (.aload_n 1, 1) := by decide +kernel
theorem dL_acts_307 : decode cL_acts 307 = .ok (.bipush 32, 2) := by decide +kernel
theorem dL_acts_309 : decode cL_acts 309 = .ok (.iload 10, 2) := by decide +kernel
theorem dL_acts_311 : decode cL_acts 311 = .ok (.iadd, 1) := by decide +kernel
theorem dL_acts_312 : decode cL_acts 312 = .ok (.iload 7, 2) := by decide +kernel
theorem dL_acts_314 : decode cL_acts 314 = .ok (.iastore, 1) := by decide +kernel
theorem dL_acts_315 : decode cL_acts 315 = .ok (.aload_n 1, 1) := by decide +kernel
theorem dL_acts_316 : decode cL_acts 316 = .ok (.bipush 50, 2) := by decide +kernel
theorem dL_acts_318 : decode cL_acts 318 = .ok (.iload 4, 2) := by decide +kernel
theorem dL_acts_320 : decode cL_acts 320 = .ok (.iadd, 1) := by decide +kernel
theorem dL_acts_321 : decode cL_acts 321 = .ok (.dup2, 1) := by decide +kernel
theorem dL_acts_322 : decode cL_acts 322 = .ok (.iaload, 1) := by decide +kernel
theorem dL_acts_323 : decode cL_acts 323 = .ok (.iconst 1, 1) := by decide +kernel
theorem dL_acts_324 : decode cL_acts 324 = .ok (.iadd, 1) := by decide +kernel
theorem dL_acts_325 : decode cL_acts 325 = .ok (.iastore, 1) := by decide +kernel
theorem dL_acts_326 : decode cL_acts 326 = .ok (.aload_n 1, 1) := by decide +kernel
theorem dL_acts_327 : decode cL_acts 327 = .ok (.bipush 50, 2) := by decide +kernel
theorem dL_acts_329 : decode cL_acts 329 = .ok (.iload 4, 2) := by decide +kernel
theorem dL_acts_331 : decode cL_acts 331 = .ok (.iadd, 1) := by decide +kernel
theorem dL_acts_332 : decode cL_acts 332 = .ok (.iaload, 1) := by decide +kernel
theorem dL_acts_333 : decode cL_acts 333 = .ok (.ireturn, 1) := by decide +kernel
theorem dL_acts_334 : decode cL_acts 334 = .ok (.iload_n 3, 1) := by decide +kernel
theorem dL_acts_335 : decode cL_acts 335 = .ok (.bipush 6, 2) := by decide +kernel
theorem dL_acts_337 : decode cL_acts 337 = .ok (.if_icmp .ne 102, 3) := by decide +kernel
theorem dL_acts_340 : decode cL_acts 340 = .ok (.iload 5, 2) := by decide +kernel
theorem dL_acts_342 : decode cL_acts 342 = .ok (.aload_n 1, 1) := by decide +kernel
theorem dL_acts_343 : decode cL_acts 343 = .ok (.bipush 50, 2) := by decide +kernel
theorem dL_acts_345 : decode cL_acts 345 = .ok (.iload 4, 2) := by decide +kernel
theorem dL_acts_347 : decode cL_acts 347 = .ok (.iadd, 1) := by decide +kernel
theorem dL_acts_348 : decode cL_acts 348 = .ok (.iaload, 1) := by decide +kernel
theorem dL_acts_349 : decode cL_acts 349 = .ok (.if_icmp .lt 5, 3) := by decide +kernel
theorem dL_acts_352 : decode cL_acts 352 = .ok (.iconst (-1), 1) := by decide +kernel
theorem dL_acts_353 : decode cL_acts 353 = .ok (.ireturn, 1) := by decide +kernel
theorem dL_acts_354 : decode cL_acts 354 = .ok (.aload_n 1, 1) := by decide +kernel
theorem dL_acts_355 : decode cL_acts 355 = .ok (.bipush 50, 2) := by decide +kernel
theorem dL_acts_357 : decode cL_acts 357 = .ok (.iload 4, 2) := by decide +kernel
theorem dL_acts_359 : decode cL_acts 359 = .ok (.iadd, 1) := by decide +kernel
theorem dL_acts_360 : decode cL_acts 360 = .ok (.dup2, 1) := by decide +kernel
theorem dL_acts_361 : decode cL_acts 361 = .ok (.iaload, 1) := by decide +kernel
theorem dL_acts_362 : decode cL_acts 362 = .ok (.iconst 1, 1) := by decide +kernel
theorem dL_acts_363 : decode cL_acts 363 = .ok (.isub, 1) := by decide +kernel
theorem dL_acts_364 : decode cL_acts 364 = .ok (.iastore, 1) := by decide +kernel
theorem dL_acts_365 : decode cL_acts 365 = .ok (.iload 9, 2) := by decide +kernel
theorem dL_acts_367 : decode cL_acts 367 = .ok (.istore 10, 2) := by decide +kernel
theorem dL_acts_369 : decode cL_acts 369 = .ok (.iload 10, 2) := by decide +kernel
theorem dL_acts_371 : decode cL_acts 371 = .ok (.bipush 8, 2) := by decide +kernel
theorem dL_acts_373 : decode cL_acts 373 = .ok (.iload 4, 2) := by decide +kernel
theorem dL_acts_375 : decode cL_acts 375 = .ok (.imul, 1) := by decide +kernel
theorem dL_acts_376 : decode cL_acts 376 = .ok (.aload_n 1, 1) := by decide +kernel
theorem dL_acts_377 : decode cL_acts 377 = .ok (.bipush 50, 2) := by decide +kernel
theorem dL_acts_379 : decode cL_acts 379 = .ok (.iload 4, 2) := by decide +kernel
theorem dL_acts_381 : decode cL_acts 381 = .ok (.iadd, 1) := by decide +kernel
theorem dL_acts_382 : decode cL_acts 382 = .ok (.iaload, 1) := by decide +kernel
theorem dL_acts_383 : decode cL_acts 383 = .ok (.iadd, 1) := by decide +kernel
theorem dL_acts_384 : decode cL_acts 384 = .ok (.if_icmp .ge 47, 3) := by decide +kernel
theorem dL_acts_387 : decode cL_acts 387 = .ok (.aload_n 1, 1) := by decide +kernel
theorem dL_acts_388 : decode cL_acts 388 = .ok (.iload 10, 2) := by decide +kernel
theorem dL_acts_390 : decode cL_acts 390 = .ok (.aload_n 1, 1) := by decide +kernel
theorem dL_acts_391 : decode cL_acts 391 = .ok (.iload 10, 2) := by decide +kernel
theorem dL_acts_393 : decode cL_acts 393 = .ok (.iconst 1, 1) := by decide +kernel
theorem dL_acts_394 : decode cL_acts 394 = .ok (.iadd, 1) := by decide +kernel
theorem dL_acts_395 : decode cL_acts 395 = .ok (.iaload, 1) := by decide +kernel
theorem dL_acts_396 : decode cL_acts 396 = .ok (.iastore, 1) := by decide +kernel
theorem dL_acts_397 : decode cL_acts 397 = .ok (.aload_n 1, 1) := by decide +kernel
theorem dL_acts_398 : decode cL_acts 398 = .ok (.bipush 16, 2) := by decide +kernel
theorem dL_acts_400 : decode cL_acts 400 = .ok (.iload 10, 2) := by decide +kernel
theorem dL_acts_402 : decode cL_acts 402 = .ok (.iadd, 1) := by decide +kernel
theorem dL_acts_403 : decode cL_acts 403 = .ok (.aload_n 1, 1) := by decide +kernel
theorem dL_acts_404 : decode cL_acts 404 = .ok (.bipush 17, 2) := by decide +kernel
theorem dL_acts_406 : decode cL_acts 406 = .ok (.iload 10, 2) := by decide +kernel
theorem dL_acts_408 : decode cL_acts 408 = .ok (.iadd, 1) := by decide +kernel
theorem dL_acts_409 : decode cL_acts 409 = .ok (.iaload, 1) := by decide +kernel
theorem dL_acts_410 : decode cL_acts 410 = .ok (.iastore, 1) := by decide +kernel
theorem dL_acts_411 : decode cL_acts 411 = .ok (.aload_n 1, 1) := by decide +kernel
theorem dL_acts_412 : decode cL_acts 412 = .ok (.bipush 32, 2) := by decide +kernel
theorem dL_acts_414 : decode cL_acts 414 = .ok (.iload 10, 2) := by decide +kernel
theorem dL_acts_416 : decode cL_acts 416 = .ok (.iadd, 1) := by decide +kernel
theorem dL_acts_417 : decode cL_acts 417 = .ok (.aload_n 1, 1) := by decide +kernel
theorem dL_acts_418 : decode cL_acts 418 = .ok (.bipush 33, 2) := by decide +kernel
theorem dL_acts_420 : decode cL_acts 420 = .ok (.iload 10, 2) := by decide +kernel
theorem dL_acts_422 : decode cL_acts 422 = .ok (.iadd, 1) := by decide +kernel
theorem dL_acts_423 : decode cL_acts 423 = .ok (.iaload, 1) := by decide +kernel
theorem dL_acts_424 : decode cL_acts 424 = .ok (.iastore, 1) := by decide +kernel
theorem dL_acts_425 : decode cL_acts 425 = .ok (.iinc 10 1, 3) := by decide +kernel
theorem dL_acts_428 : decode cL_acts 428 = .ok (.goto (-59), 3) := by decide +kernel
theorem dL_acts_431 : decode cL_acts 431 = .ok (.aload_n 1, 1) := by decide +kernel
theorem dL_acts_432 : decode cL_acts 432 = .ok (.bipush 50, 2) := by decide +kernel
theorem dL_acts_434 : decode cL_acts 434 = .ok (.iload 4, 2) := by decide +kernel
theorem dL_acts_436 : decode cL_acts 436 = .ok (.iadd, 1) := by decide +kernel
theorem dL_acts_437 : decode cL_acts 437 = .ok (.iaload, 1) := by decide +kernel
theorem dL_acts_438 : decode cL_acts 438 = .ok (.ireturn, 1) := by decide +kernel
theorem dL_acts_439 : decode cL_acts 439 = .ok (.iload_n 3, 1) := by decide +kernel
theorem dL_acts_440 : decode cL_acts 440 = .ok (.iconst 2, 1) := by decide +kernel
theorem dL_acts_441 : decode cL_acts 441 = .ok (.if_icmp .ne 81, 3) := by decide +kernel
theorem dL_acts_444 : decode cL_acts 444 = .ok (.iload_n 2, 1) := by decide +kernel
theorem dL_acts_445 : decode cL_acts 445 = .ok (.bipush 8, 2) := by decide +kernel
theorem dL_acts_447 : decode cL_acts 447 = .ok (.ishr, 1) := by decide +kernel
theorem dL_acts_448 : decode cL_acts 448 = .ok (.iconst 5, 1) := by decide +kernel
theorem dL_acts_449 : decode cL_acts 449 = .ok (.invokestatic 25, 3) := by decide +kernel
theorem dL_acts_452 : decode cL_acts 452 = .ok (.istore 10, 2) := by decide +kernel
theorem dL_acts_454 : decode cL_acts 454 = .ok (.iload 5, 2) := by decide +kernel
theorem dL_acts_456 : decode cL_acts 456 = .ok (.iload 8, 2) := by decide +kernel
theorem dL_acts_458 : decode cL_acts 458 = .ok (.if_icmp .ge 10, 3) := by decide +kernel
theorem dL_acts_461 : decode cL_acts 461 = .ok (.aload_n 0, 1) := by decide +kernel
theorem dL_acts_462 : decode cL_acts 462 = .ok (.iload 9, 2) := by decide +kernel
theorem dL_acts_464 : decode cL_acts 464 = .ok (.iaload, 1) := by decide +kernel
theorem dL_acts_465 : decode cL_acts 465 = .ok (.goto 4, 3) := by decide +kernel
theorem dL_acts_468 : decode cL_acts 468 = .ok (.iconst 0, 1) := by decide +kernel
theorem dL_acts_469 : decode cL_acts 469 = .ok (.istore 11, 2) := by decide +kernel
theorem dL_acts_471 : decode cL_acts 471 = .ok (.iload 5, 2) := by decide +kernel
theorem dL_acts_473 : decode cL_acts 473 = .ok (.iload 8, 2) := by decide +kernel
theorem dL_acts_475 : decode cL_acts 475 = .ok (.if_icmp .ge 15, 3) := by decide +kernel
theorem dL_acts_478 : decode cL_acts 478 = .ok (.iload 10, 2) := by decide +kernel
theorem dL_acts_480 : decode cL_acts 480 = .ok (.iconst 4, 1) := by decide +kernel
theorem dL_acts_481 : decode cL_acts 481 = .ok (.if_icmp .ge 9, 3) := by decide +kernel
theorem dL_acts_484 : decode cL_acts 484 = .ok (.aload_n 0, 1) := by decide +kernel
theorem dL_acts_485 : decode cL_acts 485 = .ok (.iload 9, 2) := by decide +kernel
theorem dL_acts_487 : decode cL_acts 487 = .ok (.iload 10, 2) := by decide +kernel
theorem dL_acts_489 : decode cL_acts 489 = .ok (.iastore, 1) := by decide +kernel
theorem dL_acts_490 : decode cL_acts 490 = .ok (.iload 5, 2) := by decide +kernel
theorem dL_acts_492 : decode cL_acts 492 = .ok (.iload 8, 2) := by decide +kernel
theorem dL_acts_494 : decode cL_acts 494 = .ok (.if_icmp .ge 9, 3) := by decide +kernel
theorem dL_acts_497 : decode cL_acts 497 = .ok (.iload 10, 2) := by decide +kernel
theorem dL_acts_499 : decode cL_acts 499 = .ok (.iconst 3, 1) := by decide +kernel
theorem dL_acts_500 : decode cL_acts 500 = .ok (.if_icmp .le 7, 3) := by decide +kernel
theorem dL_acts_503 : decode cL_acts 503 = .ok (.iconst (-1), 1) := by decide +kernel
theorem dL_acts_504 : decode cL_acts 504 = .ok (.goto 17, 3) := by decide +kernel
theorem dL_acts_507 : decode cL_acts 507 = .ok (.iload 11, 2) := by decide +kernel
theorem dL_acts_509 : decode cL_acts 509 = .ok (.iload 10, 2) := by decide +kernel
theorem dL_acts_511 : decode cL_acts 511 = .ok (.if_icmp .ne 8, 3) := by decide +kernel
theorem dL_acts_514 : decode cL_acts 514 = .ok (.bipush (-2), 2) := by decide +kernel
theorem dL_acts_516 : decode cL_acts 516 = .ok (.goto 5, 3) := by decide +kernel
theorem dL_acts_519 : decode cL_acts 519 = .ok (.iload 11, 2) := by decide +kernel
theorem dL_acts_521 : decode cL_acts 521 = .ok (.ireturn, 1) := by decide +kernel
theorem dL_acts_522 : decode cL_acts 522 = .ok (.iload_n 3, 1) := by decide +kernel
theorem dL_acts_523 : decode cL_acts 523 = .ok (.iconst 3, 1) := by decide +kernel
theorem dL_acts_524 : decode cL_acts 524 = .ok (.if_icmp .ne 85, 3) := by decide +kernel
theorem dL_acts_527 : decode cL_acts 527 = .ok (.iload 5, 2) := by decide +kernel
theorem dL_acts_529 : decode cL_acts 529 = .ok (.aload_n 1, 1) := by decide +kernel
theorem dL_acts_530 : decode cL_acts 530 = .ok (.bipush 50, 2) := by decide +kernel
theorem dL_acts_532 : decode cL_acts 532 = .ok (.iload 4, 2) := by decide +kernel
theorem dL_acts_534 : decode cL_acts 534 = .ok (.iadd, 1) := by decide +kernel
theorem dL_acts_535 : decode cL_acts 535 = .ok (.iaload, 1) := by decide +kernel
theorem dL_acts_536 : decode cL_acts 536 = .ok (.if_icmp .ge 10, 3) := by decide +kernel
theorem dL_acts_539 : decode cL_acts 539 = .ok (.iload 7, 2) := by decide +kernel
theorem dL_acts_541 : decode cL_acts 541 = .ok (.bipush 9, 2) := by decide +kernel
theorem dL_acts_543 : decode cL_acts 543 = .ok (.if_icmp .le 7, 3) := by decide +kernel
theorem dL_acts_546 : decode cL_acts 546 = .ok (.iconst 1, 1) := by decide +kernel
theorem dL_acts_547 : decode cL_acts 547 = .ok (.goto 4, 3) := by decide +kernel
theorem dL_acts_550 : decode cL_acts 550 = .ok (.iconst 0, 1) := by decide +kernel
theorem dL_acts_551 : decode cL_acts 551 = .ok (.istore 10, 2) := by decide +kernel
theorem dL_acts_553 : decode cL_acts 553 = .ok (.iload 10, 2) := by decide +kernel
theorem dL_acts_555 : decode cL_acts 555 = .ok (.ifCond .eq 7, 3) := by decide +kernel
theorem dL_acts_558 : decode cL_acts 558 = .ok (.iconst 0, 1) := by decide +kernel
theorem dL_acts_559 : decode cL_acts 559 = .ok (.goto 10, 3) := by decide +kernel
theorem dL_acts_562 : decode cL_acts 562 = .ok (.aload_n 1, 1) := by decide +kernel
theorem dL_acts_563 : decode cL_acts 563 = .ok (.bipush 32, 2) := by decide +kernel
theorem dL_acts_565 : decode cL_acts 565 = .ok (.iload 9, 2) := by decide +kernel
theorem dL_acts_567 : decode cL_acts 567 = .ok (.iadd, 1) := by decide +kernel
theorem dL_acts_568 : decode cL_acts 568 = .ok (.iaload, 1) := by decide +kernel
theorem dL_acts_569 : decode cL_acts 569 = .ok (.istore 11, 2) := by decide +kernel
theorem dL_acts_571 : decode cL_acts 571 = .ok (.iload 10, 2) := by decide +kernel
theorem dL_acts_573 : decode cL_acts 573 = .ok (.ifCond .ne 12, 3) := by decide +kernel
theorem dL_acts_576 : decode cL_acts 576 = .ok (.aload_n 1, 1) := by decide +kernel
theorem dL_acts_577 : decode cL_acts 577 = .ok (.bipush 32, 2) := by decide +kernel
theorem dL_acts_579 : decode cL_acts 579 = .ok (.iload 9, 2) := by decide +kernel
theorem dL_acts_581 : decode cL_acts 581 = .ok (.iadd, 1) := by decide +kernel
theorem dL_acts_582 : decode cL_acts 582 = .ok (.iload 7, 2) := by decide +kernel
theorem dL_acts_584 : decode cL_acts 584 = .ok (.iastore, 1) := by decide +kernel
theorem dL_acts_585 : decode cL_acts 585 = .ok (.iload 10, 2) := by decide +kernel
theorem dL_acts_587 : decode cL_acts 587 = .ok (.ifCond .eq 7, 3) := by decide +kernel
theorem dL_acts_590 : decode cL_acts 590 = .ok (.iconst (-1), 1) := by decide +kernel
theorem dL_acts_591 : decode cL_acts 591 = .ok (.goto 17, 3) := by decide +kernel
theorem dL_acts_594 : decode cL_acts 594 = .ok (.iload 11, 2) := by decide +kernel
theorem dL_acts_596 : decode cL_acts 596 = .ok (.iload 7, 2) := by decide +kernel
theorem dL_acts_598 : decode cL_acts 598 = .ok (.if_icmp .ne 8, 3) := by decide +kernel
theorem dL_acts_601 : decode cL_acts 601 = .ok (.bipush (-2), 2) := by decide +kernel
theorem dL_acts_603 : decode cL_acts 603 = .ok (.goto 5, 3) := by decide +kernel
theorem dL_acts_606 : decode cL_acts 606 = .ok (.iload 11, 2) := by decide +kernel
theorem dL_acts_608 : decode cL_acts 608 = .ok (.ireturn, 1) := by decide +kernel
theorem dL_acts_609 : decode cL_acts 609 = .ok (.iload 4, 2) := by decide +kernel
theorem dL_acts_611 : decode cL_acts 611 = .ok (.ifCond .ne 15, 3) := by decide +kernel
theorem dL_acts_614 : decode cL_acts 614 = .ok (.iload_n 2, 1) := by decide +kernel
theorem dL_acts_615 : decode cL_acts 615 = .ok (.bipush 8, 2) := by decide +kernel
theorem dL_acts_617 : decode cL_acts 617 = .ok (.ishr, 1) := by decide +kernel
theorem dL_acts_618 : decode cL_acts 618 = .ok (.bipush 22, 2) := by decide +kernel
theorem dL_acts_620 : decode cL_acts 620 = .ok (.invokestatic 25, 3) := by decide +kernel
theorem dL_acts_623 : decode cL_acts 623 = .ok (.goto 11, 3) := by decide +kernel
theorem dL_acts_626 : decode cL_acts 626 = .ok (.iload_n 2, 1) := by decide +kernel
theorem dL_acts_627 : decode cL_acts 627 = .ok (.bipush 8, 2) := by decide +kernel
theorem dL_acts_629 : decode cL_acts 629 = .ok (.ishr, 1) := by decide +kernel
theorem dL_acts_630 : decode cL_acts 630 = .ok (.iconst 5, 1) := by decide +kernel
theorem dL_acts_631 : decode cL_acts 631 = .ok (.invokestatic 25, 3) := by decide +kernel
theorem dL_acts_634 : decode cL_acts 634 = .ok (.istore 10, 2) := by decide +kernel
theorem dL_acts_636 : decode cL_acts 636 = .ok (.iload 4, 2) := by decide +kernel
theorem dL_acts_638 : decode cL_acts 638 = .ok (.ifCond .ne 24, 3) := by decide +kernel
theorem dL_acts_641 : decode cL_acts 641 = .ok (.iload 10, 2) := by decide +kernel
theorem dL_acts_643 : decode cL_acts 643 = .ok (.iconst 1, 1) := by decide +kernel
theorem dL_acts_644 : decode cL_acts 644 = .ok (.if_icmp .lt 10, 3) := by decide +kernel
theorem dL_acts_647 : decode cL_acts 647 = .ok (.iload 10, 2) := by decide +kernel
theorem dL_acts_649 : decode cL_acts 649 = .ok (.bipush 20, 2) := by decide +kernel
theorem dL_acts_651 : decode cL_acts 651 = .ok (.if_icmp .le 7, 3) := by decide +kernel
theorem dL_acts_654 : decode cL_acts 654 = .ok (.iconst 1, 1) := by decide +kernel
theorem dL_acts_655 : decode cL_acts 655 = .ok (.goto 18, 3) := by decide +kernel
theorem dL_acts_658 : decode cL_acts 658 = .ok (.iconst 0, 1) := by decide +kernel
theorem dL_acts_659 : decode cL_acts 659 = .ok (.goto 14, 3) := by decide +kernel
theorem dL_acts_662 : decode cL_acts 662 = .ok (.iload 10, 2) := by decide +kernel
theorem dL_acts_664 : decode cL_acts 664 = .ok (.iconst 3, 1) := by decide +kernel
theorem dL_acts_665 : decode cL_acts 665 = .ok (.if_icmp .le 7, 3) := by decide +kernel
theorem dL_acts_668 : decode cL_acts 668 = .ok (.iconst 1, 1) := by decide +kernel
theorem dL_acts_669 : decode cL_acts 669 = .ok (.goto 4, 3) := by decide +kernel
theorem dL_acts_672 : decode cL_acts 672 = .ok (.iconst 0, 1) := by decide +kernel
theorem dL_acts_673 : decode cL_acts 673 = .ok (.istore 11, 2) := by decide +kernel
theorem dL_acts_675 : decode cL_acts 675 = .ok (.aload_n 1, 1) := by decide +kernel
theorem dL_acts_676 : decode cL_acts 676 = .ok (.bipush 52, 2) := by decide +kernel
theorem dL_acts_678 : decode cL_acts 678 = .ok (.iload 4, 2) := by decide +kernel
theorem dL_acts_680 : decode cL_acts 680 = .ok (.iadd, 1) := by decide +kernel
theorem dL_acts_681 : decode cL_acts 681 = .ok (.iaload, 1) := by decide +kernel
theorem dL_acts_682 : decode cL_acts 682 = .ok (.istore 12, 2) := by decide +kernel
theorem dL_acts_684 : decode cL_acts 684 = .ok (.aload_n 1, 1) := by decide +kernel
theorem dL_acts_685 : decode cL_acts 685 = .ok (.bipush 52, 2) := by decide +kernel
theorem dL_acts_687 : decode cL_acts 687 = .ok (.iload 4, 2) := by decide +kernel
theorem dL_acts_689 : decode cL_acts 689 = .ok (.iadd, 1) := by decide +kernel
theorem dL_acts_690 : decode cL_acts 690 = .ok (.iload 11, 2) := by decide +kernel
theorem dL_acts_692 : decode cL_acts 692 = .ok (.ifCond .eq 8, 3) := by decide +kernel
theorem dL_acts_695 : decode cL_acts 695 = .ok (.iload 12, 2) := by decide +kernel
theorem dL_acts_697 : decode cL_acts 697 = .ok (.goto 5, 3) := by decide +kernel
theorem dL_acts_700 : decode cL_acts 700 = .ok (.iload 10, 2) := by decide +kernel
theorem dL_acts_702 : decode cL_acts 702 = .ok (.iastore, 1) := by decide +kernel
theorem dL_acts_703 : decode cL_acts 703 = .ok (.iload 11, 2) := by decide +kernel
theorem dL_acts_705 : decode cL_acts 705 = .ok (.ifCond .eq 7, 3) := by decide +kernel
theorem dL_acts_708 : decode cL_acts 708 = .ok (.iconst (-1), 1) := by decide +kernel
theorem dL_acts_709 : decode cL_acts 709 = .ok (.goto 17, 3) := by decide +kernel
theorem dL_acts_712 : decode cL_acts 712 = .ok (.iload 12, 2) := by decide +kernel
theorem dL_acts_714 : decode cL_acts 714 = .ok (.iload 10, 2) := by decide +kernel
theorem dL_acts_716 : decode cL_acts 716 = .ok (.if_icmp .ne 8, 3) := by decide +kernel
theorem dL_acts_719 : decode cL_acts 719 = .ok (.bipush (-2), 2) := by decide +kernel
theorem dL_acts_721 : decode cL_acts 721 = .ok (.goto 5, 3) := by decide +kernel
theorem dL_acts_724 : decode cL_acts 724 = .ok (.iload 12, 2) := by decide +kernel
theorem dL_acts_726 : decode cL_acts 726 = .ok (.ireturn, 1) := by decide +kernel
theorem dL_told_0 : decode cL_told 0 = .ok (.iload_n 1, 1) := by decide +kernel
theorem dL_told_1 : decode cL_told 1 = .ok (.bipush 8, 2) := by decide +kernel
theorem dL_told_3 : decode cL_told 3 = .ok (.invokestatic 25, 3) := by decide +kernel
theorem dL_told_6 : decode cL_told 6 = .ok (.istore_n 2, 1) := by decide +kernel
theorem dL_told_7 : decode cL_told 7 = .ok (.iload_n 1, 1) := by decide +kernel
theorem dL_told_8 : decode cL_told 8 = .ok (.iconst 3, 1) := by decide +kernel
theorem dL_told_9 : decode cL_told 9 = .ok (.ishr, 1) := by decide +kernel
theorem dL_told_10 : decode cL_told 10 = .ok (.iconst 2, 1) := by decide +kernel
theorem dL_told_11 : decode cL_told 11 = .ok (.invokestatic 25, 3) := by decide +kernel
theorem dL_told_14 : decode cL_told 14 = .ok (.istore_n 3, 1) := by decide +kernel
theorem dL_told_15 : decode cL_told 15 = .ok (.iload_n 1, 1) := by decide +kernel
theorem dL_told_16 : decode cL_told 16 = .ok (.iconst 4, 1) := by decide +kernel
theorem dL_told_17 : decode cL_told 17 = .ok (.ishr, 1) := by decide +kernel
theorem dL_told_18 : decode cL_told 18 = .ok (.bipush 9, 2) := by decide +kernel
theorem dL_told_20 : decode cL_told 20 = .ok (.invokestatic 25, 3) := by decide +kernel
theorem dL_told_23 : decode cL_told 23 = .ok (.istore 4, 2) := by decide +kernel
theorem dL_told_25 : decode cL_told 25 = .ok (.iload_n 1, 1) := by decide +kernel
theorem dL_told_26 : decode cL_told 26 = .ok (.bipush 12, 2) := by decide +kernel
theorem dL_told_28 : decode cL_told 28 = .ok (.ishr, 1) := by decide +kernel
theorem dL_told_29 : decode cL_told 29 = .ok (.bipush 11, 2) := by decide +kernel
theorem dL_told_31 : decode cL_told 31 = .ok (.invokestatic 25, 3) := by decide +kernel
theorem dL_told_34 : decode cL_told 34 = .ok (.istore 5, 2) := by decide +kernel
theorem dL_told_36 : decode cL_told 36 = .ok (.iload_n 2, 1) := by decide +kernel
theorem dL_told_37 : decode cL_told 37 = .ok (.iconst 2, 1) := by decide +kernel
theorem dL_told_38 : decode cL_told 38 = .ok (.if_icmp .ge 31, 3) := by decide +kernel
theorem dL_told_41 : decode cL_told 41 = .ok (.aload_n 0, 1) := by decide +kernel
theorem dL_told_42 : decode cL_told 42 = .ok (.iload_n 3, 1) := by decide +kernel
theorem dL_told_43 : decode cL_told 43 = .ok (.iload 4, 2) := by decide +kernel
theorem dL_told_45 : decode cL_told 45 = .ok (.iload_n 1, 1) := by decide +kernel
theorem dL_told_46 : decode cL_told 46 = .ok (.bipush 8, 2) := by decide +kernel
theorem dL_told_48 : decode cL_told 48 = .ok (.ishr, 1) := by decide +kernel
theorem dL_told_49 : decode cL_told 49 = .ok (.bipush 64, 2) := by decide +kernel
theorem dL_told_51 : decode cL_told 51 = .ok (.invokestatic 25, 3) := by decide +kernel
theorem dL_told_54 : decode cL_told 54 = .ok (.iload_n 1, 1) := by decide +kernel
theorem dL_told_55 : decode cL_told 55 = .ok (.bipush 14, 2) := by decide +kernel
theorem dL_told_57 : decode cL_told 57 = .ok (.ishr, 1) := by decide +kernel
theorem dL_told_58 : decode cL_told 58 = .ok (.bipush 64, 2) := by decide +kernel
theorem dL_told_60 : decode cL_told 60 = .ok (.invokestatic 25, 3) := by decide +kernel
theorem dL_told_63 : decode cL_told 63 = .ok (.invokevirtual 56, 3) := by decide +kernel
theorem dL_told_66 : decode cL_told 66 = .ok (.goto 115, 3) := by decide +kernel
theorem dL_told_69 : decode cL_told 69 = .ok (.iload_n 2, 1) := by decide +kernel
theorem dL_told_70 : decode cL_told 70 = .ok (.iconst 2, 1) := by decide +kernel
theorem dL_told_71 : decode cL_told 71 = .ok (.if_icmp .ne 21, 3) := by decide +kernel
theorem dL_told_74 : decode cL_told 74 = .ok (.aload_n 0, 1) := by decide +kernel
theorem dL_told_75 : decode cL_told 75 = .ok (.iload_n 3, 1) := by decide +kernel
theorem dL_told_76 : decode cL_told 76 = .ok (.iload 4, 2) := by decide +kernel
theorem dL_told_78 : decode cL_told 78 = .ok (.iload_n 1, 1) := by decide +kernel
theorem dL_told_79 : decode cL_told 79 = .ok (.bipush 8, 2) := by decide +kernel
theorem dL_told_81 : decode cL_told 81 = .ok (.ishr, 1) := by decide +kernel
theorem dL_told_82 : decode cL_told 82 = .ok (.iconst 5, 1) := by decide +kernel
theorem dL_told_83 : decode cL_told 83 = .ok (.invokestatic 25, 3) := by decide +kernel
theorem dL_told_86 : decode cL_told 86 = .ok (.invokevirtual 60, 3) := by decide +kernel
theorem dL_told_89 : decode cL_told 89 = .ok (.goto 92, 3) := by decide +kernel
theorem dL_told_92 : decode cL_told 92 = .ok (.iload_n 2, 1) := by decide +kernel
theorem dL_told_93 : decode cL_told 93 = .ok (.iconst 3, 1) := by decide +kernel
theorem dL_told_94 : decode cL_told 94 = .ok (.if_icmp .ne 15, 3) := by decide +kernel
theorem dL_told_97 : decode cL_told 97 = .ok (.aload_n 0, 1) := by decide +kernel
theorem dL_told_98 : decode cL_told 98 = .ok (.iload_n 3, 1) := by decide +kernel
theorem dL_told_99 : decode cL_told 99 = .ok (.iload 4, 2) := by decide +kernel
theorem dL_told_101 : decode cL_told 101 = .ok (.iload 5, 2) := by decide +kernel
theorem dL_told_103 : decode cL_told 103 = .ok (.invokevirtual 63, 3) := by decide +kernel
theorem dL_told_106 : decode cL_told 106 = .ok (.goto 75, 3) := by decide +kernel
theorem dL_told_109 : decode cL_told 109 = .ok (.iload_n 2, 1) := by decide +kernel
theorem dL_told_110 : decode cL_told 110 = .ok (.bipush 6, 2) := by decide +kernel
theorem dL_told_112 : decode cL_told 112 = .ok (.if_icmp .ge 24, 3) := by decide +kernel
theorem dL_told_115 : decode cL_told 115 = .ok (.aload_n 0, 1) := by decide +kernel
theorem dL_told_116 : decode cL_told 116 = .ok (.iload_n 3, 1) := by decide +kernel
theorem dL_told_117 : decode cL_told 117 = .ok (.iload 4, 2) := by decide +kernel
theorem dL_told_119 : decode cL_told 119 = .ok (.iload_n 1, 1) := by decide +kernel
theorem dL_told_120 : decode cL_told 120 = .ok (.bipush 8, 2) := by decide +kernel
theorem dL_told_122 : decode cL_told 122 = .ok (.ishr, 1) := by decide +kernel
theorem dL_told_123 : decode cL_told 123 = .ok (.bipush 9, 2) := by decide +kernel
theorem dL_told_125 : decode cL_told 125 = .ok (.invokestatic 25, 3) := by decide +kernel
theorem dL_told_128 : decode cL_told 128 = .ok (.iload 5, 2) := by decide +kernel
theorem dL_told_130 : decode cL_told 130 = .ok (.invokevirtual 66, 3) := by decide +kernel
theorem dL_told_133 : decode cL_told 133 = .ok (.goto 48, 3) := by decide +kernel
theorem dL_told_136 : decode cL_told 136 = .ok (.iload_n 2, 1) := by decide +kernel
theorem dL_told_137 : decode cL_told 137 = .ok (.bipush 6, 2) := by decide +kernel
theorem dL_told_139 : decode cL_told 139 = .ok (.if_icmp .ne 13, 3) := by decide +kernel
theorem dL_told_142 : decode cL_told 142 = .ok (.aload_n 0, 1) := by decide +kernel
theorem dL_told_143 : decode cL_told 143 = .ok (.iload_n 3, 1) := by decide +kernel
theorem dL_told_144 : decode cL_told 144 = .ok (.iload 4, 2) := by decide +kernel
theorem dL_told_146 : decode cL_told 146 = .ok (.invokevirtual 69, 3) := by decide +kernel
theorem dL_told_149 : decode cL_told 149 = .ok (.goto 32, 3) := by decide +kernel
theorem dL_told_152 : decode cL_told 152 = .ok (.aload_n 0, 1) := by decide +kernel
theorem dL_told_153 : decode cL_told 153 = .ok (.iload_n 3, 1) := by decide +kernel
theorem dL_told_154 : decode cL_told 154 = .ok (.iload_n 3, 1) := by decide +kernel
theorem dL_told_155 : decode cL_told 155 = .ok (.ifCond .ne 15, 3) := by decide +kernel
theorem dL_told_158 : decode cL_told 158 = .ok (.iload_n 1, 1) := by decide +kernel
theorem dL_told_159 : decode cL_told 159 = .ok (.bipush 8, 2) := by decide +kernel
theorem dL_told_161 : decode cL_told 161 = .ok (.ishr, 1) := by decide +kernel
theorem dL_told_162 : decode cL_told 162 = .ok (.bipush 22, 2) := by decide +kernel
theorem dL_told_164 : decode cL_told 164 = .ok (.invokestatic 25, 3) := by decide +kernel
theorem dL_told_167 : decode cL_told 167 = .ok (.goto 11, 3) := by decide +kernel
theorem dL_told_170 : decode cL_told 170 = .ok (.iload_n 1, 1) := by decide +kernel
theorem dL_told_171 : decode cL_told 171 = .ok (.bipush 8, 2) := by decide +kernel
theorem dL_told_173 : decode cL_told 173 = .ok (.ishr, 1) := by decide +kernel
theorem dL_told_174 : decode cL_told 174 = .ok (.iconst 5, 1) := by decide +kernel
theorem dL_told_175 : decode cL_told 175 = .ok (.invokestatic 25, 3) := by decide +kernel
theorem dL_told_178 : decode cL_told 178 = .ok (.invokevirtual 72, 3) := by decide +kernel
theorem dL_told_181 : decode cL_told 181 = .ok (.ireturn, 1) := by decide +kernel
theorem dL_some_0 : decode cL_some 0 = .ok (.iconst 1, 1) := by decide +kernel
theorem dL_some_1 : decode cL_some 1 = .ok (.istore 6, 2) := by decide +kernel
theorem dL_some_3 : decode cL_some 3 = .ok (.iconst 0, 1) := by decide +kernel
theorem dL_some_4 : decode cL_some 4 = .ok (.istore 7, 2) := by decide +kernel
theorem dL_some_6 : decode cL_some 6 = .ok (.iload 7, 2) := by decide +kernel
theorem dL_some_8 : decode cL_some 8 = .ok (.iload_n 3, 1) := by decide +kernel
theorem dL_some_9 : decode cL_some 9 = .ok (.if_icmp .ge 49, 3) := by decide +kernel
theorem dL_some_12 : decode cL_some 12 = .ok (.iload 6, 2) := by decide +kernel
theorem dL_some_14 : decode cL_some 14 = .ok (.ifCond .eq 44, 3) := by decide +kernel
theorem dL_some_17 : decode cL_some 17 = .ok (.aload_n 1, 1) := by decide +kernel
theorem dL_some_18 : decode cL_some 18 = .ok (.iload_n 2, 1) := by decide +kernel
theorem dL_some_19 : decode cL_some 19 = .ok (.iload 7, 2) := by decide +kernel
theorem dL_some_21 : decode cL_some 21 = .ok (.iadd, 1) := by decide +kernel
theorem dL_some_22 : decode cL_some 22 = .ok (.invokestatic 21, 3) := by decide +kernel
theorem dL_some_25 : decode cL_some 25 = .ok (.istore 8, 2) := by decide +kernel
theorem dL_some_27 : decode cL_some 27 = .ok (.aload_n 0, 1) := by decide +kernel
theorem dL_some_28 : decode cL_some 28 = .ok (.iload 8, 2) := by decide +kernel
theorem dL_some_30 : decode cL_some 30 = .ok (.invokestatic 75, 3) := by decide +kernel
theorem dL_some_33 : decode cL_some 33 = .ok (.aload 4, 2) := by decide +kernel
theorem dL_some_35 : decode cL_some 35 = .ok (.aload 5, 2) := by decide +kernel
theorem dL_some_37 : decode cL_some 37 = .ok (.iload 8, 2) := by decide +kernel
theorem dL_some_39 : decode cL_some 39 = .ok (.invokestatic 79, 3) := by decide +kernel
theorem dL_some_42 : decode cL_some 42 = .ok (.if_icmp .ne 7, 3) := by decide +kernel
theorem dL_some_45 : decode cL_some 45 = .ok (.iconst 1, 1) := by decide +kernel
theorem dL_some_46 : decode cL_some 46 = .ok (.goto 4, 3) := by decide +kernel
theorem dL_some_49 : decode cL_some 49 = .ok (.iconst 0, 1) := by decide +kernel
theorem dL_some_50 : decode cL_some 50 = .ok (.istore 6, 2) := by decide +kernel
theorem dL_some_52 : decode cL_some 52 = .ok (.iinc 7 1, 3) := by decide +kernel
theorem dL_some_55 : decode cL_some 55 = .ok (.goto (-49), 3) := by decide +kernel
theorem dL_some_58 : decode cL_some 58 = .ok (.iload 6, 2) := by decide +kernel
theorem dL_some_60 : decode cL_some 60 = .ok (.ireturn, 1) := by decide +kernel
theorem dL_distance_0 : decode cL_distance 0 = .ok (.aload_n 0, 1) := by decide +kernel
theorem dL_distance_1 : decode cL_distance 1 = .ok (.bipush 16, 2) := by decide +kernel
theorem dL_distance_3 : decode cL_distance 3 = .ok (.iload_n 1, 1) := by decide +kernel
theorem dL_distance_4 : decode cL_distance 4 = .ok (.iadd, 1) := by decide +kernel
theorem dL_distance_5 : decode cL_distance 5 = .ok (.iaload, 1) := by decide +kernel
theorem dL_distance_6 : decode cL_distance 6 = .ok (.aload_n 0, 1) := by decide +kernel
theorem dL_distance_7 : decode cL_distance 7 = .ok (.bipush 16, 2) := by decide +kernel
theorem dL_distance_9 : decode cL_distance 9 = .ok (.iload_n 2, 1) := by decide +kernel
theorem dL_distance_10 : decode cL_distance 10 = .ok (.iadd, 1) := by decide +kernel
theorem dL_distance_11 : decode cL_distance 11 = .ok (.iaload, 1) := by decide +kernel
theorem dL_distance_12 : decode cL_distance 12 = .ok (.isub, 1) := by decide +kernel
theorem dL_distance_13 : decode cL_distance 13 = .ok (.istore_n 3, 1) := by decide +kernel
theorem dL_distance_14 : decode cL_distance 14 = .ok (.aload_n 0, 1) := by decide +kernel
theorem dL_distance_15 : decode cL_distance 15 = .ok (.bipush 32, 2) := by decide +kernel
theorem dL_distance_17 : decode cL_distance 17 = .ok (.iload_n 1, 1) := by decide +kernel
theorem dL_distance_18 : decode cL_distance 18 = .ok (.iadd, 1) := by decide +kernel
theorem dL_distance_19 : decode cL_distance 19 = .ok (.iaload, 1) := by decide +kernel
theorem dL_distance_20 : decode cL_distance 20 = .ok (.aload_n 0, 1) := by decide +kernel
theorem dL_distance_21 : decode cL_distance 21 = .ok (.bipush 32, 2) := by decide +kernel
theorem dL_distance_23 : decode cL_distance 23 = .ok (.iload_n 2, 1) := by decide +kernel
theorem dL_distance_24 : decode cL_distance 24 = .ok (.iadd, 1) := by decide +kernel
theorem dL_distance_25 : decode cL_distance 25 = .ok (.iaload, 1) := by decide +kernel
theorem dL_distance_26 : decode cL_distance 26 = .ok (.isub, 1) := by decide +kernel
theorem dL_distance_27 : decode cL_distance 27 = .ok (.istore 4, 2) := by decide +kernel
theorem dL_distance_29 : decode cL_distance 29 = .ok (.iload_n 3, 1) := by decide +kernel
theorem dL_distance_30 : decode cL_distance 30 = .ok (.iload_n 3, 1) := by decide +kernel
theorem dL_distance_31 : decode cL_distance 31 = .ok (.imul, 1) := by decide +kernel
theorem dL_distance_32 : decode cL_distance 32 = .ok (.iload 4, 2) := by decide +kernel
theorem dL_distance_34 : decode cL_distance 34 = .ok (.iload 4, 2) := by decide +kernel
theorem dL_distance_36 : decode cL_distance 36 = .ok (.imul, 1) := by decide +kernel
theorem dL_distance_37 : decode cL_distance 37 = .ok (.iadd, 1) := by decide +kernel
theorem dL_distance_38 : decode cL_distance 38 = .ok (.ireturn, 1) := by decide +kernel
