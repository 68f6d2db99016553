theorem dL_low_0 : decode cL_low 0 = .ok (.iload_n 0, 1) := by decide +kernel
theorem dL_low_1 : decode cL_low 1 = .ok (.ldc 7, 2) := by decide +kernel
theorem dL_low_3 : decode cL_low 3 = .ok (.iand, 1) := by decide +kernel
theorem dL_low_4 : decode cL_low 4 = .ok (.iload_n 1, 1) := by decide +kernel
theorem dL_low_5 : decode cL_low 5 = .ok (.irem, 1) := by decide +kernel
theorem dL_low_6 : decode cL_low 6 = .ok (.ireturn, 1) := by decide +kernel
theorem dL_cell_0 : decode cL_cell 0 = .ok (.iload_n 1, 1) := by decide +kernel
theorem dL_cell_1 : decode cL_cell 1 = .ok (.aload_n 0, 1) := by decide +kernel
theorem dL_cell_2 : decode cL_cell 2 = .ok (.arraylength, 1) := by decide +kernel
theorem dL_cell_3 : decode cL_cell 3 = .ok (.if_icmp .ge 9, 3) := by decide +kernel
theorem dL_cell_6 : decode cL_cell 6 = .ok (.aload_n 0, 1) := by decide +kernel
theorem dL_cell_7 : decode cL_cell 7 = .ok (.iload_n 1, 1) := by decide +kernel
theorem dL_cell_8 : decode cL_cell 8 = .ok (.iaload, 1) := by decide +kernel
theorem dL_cell_9 : decode cL_cell 9 = .ok (.goto 11, 3) := by decide +kernel
theorem dL_cell_12 : decode cL_cell 12 = .ok (.ldc 8, 2) := by decide +kernel
theorem dL_cell_14 : decode cL_cell 14 = .ok (.iload_n 1, 1) := by decide +kernel
theorem dL_cell_15 : decode cL_cell 15 = .ok (.imul, 1) := by decide +kernel
theorem dL_cell_16 : decode cL_cell 16 = .ok (.sipush 977, 3) := by decide +kernel
theorem dL_cell_19 : decode cL_cell 19 = .ok (.iadd, 1) := by decide +kernel
theorem dL_cell_20 : decode cL_cell 20 = .ok (.ireturn, 1) := by decide +kernel
theorem dL_add_0 : decode cL_add 0 = .ok (.aload_n 0, 1) := by decide +kernel
theorem dL_add_1 : decode cL_add 1 = .ok (.iload_n 1, 1) := by decide +kernel
theorem dL_add_2 : decode cL_add 2 = .ok (.iload_n 2, 1) := by decide +kernel
theorem dL_add_3 : decode cL_add 3 = .ok (.iload_n 3, 1) := by decide +kernel
theorem dL_add_4 : decode cL_add 4 = .ok (.iload 4, 2) := by decide +kernel
theorem dL_add_6 : decode cL_add 6 = .ok (.invokevirtual 9, 3) := by decide +kernel
theorem dL_add_9 : decode cL_add 9 = .ok (.ireturn, 1) := by decide +kernel
theorem dL_add_10 : decode cL_add 10 = .ok (.astore 5, 2) := by decide +kernel
theorem dL_add_12 : decode cL_add 12 = .ok (.bipush (-3), 2) := by decide +kernel
theorem dL_add_14 : decode cL_add 14 = .ok (.ireturn, 1) := by decide +kernel
theorem dL_remove_0 : decode cL_remove 0 = .ok (.aload_n 0, 1) := by decide +kernel
theorem dL_remove_1 : decode cL_remove 1 = .ok (.iload_n 1, 1) := by decide +kernel
theorem dL_remove_2 : decode cL_remove 2 = .ok (.iload_n 2, 1) := by decide +kernel
theorem dL_remove_3 : decode cL_remove 3 = .ok (.iload_n 3, 1) := by decide +kernel
theorem dL_remove_4 : decode cL_remove 4 = .ok (.invokevirtual 17, 3) := by decide +kernel
theorem dL_remove_7 : decode cL_remove 7 = .ok (.ireturn, 1) := by decide +kernel
theorem dL_remove_8 : decode cL_remove 8 = .ok (.astore 4, 2) := by decide +kernel
theorem dL_remove_10 : decode cL_remove 10 = .ok (.bipush (-3), 2) := by decide +kernel
theorem dL_remove_12 : decode cL_remove 12 = .ok (.ireturn, 1) := by decide +kernel
theorem dL_set_0 : decode cL_set 0 = .ok (.aload_n 0, 1) := by decide +kernel
theorem dL_set_1 : decode cL_set 1 = .ok (.iload_n 1, 1) := by decide +kernel
theorem dL_set_2 : decode cL_set 2 = .ok (.iload_n 2, 1) := by decide +kernel
theorem dL_set_3 : decode cL_set 3 = .ok (.iload_n 3, 1) := by decide +kernel
theorem dL_set_4 : decode cL_set 4 = .ok (.iload 4, 2) := by decide +kernel
theorem dL_set_6 : decode cL_set 6 = .ok (.iload 5, 2) := by decide +kernel
theorem dL_set_8 : decode cL_set 8 = .ok (.invokevirtual 21, 3) := by decide +kernel
theorem dL_set_11 : decode cL_set 11 = .ok (.ireturn, 1) := by decide +kernel
theorem dL_set_12 : decode cL_set 12 = .ok (.astore 6, 2) := by decide +kernel
theorem dL_set_14 : decode cL_set 14 = .ok (.bipush (-3), 2) := by decide +kernel
theorem dL_set_16 : decode cL_set 16 = .ok (.ireturn, 1) := by decide +kernel
theorem dL_join_0 : decode cL_join 0 = .ok (.aload_n 0, 1) := by decide +kernel
theorem dL_join_1 : decode cL_join 1 = .ok (.iload_n 1, 1) := by decide +kernel
theorem dL_join_2 : decode cL_join 2 = .ok (.iload_n 2, 1) := by decide +kernel
theorem dL_join_3 : decode cL_join 3 = .ok (.iload_n 3, 1) := by decide +kernel
theorem dL_join_4 : decode cL_join 4 = .ok (.iload 4, 2) := by decide +kernel
theorem dL_join_6 : decode cL_join 6 = .ok (.invokevirtual 25, 3) := by decide +kernel
theorem dL_join_9 : decode cL_join 9 = .ok (.ireturn, 1) := by decide +kernel
theorem dL_join_10 : decode cL_join 10 = .ok (.astore 5, 2) := by decide +kernel
theorem dL_join_12 : decode cL_join 12 = .ok (.bipush (-3), 2) := by decide +kernel
theorem dL_join_14 : decode cL_join 14 = .ok (.ireturn, 1) := by decide +kernel
theorem dL_commit_0 : decode cL_commit 0 = .ok (.aload_n 0, 1) := by decide +kernel
theorem dL_commit_1 : decode cL_commit 1 = .ok (.iload_n 1, 1) := by decide +kernel
theorem dL_commit_2 : decode cL_commit 2 = .ok (.iload_n 2, 1) := by decide +kernel
theorem dL_commit_3 : decode cL_commit 3 = .ok (.invokevirtual 28, 3) := by decide +kernel
theorem dL_commit_6 : decode cL_commit 6 = .ok (.ireturn, 1) := by decide +kernel
theorem dL_commit_7 : decode cL_commit 7 = .ok (.astore_n 3, 1) := by decide +kernel
theorem dL_commit_8 : decode cL_commit 8 = .ok (.bipush (-3), 2) := by decide +kernel
theorem dL_commit_10 : decode cL_commit 10 = .ok (.ireturn, 1) := by decide +kernel
theorem dL_leads_0 : decode cL_leads 0 = .ok (.aload_n 0, 1) := by decide +kernel
theorem dL_leads_1 : decode cL_leads 1 = .ok (.bipush 10, 2) := by decide +kernel
theorem dL_leads_3 : decode cL_leads 3 = .ok (.iload_n 1, 1) := by decide +kernel
theorem dL_leads_4 : decode cL_leads 4 = .ok (.iadd, 1) := by decide +kernel
theorem dL_leads_5 : decode cL_leads 5 = .ok (.bipush 10, 2) := by decide +kernel
theorem dL_leads_7 : decode cL_leads 7 = .ok (.iload_n 2, 1) := by decide +kernel
theorem dL_leads_8 : decode cL_leads 8 = .ok (.iadd, 1) := by decide +kernel
theorem dL_leads_9 : decode cL_leads 9 = .ok (.invokevirtual 32, 3) := by decide +kernel
theorem dL_leads_12 : decode cL_leads 12 = .ok (.istore_n 3, 1) := by decide +kernel
theorem dL_leads_13 : decode cL_leads 13 = .ok (.iload_n 3, 1) := by decide +kernel
theorem dL_leads_14 : decode cL_leads 14 = .ok (.ifCond .ne 7, 3) := by decide +kernel
theorem dL_leads_17 : decode cL_leads 17 = .ok (.iconst 1, 1) := by decide +kernel
theorem dL_leads_18 : decode cL_leads 18 = .ok (.goto 4, 3) := by decide +kernel
theorem dL_leads_21 : decode cL_leads 21 = .ok (.iconst 0, 1) := by decide +kernel
theorem dL_leads_22 : decode cL_leads 22 = .ok (.aload_n 0, 1) := by decide +kernel
theorem dL_leads_23 : decode cL_leads 23 = .ok (.bipush 10, 2) := by decide +kernel
theorem dL_leads_25 : decode cL_leads 25 = .ok (.iload_n 1, 1) := by decide +kernel
theorem dL_leads_26 : decode cL_leads 26 = .ok (.iadd, 1) := by decide +kernel
theorem dL_leads_27 : decode cL_leads 27 = .ok (.bipush 10, 2) := by decide +kernel
theorem dL_leads_29 : decode cL_leads 29 = .ok (.iload_n 2, 1) := by decide +kernel
theorem dL_leads_30 : decode cL_leads 30 = .ok (.iadd, 1) := by decide +kernel
theorem dL_leads_31 : decode cL_leads 31 = .ok (.invokevirtual 35, 3) := by decide +kernel
theorem dL_leads_34 : decode cL_leads 34 = .ok (.if_icmp .ne 37, 3) := by decide +kernel
theorem dL_leads_37 : decode cL_leads 37 = .ok (.aload_n 0, 1) := by decide +kernel
theorem dL_leads_38 : decode cL_leads 38 = .ok (.bipush 10, 2) := by decide +kernel
theorem dL_leads_40 : decode cL_leads 40 = .ok (.iload_n 1, 1) := by decide +kernel
theorem dL_leads_41 : decode cL_leads 41 = .ok (.iadd, 1) := by decide +kernel
theorem dL_leads_42 : decode cL_leads 42 = .ok (.bipush 10, 2) := by decide +kernel
theorem dL_leads_44 : decode cL_leads 44 = .ok (.iload_n 1, 1) := by decide +kernel
theorem dL_leads_45 : decode cL_leads 45 = .ok (.iadd, 1) := by decide +kernel
theorem dL_leads_46 : decode cL_leads 46 = .ok (.invokevirtual 35, 3) := by decide +kernel
theorem dL_leads_49 : decode cL_leads 49 = .ok (.ifCond .eq 22, 3) := by decide +kernel
theorem dL_leads_52 : decode cL_leads 52 = .ok (.aload_n 0, 1) := by decide +kernel
theorem dL_leads_53 : decode cL_leads 53 = .ok (.bipush 10, 2) := by decide +kernel
theorem dL_leads_55 : decode cL_leads 55 = .ok (.iload_n 2, 1) := by decide +kernel
theorem dL_leads_56 : decode cL_leads 56 = .ok (.iadd, 1) := by decide +kernel
theorem dL_leads_57 : decode cL_leads 57 = .ok (.bipush 10, 2) := by decide +kernel
theorem dL_leads_59 : decode cL_leads 59 = .ok (.iload_n 2, 1) := by decide +kernel
theorem dL_leads_60 : decode cL_leads 60 = .ok (.iadd, 1) := by decide +kernel
theorem dL_leads_61 : decode cL_leads 61 = .ok (.invokevirtual 32, 3) := by decide +kernel
theorem dL_leads_64 : decode cL_leads 64 = .ok (.ifCond .ne 7, 3) := by decide +kernel
theorem dL_leads_67 : decode cL_leads 67 = .ok (.iconst 1, 1) := by decide +kernel
theorem dL_leads_68 : decode cL_leads 68 = .ok (.goto 4, 3) := by decide +kernel
theorem dL_leads_71 : decode cL_leads 71 = .ok (.iconst 0, 1) := by decide +kernel
theorem dL_leads_72 : decode cL_leads 72 = .ok (.istore 4, 2) := by decide +kernel
theorem dL_leads_74 : decode cL_leads 74 = .ok (.aload_n 0, 1) := by decide +kernel
theorem dL_leads_75 : decode cL_leads 75 = .ok (.iconst 2, 1) := by decide +kernel
theorem dL_leads_76 : decode cL_leads 76 = .ok (.invokevirtual 39, 3) := by decide +kernel
theorem dL_leads_79 : decode cL_leads 79 = .ok (.pop, 1) := by decide +kernel
theorem dL_leads_80 : decode cL_leads 80 = .ok (.aload_n 0, 1) := by decide +kernel
theorem dL_leads_81 : decode cL_leads 81 = .ok (.iconst 2, 1) := by decide +kernel
theorem dL_leads_82 : decode cL_leads 82 = .ok (.iload_n 1, 1) := by decide +kernel
theorem dL_leads_83 : decode cL_leads 83 = .ok (.invokevirtual 43, 3) := by decide +kernel
theorem dL_leads_86 : decode cL_leads 86 = .ok (.iload 4, 2) := by decide +kernel
theorem dL_leads_88 : decode cL_leads 88 = .ok (.ifCond .eq 49, 3) := by decide +kernel
theorem dL_leads_91 : decode cL_leads 91 = .ok (.aload_n 0, 1) := by decide +kernel
theorem dL_leads_92 : decode cL_leads 92 = .ok (.iconst 2, 1) := by decide +kernel
theorem dL_leads_93 : decode cL_leads 93 = .ok (.bipush 10, 2) := by decide +kernel
theorem dL_leads_95 : decode cL_leads 95 = .ok (.iload_n 1, 1) := by decide +kernel
theorem dL_leads_96 : decode cL_leads 96 = .ok (.iadd, 1) := by decide +kernel
theorem dL_leads_97 : decode cL_leads 97 = .ok (.invokevirtual 35, 3) := by decide +kernel
theorem dL_leads_100 : decode cL_leads 100 = .ok (.ifCond .eq 37, 3) := by decide +kernel
theorem dL_leads_103 : decode cL_leads 103 = .ok (.aload_n 0, 1) := by decide +kernel
theorem dL_leads_104 : decode cL_leads 104 = .ok (.iconst 2, 1) := by decide +kernel
theorem dL_leads_105 : decode cL_leads 105 = .ok (.bipush 10, 2) := by decide +kernel
theorem dL_leads_107 : decode cL_leads 107 = .ok (.iload_n 1, 1) := by decide +kernel
theorem dL_leads_108 : decode cL_leads 108 = .ok (.iadd, 1) := by decide +kernel
theorem dL_leads_109 : decode cL_leads 109 = .ok (.bipush 10, 2) := by decide +kernel
theorem dL_leads_111 : decode cL_leads 111 = .ok (.iload_n 2, 1) := by decide +kernel
theorem dL_leads_112 : decode cL_leads 112 = .ok (.iadd, 1) := by decide +kernel
theorem dL_leads_113 : decode cL_leads 113 = .ok (.iconst 0, 1) := by decide +kernel
theorem dL_leads_114 : decode cL_leads 114 = .ok (.invokevirtual 47, 3) := by decide +kernel
theorem dL_leads_117 : decode cL_leads 117 = .ok (.iload_n 3, 1) := by decide +kernel
theorem dL_leads_118 : decode cL_leads 118 = .ok (.if_icmp .ne 19, 3) := by decide +kernel
theorem dL_leads_121 : decode cL_leads 121 = .ok (.aload_n 0, 1) := by decide +kernel
theorem dL_leads_122 : decode cL_leads 122 = .ok (.iconst 2, 1) := by decide +kernel
theorem dL_leads_123 : decode cL_leads 123 = .ok (.bipush 10, 2) := by decide +kernel
theorem dL_leads_125 : decode cL_leads 125 = .ok (.iload_n 2, 1) := by decide +kernel
theorem dL_leads_126 : decode cL_leads 126 = .ok (.iadd, 1) := by decide +kernel
theorem dL_leads_127 : decode cL_leads 127 = .ok (.invokevirtual 35, 3) := by decide +kernel
theorem dL_leads_130 : decode cL_leads 130 = .ok (.ifCond .eq 7, 3) := by decide +kernel
theorem dL_leads_133 : decode cL_leads 133 = .ok (.iconst 1, 1) := by decide +kernel
theorem dL_leads_134 : decode cL_leads 134 = .ok (.goto 4, 3) := by decide +kernel
theorem dL_leads_137 : decode cL_leads 137 = .ok (.iconst 0, 1) := by decide +kernel
theorem dL_leads_138 : decode cL_leads 138 = .ok (.istore 4, 2) := by decide +kernel
theorem dL_leads_140 : decode cL_leads 140 = .ok (.iload 4, 2) := by decide +kernel
theorem dL_leads_142 : decode cL_leads 142 = .ok (.ifCond .eq 50, 3) := by decide +kernel
theorem dL_leads_145 : decode cL_leads 145 = .ok (.aload_n 0, 1) := by decide +kernel
theorem dL_leads_146 : decode cL_leads 146 = .ok (.iconst 2, 1) := by decide +kernel
theorem dL_leads_147 : decode cL_leads 147 = .ok (.bipush 10, 2) := by decide +kernel
theorem dL_leads_149 : decode cL_leads 149 = .ok (.iload_n 1, 1) := by decide +kernel
theorem dL_leads_150 : decode cL_leads 150 = .ok (.iadd, 1) := by decide +kernel
theorem dL_leads_151 : decode cL_leads 151 = .ok (.bipush 10, 2) := by decide +kernel
theorem dL_leads_153 : decode cL_leads 153 = .ok (.iload_n 2, 1) := by decide +kernel
theorem dL_leads_154 : decode cL_leads 154 = .ok (.iadd, 1) := by decide +kernel
theorem dL_leads_155 : decode cL_leads 155 = .ok (.iconst 1, 1) := by decide +kernel
theorem dL_leads_156 : decode cL_leads 156 = .ok (.invokevirtual 47, 3) := by decide +kernel
theorem dL_leads_159 : decode cL_leads 159 = .ok (.iload_n 3, 1) := by decide +kernel
theorem dL_leads_160 : decode cL_leads 160 = .ok (.if_icmp .ne 32, 3) := by decide +kernel
theorem dL_leads_163 : decode cL_leads 163 = .ok (.aload_n 0, 1) := by decide +kernel
theorem dL_leads_164 : decode cL_leads 164 = .ok (.iconst 2, 1) := by decide +kernel
theorem dL_leads_165 : decode cL_leads 165 = .ok (.bipush 10, 2) := by decide +kernel
theorem dL_leads_167 : decode cL_leads 167 = .ok (.iload_n 1, 1) := by decide +kernel
theorem dL_leads_168 : decode cL_leads 168 = .ok (.iadd, 1) := by decide +kernel
theorem dL_leads_169 : decode cL_leads 169 = .ok (.invokevirtual 35, 3) := by decide +kernel
theorem dL_leads_172 : decode cL_leads 172 = .ok (.ifCond .eq 20, 3) := by decide +kernel
theorem dL_leads_175 : decode cL_leads 175 = .ok (.aload_n 0, 1) := by decide +kernel
theorem dL_leads_176 : decode cL_leads 176 = .ok (.iconst 2, 1) := by decide +kernel
theorem dL_leads_177 : decode cL_leads 177 = .ok (.bipush 10, 2) := by decide +kernel
theorem dL_leads_179 : decode cL_leads 179 = .ok (.iload_n 2, 1) := by decide +kernel
theorem dL_leads_180 : decode cL_leads 180 = .ok (.iadd, 1) := by decide +kernel
theorem dL_leads_181 : decode cL_leads 181 = .ok (.invokevirtual 32, 3) := by decide +kernel
theorem dL_leads_184 : decode cL_leads 184 = .ok (.iload_n 3, 1) := by decide +kernel
theorem dL_leads_185 : decode cL_leads 185 = .ok (.if_icmp .ne 7, 3) := by decide +kernel
theorem dL_leads_188 : decode cL_leads 188 = .ok (.iconst 1, 1) := by decide +kernel
theorem dL_leads_189 : decode cL_leads 189 = .ok (.goto 4, 3) := by decide +kernel
theorem dL_leads_192 : decode cL_leads 192 = .ok (.iconst 0, 1) := by decide +kernel
theorem dL_leads_193 : decode cL_leads 193 = .ok (.ireturn, 1) := by decide +kernel
theorem dL_shape_0 : decode cL_shape 0 = .ok (.aload_n 0, 1) := by decide +kernel
theorem dL_shape_1 : decode cL_shape 1 = .ok (.iload_n 1, 1) := by decide +kernel
theorem dL_shape_2 : decode cL_shape 2 = .ok (.invokevirtual 51, 3) := by decide +kernel
theorem dL_shape_5 : decode cL_shape 5 = .ok (.ifCond .lt 17, 3) := by decide +kernel
theorem dL_shape_8 : decode cL_shape 8 = .ok (.aload_n 0, 1) := by decide +kernel
theorem dL_shape_9 : decode cL_shape 9 = .ok (.iload_n 1, 1) := by decide +kernel
theorem dL_shape_10 : decode cL_shape 10 = .ok (.invokevirtual 51, 3) := by decide +kernel
theorem dL_shape_13 : decode cL_shape 13 = .ok (.bipush 8, 2) := by decide +kernel
theorem dL_shape_15 : decode cL_shape 15 = .ok (.if_icmp .gt 7, 3) := by decide +kernel
theorem dL_shape_18 : decode cL_shape 18 = .ok (.iconst 1, 1) := by decide +kernel
theorem dL_shape_19 : decode cL_shape 19 = .ok (.goto 4, 3) := by decide +kernel
theorem dL_shape_22 : decode cL_shape 22 = .ok (.iconst 0, 1) := by decide +kernel
theorem dL_shape_23 : decode cL_shape 23 = .ok (.istore_n 2, 1) := by decide +kernel
theorem dL_shape_24 : decode cL_shape 24 = .ok (.iconst 0, 1) := by decide +kernel
theorem dL_shape_25 : decode cL_shape 25 = .ok (.istore_n 3, 1) := by decide +kernel
theorem dL_shape_26 : decode cL_shape 26 = .ok (.iload_n 3, 1) := by decide +kernel
theorem dL_shape_27 : decode cL_shape 27 = .ok (.iconst 3, 1) := by decide +kernel
theorem dL_shape_28 : decode cL_shape 28 = .ok (.if_icmp .ge 152, 3) := by decide +kernel
theorem dL_shape_31 : decode cL_shape 31 = .ok (.iload_n 2, 1) := by decide +kernel
theorem dL_shape_32 : decode cL_shape 32 = .ok (.ifCond .eq 148, 3) := by decide +kernel
theorem dL_shape_35 : decode cL_shape 35 = .ok (.iconst 0, 1) := by decide +kernel
theorem dL_shape_36 : decode cL_shape 36 = .ok (.istore 4, 2) := by decide +kernel
theorem dL_shape_38 : decode cL_shape 38 = .ok (.iconst 0, 1) := by decide +kernel
theorem dL_shape_39 : decode cL_shape 39 = .ok (.istore 5, 2) := by decide +kernel
theorem dL_shape_41 : decode cL_shape 41 = .ok (.iload 5, 2) := by decide +kernel
theorem dL_shape_43 : decode cL_shape 43 = .ok (.aload_n 0, 1) := by decide +kernel
theorem dL_shape_44 : decode cL_shape 44 = .ok (.iload_n 1, 1) := by decide +kernel
theorem dL_shape_45 : decode cL_shape 45 = .ok (.iload_n 3, 1) := by decide +kernel
theorem dL_shape_46 : decode cL_shape 46 = .ok (.invokevirtual 54, 3) := by decide +kernel
theorem dL_shape_49 : decode cL_shape 49 = .ok (.if_icmp .ge 104, 3) := by decide +kernel
theorem dL_shape_52 : decode cL_shape 52 = .ok (.iload_n 2, 1) := by decide +kernel
theorem dL_shape_53 : decode cL_shape 53 = .ok (.ifCond .eq 100, 3) := by decide +kernel
theorem dL_shape_56 : decode cL_shape 56 = .ok (.aload_n 0, 1) := by decide +kernel
theorem dL_shape_57 : decode cL_shape 57 = .ok (.iload_n 1, 1) := by decide +kernel
theorem dL_shape_58 : decode cL_shape 58 = .ok (.iload_n 3, 1) := by decide +kernel
theorem dL_shape_59 : decode cL_shape 59 = .ok (.iload 5, 2) := by decide +kernel
theorem dL_shape_61 : decode cL_shape 61 = .ok (.invokevirtual 57, 3) := by decide +kernel
theorem dL_shape_64 : decode cL_shape 64 = .ok (.istore 6, 2) := by decide +kernel
theorem dL_shape_66 : decode cL_shape 66 = .ok (.aload_n 0, 1) := by decide +kernel
theorem dL_shape_67 : decode cL_shape 67 = .ok (.iload_n 1, 1) := by decide +kernel
theorem dL_shape_68 : decode cL_shape 68 = .ok (.iload_n 3, 1) := by decide +kernel
theorem dL_shape_69 : decode cL_shape 69 = .ok (.iload 5, 2) := by decide +kernel
theorem dL_shape_71 : decode cL_shape 71 = .ok (.invokevirtual 60, 3) := by decide +kernel
theorem dL_shape_74 : decode cL_shape 74 = .ok (.istore 7, 2) := by decide +kernel
theorem dL_shape_76 : decode cL_shape 76 = .ok (.iload 6, 2) := by decide +kernel
theorem dL_shape_78 : decode cL_shape 78 = .ok (.ifCond .lt 58, 3) := by decide +kernel
theorem dL_shape_81 : decode cL_shape 81 = .ok (.iload 6, 2) := by decide +kernel
theorem dL_shape_83 : decode cL_shape 83 = .ok (.bipush 9, 2) := by decide +kernel
theorem dL_shape_85 : decode cL_shape 85 = .ok (.if_icmp .gt 51, 3) := by decide +kernel
theorem dL_shape_88 : decode cL_shape 88 = .ok (.iload 4, 2) := by decide +kernel
theorem dL_shape_90 : decode cL_shape 90 = .ok (.iload 6, 2) := by decide +kernel
theorem dL_shape_92 : decode cL_shape 92 = .ok (.ishr, 1) := by decide +kernel
theorem dL_shape_93 : decode cL_shape 93 = .ok (.iconst 1, 1) := by decide +kernel
theorem dL_shape_94 : decode cL_shape 94 = .ok (.iand, 1) := by decide +kernel
theorem dL_shape_95 : decode cL_shape 95 = .ok (.ifCond .ne 41, 3) := by decide +kernel
theorem dL_shape_98 : decode cL_shape 98 = .ok (.iload 7, 2) := by decide +kernel
theorem dL_shape_100 : decode cL_shape 100 = .ok (.ifCond .lt 36, 3) := by decide +kernel
theorem dL_shape_103 : decode cL_shape 103 = .ok (.iload 7, 2) := by decide +kernel
theorem dL_shape_105 : decode cL_shape 105 = .ok (.sipush 10000, 3) := by decide +kernel
theorem dL_shape_108 : decode cL_shape 108 = .ok (.idiv, 1) := by decide +kernel
theorem dL_shape_109 : decode cL_shape 109 = .ok (.ifCond .eq 23, 3) := by decide +kernel
theorem dL_shape_112 : decode cL_shape 112 = .ok (.aload_n 0, 1) := by decide +kernel
theorem dL_shape_113 : decode cL_shape 113 = .ok (.iload_n 1, 1) := by decide +kernel
theorem dL_shape_114 : decode cL_shape 114 = .ok (.iload_n 3, 1) := by decide +kernel
theorem dL_shape_115 : decode cL_shape 115 = .ok (.iload 5, 2) := by decide +kernel
theorem dL_shape_117 : decode cL_shape 117 = .ok (.iconst 0, 1) := by decide +kernel
theorem dL_shape_118 : decode cL_shape 118 = .ok (.invokevirtual 63, 3) := by decide +kernel
theorem dL_shape_121 : decode cL_shape 121 = .ok (.iload 7, 2) := by decide +kernel
theorem dL_shape_123 : decode cL_shape 123 = .ok (.sipush 10000, 3) := by decide +kernel
theorem dL_shape_126 : decode cL_shape 126 = .ok (.idiv, 1) := by decide +kernel
theorem dL_shape_127 : decode cL_shape 127 = .ok (.iconst 1, 1) := by decide +kernel
theorem dL_shape_128 : decode cL_shape 128 = .ok (.isub, 1) := by decide +kernel
theorem dL_shape_129 : decode cL_shape 129 = .ok (.if_icmp .ne 7, 3) := by decide +kernel
theorem dL_shape_132 : decode cL_shape 132 = .ok (.iconst 1, 1) := by decide +kernel
theorem dL_shape_133 : decode cL_shape 133 = .ok (.goto 4, 3) := by decide +kernel
theorem dL_shape_136 : decode cL_shape 136 = .ok (.iconst 0, 1) := by decide +kernel
theorem dL_shape_137 : decode cL_shape 137 = .ok (.istore_n 2, 1) := by decide +kernel
theorem dL_shape_138 : decode cL_shape 138 = .ok (.iload 4, 2) := by decide +kernel
theorem dL_shape_140 : decode cL_shape 140 = .ok (.iconst 1, 1) := by decide +kernel
theorem dL_shape_141 : decode cL_shape 141 = .ok (.iload 6, 2) := by decide +kernel
theorem dL_shape_143 : decode cL_shape 143 = .ok (.ishl, 1) := by decide +kernel
theorem dL_shape_144 : decode cL_shape 144 = .ok (.ior, 1) := by decide +kernel
theorem dL_shape_145 : decode cL_shape 145 = .ok (.istore 4, 2) := by decide +kernel
theorem dL_shape_147 : decode cL_shape 147 = .ok (.iinc 5 1, 3) := by decide +kernel
theorem dL_shape_150 : decode cL_shape 150 = .ok (.goto (-109), 3) := by decide +kernel
theorem dL_shape_153 : decode cL_shape 153 = .ok (.iload_n 2, 1) := by decide +kernel
theorem dL_shape_154 : decode cL_shape 154 = .ok (.ifCond .eq 18, 3) := by decide +kernel
theorem dL_shape_157 : decode cL_shape 157 = .ok (.aload_n 0, 1) := by decide +kernel
theorem dL_shape_158 : decode cL_shape 158 = .ok (.iload_n 1, 1) := by decide +kernel
theorem dL_shape_159 : decode cL_shape 159 = .ok (.iload_n 3, 1) := by decide +kernel
theorem dL_shape_160 : decode cL_shape 160 = .ok (.invokevirtual 54, 3) := by decide +kernel
theorem dL_shape_163 : decode cL_shape 163 = .ok (.bipush 6, 2) := by decide +kernel
theorem dL_shape_165 : decode cL_shape 165 = .ok (.if_icmp .gt 7, 3) := by decide +kernel
theorem dL_shape_168 : decode cL_shape 168 = .ok (.iconst 1, 1) := by decide +kernel
theorem dL_shape_169 : decode cL_shape 169 = .ok (.goto 4, 3) := by decide +kernel
theorem dL_shape_172 : decode cL_shape 172 = .ok (.iconst 0, 1) := by decide +kernel
theorem dL_shape_173 : decode cL_shape 173 = .ok (.istore_n 2, 1) := by decide +kernel
theorem dL_shape_174 : decode cL_shape 174 = .ok (.iinc 3 1, 3) := by decide +kernel
theorem dL_shape_177 : decode cL_shape 177 = .ok (.goto (-151), 3) := by decide +kernel
theorem dL_shape_180 : decode cL_shape 180 = .ok (.iload_n 2, 1) := by decide +kernel
theorem dL_shape_181 : decode cL_shape 181 = .ok (.ireturn, 1) := by decide +kernel
theorem dL_changes_0 : decode cL_changes 0 = .ok (.iload_n 2, 1) := by decide +kernel
theorem dL_changes_1 : decode cL_changes 1 = .ok (.iconst 3, 1) := by decide +kernel
theorem dL_changes_2 : decode cL_changes 2 = .ok (.ishr, 1) := by decide +kernel
theorem dL_changes_3 : decode cL_changes 3 = .ok (.iconst 3, 1) := by decide +kernel
theorem dL_changes_4 : decode cL_changes 4 = .ok (.invokestatic 66, 3) := by decide +kernel
theorem dL_changes_7 : decode cL_changes 7 = .ok (.istore_n 3, 1) := by decide +kernel
theorem dL_changes_8 : decode cL_changes 8 = .ok (.iload_n 2, 1) := by decide +kernel
theorem dL_changes_9 : decode cL_changes 9 = .ok (.iconst 5, 1) := by decide +kernel
theorem dL_changes_10 : decode cL_changes 10 = .ok (.ishr, 1) := by decide +kernel
theorem dL_changes_11 : decode cL_changes 11 = .ok (.bipush 10, 2) := by decide +kernel
theorem dL_changes_13 : decode cL_changes 13 = .ok (.invokestatic 66, 3) := by decide +kernel
theorem dL_changes_16 : decode cL_changes 16 = .ok (.istore 4, 2) := by decide +kernel
theorem dL_changes_18 : decode cL_changes 18 = .ok (.iload_n 2, 1) := by decide +kernel
theorem dL_changes_19 : decode cL_changes 19 = .ok (.bipush 9, 2) := by decide +kernel
theorem dL_changes_21 : decode cL_changes 21 = .ok (.ishr, 1) := by decide +kernel
theorem dL_changes_22 : decode cL_changes 22 = .ok (.bipush 6, 2) := by decide +kernel
theorem dL_changes_24 : decode cL_changes 24 = .ok (.invokestatic 66, 3) := by decide +kernel
theorem dL_changes_27 : decode cL_changes 27 = .ok (.istore 5, 2) := by decide +kernel
theorem dL_changes_29 : decode cL_changes 29 = .ok (.aload_n 0, 1) := by decide +kernel
theorem dL_changes_30 : decode cL_changes 30 = .ok (.iload_n 1, 1) := by decide +kernel
theorem dL_changes_31 : decode cL_changes 31 = .ok (.iload_n 3, 1) := by decide +kernel
theorem dL_changes_32 : decode cL_changes 32 = .ok (.invokevirtual 54, 3) := by decide +kernel
theorem dL_changes_35 : decode cL_changes 35 = .ok (.istore 6, 2) := by decide +kernel
theorem dL_changes_37 : decode cL_changes 37 = .ok (.iload 5, 2) := by decide +kernel
theorem dL_changes_39 : decode cL_changes 39 = .ok (.iconst 3, 1) := by decide +kernel
theorem dL_changes_40 : decode cL_changes 40 = .ok (.if_icmp .ge 87, 3) := by decide +kernel
theorem dL_changes_43 : decode cL_changes 43 = .ok (.aload_n 0, 1) := by decide +kernel
theorem dL_changes_44 : decode cL_changes 44 = .ok (.iload_n 1, 1) := by decide +kernel
theorem dL_changes_45 : decode cL_changes 45 = .ok (.iload_n 3, 1) := by decide +kernel
theorem dL_changes_46 : decode cL_changes 46 = .ok (.iload 4, 2) := by decide +kernel
theorem dL_changes_48 : decode cL_changes 48 = .ok (.iload_n 2, 1) := by decide +kernel
theorem dL_changes_49 : decode cL_changes 49 = .ok (.bipush 12, 2) := by decide +kernel
theorem dL_changes_51 : decode cL_changes 51 = .ok (.ishr, 1) := by decide +kernel
theorem dL_changes_52 : decode cL_changes 52 = .ok (.iload 6, 2) := by decide +kernel
theorem dL_changes_54 : decode cL_changes 54 = .ok (.iconst 1, 1) := by decide +kernel
theorem dL_changes_55 : decode cL_changes 55 = .ok (.iadd, 1) := by decide +kernel
theorem dL_changes_56 : decode cL_changes 56 = .ok (.invokestatic 66, 3) := by decide +kernel
theorem dL_changes_59 : decode cL_changes 59 = .ok (.invokestatic 71, 3) := by decide +kernel
theorem dL_changes_62 : decode cL_changes 62 = .ok (.istore 7, 2) := by decide +kernel
theorem dL_changes_64 : decode cL_changes 64 = .ok (.iload 7, 2) := by decide +kernel
theorem dL_changes_66 : decode cL_changes 66 = .ok (.bipush (-3), 2) := by decide +kernel
theorem dL_changes_68 : decode cL_changes 68 = .ok (.if_icmp .ne 22, 3) := by decide +kernel
theorem dL_changes_71 : decode cL_changes 71 = .ok (.aload_n 0, 1) := by decide +kernel
theorem dL_changes_72 : decode cL_changes 72 = .ok (.iload_n 1, 1) := by decide +kernel
theorem dL_changes_73 : decode cL_changes 73 = .ok (.iload_n 3, 1) := by decide +kernel
theorem dL_changes_74 : decode cL_changes 74 = .ok (.invokevirtual 54, 3) := by decide +kernel
theorem dL_changes_77 : decode cL_changes 77 = .ok (.iload 6, 2) := by decide +kernel
theorem dL_changes_79 : decode cL_changes 79 = .ok (.if_icmp .ne 7, 3) := by decide +kernel
theorem dL_changes_82 : decode cL_changes 82 = .ok (.iconst 1, 1) := by decide +kernel
theorem dL_changes_83 : decode cL_changes 83 = .ok (.goto 43, 3) := by decide +kernel
theorem dL_changes_86 : decode cL_changes 86 = .ok (.iconst 0, 1) := by decide +kernel
theorem dL_changes_87 : decode cL_changes 87 = .ok (.goto 39, 3) := by decide +kernel
theorem dL_changes_90 : decode cL_changes 90 = .ok (.iload 7, 2) := by decide +kernel
theorem dL_changes_92 : decode cL_changes 92 = .ok (.iload 6, 2) := by decide +kernel
theorem dL_changes_94 : decode cL_changes 94 = .ok (.iconst 1, 1) := by decide +kernel
theorem dL_changes_95 : decode cL_changes 95 = .ok (.iadd, 1) := by decide +kernel
theorem dL_changes_96 : decode cL_changes 96 = .ok (.if_icmp .ne 29, 3) := by decide +kernel
theorem dL_changes_99 : decode cL_changes 99 = .ok (.aload_n 0, 1) := by decide +kernel
theorem dL_changes_100 : decode cL_changes 100 = .ok (.iload_n 1, 1) := by decide +kernel
theorem dL_changes_101 : decode cL_changes 101 = .ok (.iload_n 3, 1) := by decide +kernel
theorem dL_changes_102 : decode cL_changes 102 = .ok (.iload_n 2, 1) := by decide +kernel
theorem dL_changes_103 : decode cL_changes 103 = .ok (.bipush 12, 2) := by decide +kernel
theorem dL_changes_105 : decode cL_changes 105 = .ok (.ishr, 1) := by decide +kernel
theorem dL_changes_106 : decode cL_changes 106 = .ok (.iload 6, 2) := by decide +kernel
theorem dL_changes_108 : decode cL_changes 108 = .ok (.iconst 1, 1) := by decide +kernel
theorem dL_changes_109 : decode cL_changes 109 = .ok (.iadd, 1) := by decide +kernel
theorem dL_changes_110 : decode cL_changes 110 = .ok (.invokestatic 66, 3) := by decide +kernel
theorem dL_changes_113 : decode cL_changes 113 = .ok (.invokevirtual 57, 3) := by decide +kernel
theorem dL_changes_116 : decode cL_changes 116 = .ok (.iload 4, 2) := by decide +kernel
theorem dL_changes_118 : decode cL_changes 118 = .ok (.if_icmp .ne 7, 3) := by decide +kernel
theorem dL_changes_121 : decode cL_changes 121 = .ok (.iconst 1, 1) := by decide +kernel
theorem dL_changes_122 : decode cL_changes 122 = .ok (.goto 4, 3) := by decide +kernel
theorem dL_changes_125 : decode cL_changes 125 = .ok (.iconst 0, 1) := by decide +kernel
theorem dL_changes_126 : decode cL_changes 126 = .ok (.ireturn, 1) := by decide +kernel
theorem dL_changes_127 : decode cL_changes 127 = .ok (.iload 5, 2) := by decide +kernel
theorem dL_changes_129 : decode cL_changes 129 = .ok (.iconst 4, 1) := by decide +kernel
theorem dL_changes_130 : decode cL_changes 130 = .ok (.if_icmp .ge 65, 3) := by decide +kernel
theorem dL_changes_133 : decode cL_changes 133 = .ok (.aload_n 0, 1) := by decide +kernel
theorem dL_changes_134 : decode cL_changes 134 = .ok (.iload_n 1, 1) := by decide +kernel
theorem dL_changes_135 : decode cL_changes 135 = .ok (.iload_n 3, 1) := by decide +kernel
theorem dL_changes_136 : decode cL_changes 136 = .ok (.iload 4, 2) := by decide +kernel
theorem dL_changes_138 : decode cL_changes 138 = .ok (.invokestatic 74, 3) := by decide +kernel
theorem dL_changes_141 : decode cL_changes 141 = .ok (.istore 7, 2) := by decide +kernel
theorem dL_changes_143 : decode cL_changes 143 = .ok (.iload 7, 2) := by decide +kernel
theorem dL_changes_145 : decode cL_changes 145 = .ok (.bipush (-3), 2) := by decide +kernel
theorem dL_changes_147 : decode cL_changes 147 = .ok (.if_icmp .ne 22, 3) := by decide +kernel
theorem dL_changes_150 : decode cL_changes 150 = .ok (.aload_n 0, 1) := by decide +kernel
theorem dL_changes_151 : decode cL_changes 151 = .ok (.iload_n 1, 1) := by decide +kernel
theorem dL_changes_152 : decode cL_changes 152 = .ok (.iload_n 3, 1) := by decide +kernel
theorem dL_changes_153 : decode cL_changes 153 = .ok (.invokevirtual 54, 3) := by decide +kernel
theorem dL_changes_156 : decode cL_changes 156 = .ok (.iload 6, 2) := by decide +kernel
theorem dL_changes_158 : decode cL_changes 158 = .ok (.if_icmp .ne 7, 3) := by decide +kernel
theorem dL_changes_161 : decode cL_changes 161 = .ok (.iconst 1, 1) := by decide +kernel
theorem dL_changes_162 : decode cL_changes 162 = .ok (.goto 32, 3) := by decide +kernel
theorem dL_changes_165 : decode cL_changes 165 = .ok (.iconst 0, 1) := by decide +kernel
theorem dL_changes_166 : decode cL_changes 166 = .ok (.goto 28, 3) := by decide +kernel
theorem dL_changes_169 : decode cL_changes 169 = .ok (.iload 7, 2) := by decide +kernel
theorem dL_changes_171 : decode cL_changes 171 = .ok (.iload 6, 2) := by decide +kernel
theorem dL_changes_173 : decode cL_changes 173 = .ok (.if_icmp .ge 20, 3) := by decide +kernel
theorem dL_changes_176 : decode cL_changes 176 = .ok (.aload_n 0, 1) := by decide +kernel
theorem dL_changes_177 : decode cL_changes 177 = .ok (.iload_n 1, 1) := by decide +kernel
theorem dL_changes_178 : decode cL_changes 178 = .ok (.iload_n 3, 1) := by decide +kernel
theorem dL_changes_179 : decode cL_changes 179 = .ok (.invokevirtual 54, 3) := by decide +kernel
theorem dL_changes_182 : decode cL_changes 182 = .ok (.iload 6, 2) := by decide +kernel
theorem dL_changes_184 : decode cL_changes 184 = .ok (.iconst 1, 1) := by decide +kernel
theorem dL_changes_185 : decode cL_changes 185 = .ok (.isub, 1) := by decide +kernel
theorem dL_changes_186 : decode cL_changes 186 = .ok (.if_icmp .ne 7, 3) := by decide +kernel
theorem dL_changes_189 : decode cL_changes 189 = .ok (.iconst 1, 1) := by decide +kernel
theorem dL_changes_190 : decode cL_changes 190 = .ok (.goto 4, 3) := by decide +kernel
theorem dL_changes_193 : decode cL_changes 193 = .ok (.iconst 0, 1) := by decide +kernel
theorem dL_changes_194 : decode cL_changes 194 = .ok (.ireturn, 1) := by decide +kernel
theorem dL_changes_195 : decode cL_changes 195 = .ok (.iload 5, 2) := by decide +kernel
theorem dL_changes_197 : decode cL_changes 197 = .ok (.iconst 5, 1) := by decide +kernel
theorem dL_changes_198 : decode cL_changes 198 = .ok (.if_icmp .ge 72, 3) := by decide +kernel
theorem dL_changes_201 : decode cL_changes 201 = .ok (.iload_n 2, 1) := by decide +kernel
theorem dL_changes_202 : decode cL_changes 202 = .ok (.bipush 12, 2) := by decide +kernel
theorem dL_changes_204 : decode cL_changes 204 = .ok (.ishr, 1) := by decide +kernel
theorem dL_changes_205 : decode cL_changes 205 = .ok (.bipush 101, 2) := by decide +kernel
theorem dL_changes_207 : decode cL_changes 207 = .ok (.invokestatic 66, 3) := by decide +kernel
theorem dL_changes_210 : decode cL_changes 210 = .ok (.iconst 1, 1) := by decide +kernel
theorem dL_changes_211 : decode cL_changes 211 = .ok (.isub, 1) := by decide +kernel
theorem dL_changes_212 : decode cL_changes 212 = .ok (.istore 7, 2) := by decide +kernel
theorem dL_changes_214 : decode cL_changes 214 = .ok (.aload_n 0, 1) := by decide +kernel
theorem dL_changes_215 : decode cL_changes 215 = .ok (.iload_n 1, 1) := by decide +kernel
theorem dL_changes_216 : decode cL_changes 216 = .ok (.iload_n 3, 1) := by decide +kernel
theorem dL_changes_217 : decode cL_changes 217 = .ok (.iload 4, 2) := by decide +kernel
theorem dL_changes_219 : decode cL_changes 219 = .ok (.iload_n 2, 1) := by decide +kernel
theorem dL_changes_220 : decode cL_changes 220 = .ok (.iconst 2, 1) := by decide +kernel
theorem dL_changes_221 : decode cL_changes 221 = .ok (.invokestatic 66, 3) := by decide +kernel
theorem dL_changes_224 : decode cL_changes 224 = .ok (.iload 7, 2) := by decide +kernel
theorem dL_changes_226 : decode cL_changes 226 = .ok (.invokestatic 77, 3) := by decide +kernel
theorem dL_changes_229 : decode cL_changes 229 = .ok (.istore 8, 2) := by decide +kernel
theorem dL_changes_231 : decode cL_changes 231 = .ok (.iload 8, 2) := by decide +kernel
theorem dL_changes_233 : decode cL_changes 233 = .ok (.bipush (-3), 2) := by decide +kernel
theorem dL_changes_235 : decode cL_changes 235 = .ok (.if_icmp .eq 29, 3) := by decide +kernel
theorem dL_changes_238 : decode cL_changes 238 = .ok (.iload 8, 2) := by decide +kernel
theorem dL_changes_240 : decode cL_changes 240 = .ok (.iconst (-1), 1) := by decide +kernel
theorem dL_changes_241 : decode cL_changes 241 = .ok (.if_icmp .lt 27, 3) := by decide +kernel
theorem dL_changes_244 : decode cL_changes 244 = .ok (.aload_n 0, 1) := by decide +kernel
theorem dL_changes_245 : decode cL_changes 245 = .ok (.iload_n 1, 1) := by decide +kernel
theorem dL_changes_246 : decode cL_changes 246 = .ok (.iload_n 3, 1) := by decide +kernel
theorem dL_changes_247 : decode cL_changes 247 = .ok (.iload 4, 2) := by decide +kernel
theorem dL_changes_249 : decode cL_changes 249 = .ok (.iload_n 2, 1) := by decide +kernel
theorem dL_changes_250 : decode cL_changes 250 = .ok (.iconst 2, 1) := by decide +kernel
theorem dL_changes_251 : decode cL_changes 251 = .ok (.invokestatic 66, 3) := by decide +kernel
theorem dL_changes_254 : decode cL_changes 254 = .ok (.iload 7, 2) := by decide +kernel
theorem dL_changes_256 : decode cL_changes 256 = .ok (.invokestatic 77, 3) := by decide +kernel
theorem dL_changes_259 : decode cL_changes 259 = .ok (.iload 7, 2) := by decide +kernel
theorem dL_changes_261 : decode cL_changes 261 = .ok (.if_icmp .ne 7, 3) := by decide +kernel
theorem dL_changes_264 : decode cL_changes 264 = .ok (.iconst 1, 1) := by decide +kernel
theorem dL_changes_265 : decode cL_changes 265 = .ok (.goto 4, 3) := by decide +kernel
theorem dL_changes_268 : decode cL_changes 268 = .ok (.iconst 0, 1) := by decide +kernel
theorem dL_changes_269 : decode cL_changes 269 = .ok (.ireturn, 1) := by decide +kernel
theorem dL_changes_270 : decode cL_changes 270 = .ok (.iload_n 2, 1) := by decide +kernel
theorem dL_changes_271 : decode cL_changes 271 = .ok (.bipush 12, 2) := by decide +kernel
theorem dL_changes_273 : decode cL_changes 273 = .ok (.ishr, 1) := by decide +kernel
theorem dL_changes_274 : decode cL_changes 274 = .ok (.iconst 4, 1) := by decide +kernel
theorem dL_changes_275 : decode cL_changes 275 = .ok (.invokestatic 66, 3) := by decide +kernel
theorem dL_changes_278 : decode cL_changes 278 = .ok (.iconst 1, 1) := by decide +kernel
theorem dL_changes_279 : decode cL_changes 279 = .ok (.isub, 1) := by decide +kernel
theorem dL_changes_280 : decode cL_changes 280 = .ok (.istore 7, 2) := by decide +kernel
theorem dL_changes_282 : decode cL_changes 282 = .ok (.aload_n 0, 1) := by decide +kernel
theorem dL_changes_283 : decode cL_changes 283 = .ok (.iload_n 1, 1) := by decide +kernel
theorem dL_changes_284 : decode cL_changes 284 = .ok (.iload_n 3, 1) := by decide +kernel
theorem dL_changes_285 : decode cL_changes 285 = .ok (.iload 4, 2) := by decide +kernel
theorem dL_changes_287 : decode cL_changes 287 = .ok (.iload 7, 2) := by decide +kernel
theorem dL_changes_289 : decode cL_changes 289 = .ok (.invokestatic 80, 3) := by decide +kernel
theorem dL_changes_292 : decode cL_changes 292 = .ok (.istore 8, 2) := by decide +kernel
theorem dL_changes_294 : decode cL_changes 294 = .ok (.aload_n 0, 1) := by decide +kernel
theorem dL_changes_295 : decode cL_changes 295 = .ok (.iload_n 1, 1) := by decide +kernel
theorem dL_changes_296 : decode cL_changes 296 = .ok (.iload_n 2, 1) := by decide +kernel
theorem dL_changes_297 : decode cL_changes 297 = .ok (.bipush 14, 2) := by decide +kernel
theorem dL_changes_299 : decode cL_changes 299 = .ok (.ishr, 1) := by decide +kernel
theorem dL_changes_300 : decode cL_changes 300 = .ok (.iconst 3, 1) := by decide +kernel
theorem dL_changes_301 : decode cL_changes 301 = .ok (.invokestatic 66, 3) := by decide +kernel
theorem dL_changes_304 : decode cL_changes 304 = .ok (.iload_n 2, 1) := by decide +kernel
theorem dL_changes_305 : decode cL_changes 305 = .ok (.iconst 2, 1) := by decide +kernel
theorem dL_changes_306 : decode cL_changes 306 = .ok (.invokestatic 66, 3) := by decide +kernel
theorem dL_changes_309 : decode cL_changes 309 = .ok (.iload_n 2, 1) := by decide +kernel
theorem dL_changes_310 : decode cL_changes 310 = .ok (.iconst 4, 1) := by decide +kernel
theorem dL_changes_311 : decode cL_changes 311 = .ok (.ishr, 1) := by decide +kernel
theorem dL_changes_312 : decode cL_changes 312 = .ok (.bipush 101, 2) := by decide +kernel
theorem dL_changes_314 : decode cL_changes 314 = .ok (.invokestatic 66, 3) := by decide +kernel
theorem dL_changes_317 : decode cL_changes 317 = .ok (.iconst 1, 1) := by decide +kernel
theorem dL_changes_318 : decode cL_changes 318 = .ok (.isub, 1) := by decide +kernel
theorem dL_changes_319 : decode cL_changes 319 = .ok (.invokevirtual 82, 3) := by decide +kernel
theorem dL_changes_322 : decode cL_changes 322 = .ok (.pop, 1) := by decide +kernel
theorem dL_changes_323 : decode cL_changes 323 = .ok (.iload 8, 2) := by decide +kernel
theorem dL_changes_325 : decode cL_changes 325 = .ok (.bipush (-3), 2) := by decide +kernel
theorem dL_changes_327 : decode cL_changes 327 = .ok (.if_icmp .eq 18, 3) := by decide +kernel
theorem dL_changes_330 : decode cL_changes 330 = .ok (.aload_n 0, 1) := by decide +kernel
theorem dL_changes_331 : decode cL_changes 331 = .ok (.iload_n 1, 1) := by decide +kernel
theorem dL_changes_332 : decode cL_changes 332 = .ok (.iload_n 3, 1) := by decide +kernel
theorem dL_changes_333 : decode cL_changes 333 = .ok (.iload 4, 2) := by decide +kernel
theorem dL_changes_335 : decode cL_changes 335 = .ok (.iload 7, 2) := by decide +kernel
theorem dL_changes_337 : decode cL_changes 337 = .ok (.invokestatic 80, 3) := by decide +kernel
theorem dL_changes_340 : decode cL_changes 340 = .ok (.iload 7, 2) := by decide +kernel
theorem dL_changes_342 : decode cL_changes 342 = .ok (.if_icmp .ne 7, 3) := by decide +kernel
theorem dL_changes_345 : decode cL_changes 345 = .ok (.iconst 1, 1) := by decide +kernel
theorem dL_changes_346 : decode cL_changes 346 = .ok (.goto 4, 3) := by decide +kernel
theorem dL_changes_349 : decode cL_changes 349 = .ok (.iconst 0, 1) := by decide +kernel
theorem dL_changes_350 : decode cL_changes 350 = .ok (.ireturn, 1) := by decide +kernel
