theorem d_R_badFlags_105 : decode b_R_badFlags 105 = .ok (.iconst 1, 1) := by decide +kernel
theorem d_R_badFlags_106 : decode b_R_badFlags 106 = .ok (.goto 4, 3) := by decide +kernel
theorem d_R_badFlags_109 : decode b_R_badFlags 109 = .ok (.iconst 0, 1) := by decide +kernel
theorem d_R_badFlags_110 : decode b_R_badFlags 110 = .ok (.ireturn, 1) := by decide +kernel
theorem d_R_member_0 : decode b_R_member 0 = .ok (.iload_n 1, 1) := by decide +kernel
theorem d_R_member_1 : decode b_R_member 1 = .ok (.iload_n 2, 1) := by decide +kernel
theorem d_R_member_2 : decode b_R_member 2 = .ok (.invokestatic 63, 3) := by decide +kernel
theorem d_R_member_5 : decode b_R_member 5 = .ok (.ifCond .ne 22, 3) := by decide +kernel
theorem d_R_member_8 : decode b_R_member 8 = .ok (.iload_n 3, 1) := by decide +kernel
theorem d_R_member_9 : decode b_R_member 9 = .ok (.iload 4, 2) := by decide +kernel
theorem d_R_member_11 : decode b_R_member 11 = .ok (.invokestatic 69, 3) := by decide +kernel
theorem d_R_member_14 : decode b_R_member 14 = .ok (.ifCond .ne 13, 3) := by decide +kernel
theorem d_R_member_17 : decode b_R_member 17 = .ok (.iload 5, 2) := by decide +kernel
theorem d_R_member_19 : decode b_R_member 19 = .ok (.bipush 31, 2) := by decide +kernel
theorem d_R_member_21 : decode b_R_member 21 = .ok (.invokestatic 59, 3) := by decide +kernel
theorem d_R_member_24 : decode b_R_member 24 = .ok (.ifCond .eq 5, 3) := by decide +kernel
theorem d_R_member_27 : decode b_R_member 27 = .ok (.iconst (-1), 1) := by decide +kernel
theorem d_R_member_28 : decode b_R_member 28 = .ok (.ireturn, 1) := by decide +kernel
theorem d_R_member_29 : decode b_R_member 29 = .ok (.bipush 12, 2) := by decide +kernel
theorem d_R_member_31 : decode b_R_member 31 = .ok (.iload_n 1, 1) := by decide +kernel
theorem d_R_member_32 : decode b_R_member 32 = .ok (.imul, 1) := by decide +kernel
theorem d_R_member_33 : decode b_R_member 33 = .ok (.iload_n 2, 1) := by decide +kernel
theorem d_R_member_34 : decode b_R_member 34 = .ok (.iadd, 1) := by decide +kernel
theorem d_R_member_35 : decode b_R_member 35 = .ok (.istore 6, 2) := by decide +kernel
theorem d_R_member_37 : decode b_R_member 37 = .ok (.aload_n 0, 1) := by decide +kernel
theorem d_R_member_38 : decode b_R_member 38 = .ok (.getfield 7, 3) := by decide +kernel
theorem d_R_member_41 : decode b_R_member 41 = .ok (.iload 6, 2) := by decide +kernel
theorem d_R_member_43 : decode b_R_member 43 = .ok (.baload, 1) := by decide +kernel
theorem d_R_member_44 : decode b_R_member 44 = .ok (.ifCond .eq 52, 3) := by decide +kernel
theorem d_R_member_47 : decode b_R_member 47 = .ok (.aload_n 0, 1) := by decide +kernel
theorem d_R_member_48 : decode b_R_member 48 = .ok (.getfield 29, 3) := by decide +kernel
theorem d_R_member_51 : decode b_R_member 51 = .ok (.iload 6, 2) := by decide +kernel
theorem d_R_member_53 : decode b_R_member 53 = .ok (.iaload, 1) := by decide +kernel
theorem d_R_member_54 : decode b_R_member 54 = .ok (.bipush 8, 2) := by decide +kernel
theorem d_R_member_56 : decode b_R_member 56 = .ok (.if_icmp .eq 40, 3) := by decide +kernel
theorem d_R_member_59 : decode b_R_member 59 = .ok (.aload_n 0, 1) := by decide +kernel
theorem d_R_member_60 : decode b_R_member 60 = .ok (.iload 6, 2) := by decide +kernel
theorem d_R_member_62 : decode b_R_member 62 = .ok (.iload_n 3, 1) := by decide +kernel
theorem d_R_member_63 : decode b_R_member 63 = .ok (.iload 4, 2) := by decide +kernel
theorem d_R_member_65 : decode b_R_member 65 = .ok (.invokevirtual 72, 3) := by decide +kernel
theorem d_R_member_68 : decode b_R_member 68 = .ok (.ifCond .ge 28, 3) := by decide +kernel
theorem d_R_member_71 : decode b_R_member 71 = .ok (.aload_n 0, 1) := by decide +kernel
theorem d_R_member_72 : decode b_R_member 72 = .ok (.getfield 13, 3) := by decide +kernel
theorem d_R_member_75 : decode b_R_member 75 = .ok (.iload 6, 2) := by decide +kernel
theorem d_R_member_77 : decode b_R_member 77 = .ok (.iaload, 1) := by decide +kernel
theorem d_R_member_78 : decode b_R_member 78 = .ok (.iconst 1, 1) := by decide +kernel
theorem d_R_member_79 : decode b_R_member 79 = .ok (.if_icmp .ne 7, 3) := by decide +kernel
theorem d_R_member_82 : decode b_R_member 82 = .ok (.iconst 1, 1) := by decide +kernel
theorem d_R_member_83 : decode b_R_member 83 = .ok (.goto 4, 3) := by decide +kernel
theorem d_R_member_86 : decode b_R_member 86 = .ok (.iconst 0, 1) := by decide +kernel
theorem d_R_member_87 : decode b_R_member 87 = .ok (.iload_n 3, 1) := by decide +kernel
theorem d_R_member_88 : decode b_R_member 88 = .ok (.iload 5, 2) := by decide +kernel
theorem d_R_member_90 : decode b_R_member 90 = .ok (.invokestatic 76, 3) := by decide +kernel
theorem d_R_member_93 : decode b_R_member 93 = .ok (.ifCond .eq 5, 3) := by decide +kernel
theorem d_R_member_96 : decode b_R_member 96 = .ok (.iconst (-1), 1) := by decide +kernel
theorem d_R_member_97 : decode b_R_member 97 = .ok (.ireturn, 1) := by decide +kernel
theorem d_R_member_98 : decode b_R_member 98 = .ok (.bipush 8, 2) := by decide +kernel
theorem d_R_member_100 : decode b_R_member 100 = .ok (.iload 6, 2) := by decide +kernel
theorem d_R_member_102 : decode b_R_member 102 = .ok (.imul, 1) := by decide +kernel
theorem d_R_member_103 : decode b_R_member 103 = .ok (.aload_n 0, 1) := by decide +kernel
theorem d_R_member_104 : decode b_R_member 104 = .ok (.getfield 29, 3) := by decide +kernel
theorem d_R_member_107 : decode b_R_member 107 = .ok (.iload 6, 2) := by decide +kernel
theorem d_R_member_109 : decode b_R_member 109 = .ok (.iaload, 1) := by decide +kernel
theorem d_R_member_110 : decode b_R_member 110 = .ok (.iadd, 1) := by decide +kernel
theorem d_R_member_111 : decode b_R_member 111 = .ok (.istore 7, 2) := by decide +kernel
theorem d_R_member_113 : decode b_R_member 113 = .ok (.aload_n 0, 1) := by decide +kernel
theorem d_R_member_114 : decode b_R_member 114 = .ok (.getfield 32, 3) := by decide +kernel
theorem d_R_member_117 : decode b_R_member 117 = .ok (.iload 7, 2) := by decide +kernel
theorem d_R_member_119 : decode b_R_member 119 = .ok (.iload_n 3, 1) := by decide +kernel
theorem d_R_member_120 : decode b_R_member 120 = .ok (.iastore, 1) := by decide +kernel
theorem d_R_member_121 : decode b_R_member 121 = .ok (.aload_n 0, 1) := by decide +kernel
theorem d_R_member_122 : decode b_R_member 122 = .ok (.getfield 35, 3) := by decide +kernel
theorem d_R_member_125 : decode b_R_member 125 = .ok (.iload 7, 2) := by decide +kernel
theorem d_R_member_127 : decode b_R_member 127 = .ok (.iload 4, 2) := by decide +kernel
theorem d_R_member_129 : decode b_R_member 129 = .ok (.iastore, 1) := by decide +kernel
theorem d_R_member_130 : decode b_R_member 130 = .ok (.aload_n 0, 1) := by decide +kernel
theorem d_R_member_131 : decode b_R_member 131 = .ok (.getfield 38, 3) := by decide +kernel
theorem d_R_member_134 : decode b_R_member 134 = .ok (.iload 7, 2) := by decide +kernel
theorem d_R_member_136 : decode b_R_member 136 = .ok (.iload 5, 2) := by decide +kernel
theorem d_R_member_138 : decode b_R_member 138 = .ok (.iastore, 1) := by decide +kernel
theorem d_R_member_139 : decode b_R_member 139 = .ok (.aload_n 0, 1) := by decide +kernel
theorem d_R_member_140 : decode b_R_member 140 = .ok (.getfield 41, 3) := by decide +kernel
theorem d_R_member_143 : decode b_R_member 143 = .ok (.iload 7, 2) := by decide +kernel
theorem d_R_member_145 : decode b_R_member 145 = .ok (.iconst 0, 1) := by decide +kernel
theorem d_R_member_146 : decode b_R_member 146 = .ok (.bastore, 1) := by decide +kernel
theorem d_R_member_147 : decode b_R_member 147 = .ok (.aload_n 0, 1) := by decide +kernel
theorem d_R_member_148 : decode b_R_member 148 = .ok (.getfield 29, 3) := by decide +kernel
theorem d_R_member_151 : decode b_R_member 151 = .ok (.iload 6, 2) := by decide +kernel
theorem d_R_member_153 : decode b_R_member 153 = .ok (.dup2, 1) := by decide +kernel
theorem d_R_member_154 : decode b_R_member 154 = .ok (.iaload, 1) := by decide +kernel
theorem d_R_member_155 : decode b_R_member 155 = .ok (.iconst 1, 1) := by decide +kernel
theorem d_R_member_156 : decode b_R_member 156 = .ok (.iadd, 1) := by decide +kernel
theorem d_R_member_157 : decode b_R_member 157 = .ok (.iastore, 1) := by decide +kernel
theorem d_R_member_158 : decode b_R_member 158 = .ok (.aload_n 0, 1) := by decide +kernel
theorem d_R_member_159 : decode b_R_member 159 = .ok (.getfield 29, 3) := by decide +kernel
theorem d_R_member_162 : decode b_R_member 162 = .ok (.iload 6, 2) := by decide +kernel
theorem d_R_member_164 : decode b_R_member 164 = .ok (.iaload, 1) := by decide +kernel
theorem d_R_member_165 : decode b_R_member 165 = .ok (.iconst 1, 1) := by decide +kernel
theorem d_R_member_166 : decode b_R_member 166 = .ok (.isub, 1) := by decide +kernel
theorem d_R_member_167 : decode b_R_member 167 = .ok (.ireturn, 1) := by decide +kernel
theorem d_R_cell_0 : decode b_R_cell 0 = .ok (.iload_n 1, 1) := by decide +kernel
theorem d_R_cell_1 : decode b_R_cell 1 = .ok (.iload_n 2, 1) := by decide +kernel
theorem d_R_cell_2 : decode b_R_cell 2 = .ok (.invokestatic 63, 3) := by decide +kernel
theorem d_R_cell_5 : decode b_R_cell 5 = .ok (.ifCond .eq 5, 3) := by decide +kernel
theorem d_R_cell_8 : decode b_R_cell 8 = .ok (.iconst (-1), 1) := by decide +kernel
theorem d_R_cell_9 : decode b_R_cell 9 = .ok (.ireturn, 1) := by decide +kernel
theorem d_R_cell_10 : decode b_R_cell 10 = .ok (.bipush 12, 2) := by decide +kernel
theorem d_R_cell_12 : decode b_R_cell 12 = .ok (.iload_n 1, 1) := by decide +kernel
theorem d_R_cell_13 : decode b_R_cell 13 = .ok (.imul, 1) := by decide +kernel
theorem d_R_cell_14 : decode b_R_cell 14 = .ok (.iload_n 2, 1) := by decide +kernel
theorem d_R_cell_15 : decode b_R_cell 15 = .ok (.iadd, 1) := by decide +kernel
theorem d_R_cell_16 : decode b_R_cell 16 = .ok (.istore 4, 2) := by decide +kernel
theorem d_R_cell_18 : decode b_R_cell 18 = .ok (.aload_n 0, 1) := by decide +kernel
theorem d_R_cell_19 : decode b_R_cell 19 = .ok (.getfield 7, 3) := by decide +kernel
theorem d_R_cell_22 : decode b_R_cell 22 = .ok (.iload 4, 2) := by decide +kernel
theorem d_R_cell_24 : decode b_R_cell 24 = .ok (.baload, 1) := by decide +kernel
theorem d_R_cell_25 : decode b_R_cell 25 = .ok (.ifCond .eq 19, 3) := by decide +kernel
theorem d_R_cell_28 : decode b_R_cell 28 = .ok (.iload_n 3, 1) := by decide +kernel
theorem d_R_cell_29 : decode b_R_cell 29 = .ok (.aload_n 0, 1) := by decide +kernel
theorem d_R_cell_30 : decode b_R_cell 30 = .ok (.getfield 29, 3) := by decide +kernel
theorem d_R_cell_33 : decode b_R_cell 33 = .ok (.iload 4, 2) := by decide +kernel
theorem d_R_cell_35 : decode b_R_cell 35 = .ok (.iaload, 1) := by decide +kernel
theorem d_R_cell_36 : decode b_R_cell 36 = .ok (.iconst 1, 1) := by decide +kernel
theorem d_R_cell_37 : decode b_R_cell 37 = .ok (.isub, 1) := by decide +kernel
theorem d_R_cell_38 : decode b_R_cell 38 = .ok (.invokestatic 59, 3) := by decide +kernel
theorem d_R_cell_41 : decode b_R_cell 41 = .ok (.ifCond .eq 7, 3) := by decide +kernel
theorem d_R_cell_44 : decode b_R_cell 44 = .ok (.iconst (-1), 1) := by decide +kernel
theorem d_R_cell_45 : decode b_R_cell 45 = .ok (.goto 10, 3) := by decide +kernel
theorem d_R_cell_48 : decode b_R_cell 48 = .ok (.bipush 8, 2) := by decide +kernel
theorem d_R_cell_50 : decode b_R_cell 50 = .ok (.iload 4, 2) := by decide +kernel
theorem d_R_cell_52 : decode b_R_cell 52 = .ok (.imul, 1) := by decide +kernel
theorem d_R_cell_53 : decode b_R_cell 53 = .ok (.iload_n 3, 1) := by decide +kernel
theorem d_R_cell_54 : decode b_R_cell 54 = .ok (.iadd, 1) := by decide +kernel
theorem d_R_cell_55 : decode b_R_cell 55 = .ok (.ireturn, 1) := by decide +kernel
theorem d_R_constant_0 : decode b_R_constant 0 = .ok (.aload_n 0, 1) := by decide +kernel
theorem d_R_constant_1 : decode b_R_constant 1 = .ok (.iload_n 1, 1) := by decide +kernel
theorem d_R_constant_2 : decode b_R_constant 2 = .ok (.iload_n 2, 1) := by decide +kernel
theorem d_R_constant_3 : decode b_R_constant 3 = .ok (.iload_n 3, 1) := by decide +kernel
theorem d_R_constant_4 : decode b_R_constant 4 = .ok (.invokevirtual 80, 3) := by decide +kernel
theorem d_R_constant_7 : decode b_R_constant 7 = .ok (.istore 5, 2) := by decide +kernel
theorem d_R_constant_9 : decode b_R_constant 9 = .ok (.iload 5, 2) := by decide +kernel
theorem d_R_constant_11 : decode b_R_constant 11 = .ok (.ifCond .lt 13, 3) := by decide +kernel
theorem d_R_constant_14 : decode b_R_constant 14 = .ok (.aload_n 0, 1) := by decide +kernel
theorem d_R_constant_15 : decode b_R_constant 15 = .ok (.getfield 32, 3) := by decide +kernel
theorem d_R_constant_18 : decode b_R_constant 18 = .ok (.iload 5, 2) := by decide +kernel
theorem d_R_constant_20 : decode b_R_constant 20 = .ok (.iaload, 1) := by decide +kernel
theorem d_R_constant_21 : decode b_R_constant 21 = .ok (.ifCond .eq 5, 3) := by decide +kernel
theorem d_R_constant_24 : decode b_R_constant 24 = .ok (.iconst (-1), 1) := by decide +kernel
theorem d_R_constant_25 : decode b_R_constant 25 = .ok (.ireturn, 1) := by decide +kernel
theorem d_R_constant_26 : decode b_R_constant 26 = .ok (.aload_n 0, 1) := by decide +kernel
theorem d_R_constant_27 : decode b_R_constant 27 = .ok (.getfield 41, 3) := by decide +kernel
theorem d_R_constant_30 : decode b_R_constant 30 = .ok (.iload 5, 2) := by decide +kernel
theorem d_R_constant_32 : decode b_R_constant 32 = .ok (.baload, 1) := by decide +kernel
theorem d_R_constant_33 : decode b_R_constant 33 = .ok (.ifCond .eq 7, 3) := by decide +kernel
theorem d_R_constant_36 : decode b_R_constant 36 = .ok (.iconst 1, 1) := by decide +kernel
theorem d_R_constant_37 : decode b_R_constant 37 = .ok (.goto 4, 3) := by decide +kernel
theorem d_R_constant_40 : decode b_R_constant 40 = .ok (.iconst 0, 1) := by decide +kernel
theorem d_R_constant_41 : decode b_R_constant 41 = .ok (.istore 6, 2) := by decide +kernel
theorem d_R_constant_43 : decode b_R_constant 43 = .ok (.aload_n 0, 1) := by decide +kernel
theorem d_R_constant_44 : decode b_R_constant 44 = .ok (.getfield 41, 3) := by decide +kernel
theorem d_R_constant_47 : decode b_R_constant 47 = .ok (.iload 5, 2) := by decide +kernel
theorem d_R_constant_49 : decode b_R_constant 49 = .ok (.iconst 1, 1) := by decide +kernel
theorem d_R_constant_50 : decode b_R_constant 50 = .ok (.bastore, 1) := by decide +kernel
theorem d_R_constant_51 : decode b_R_constant 51 = .ok (.aload_n 0, 1) := by decide +kernel
theorem d_R_constant_52 : decode b_R_constant 52 = .ok (.getfield 44, 3) := by decide +kernel
theorem d_R_constant_55 : decode b_R_constant 55 = .ok (.iload 5, 2) := by decide +kernel
theorem d_R_constant_57 : decode b_R_constant 57 = .ok (.iload 4, 2) := by decide +kernel
theorem d_R_constant_59 : decode b_R_constant 59 = .ok (.iastore, 1) := by decide +kernel
theorem d_R_constant_60 : decode b_R_constant 60 = .ok (.iload 6, 2) := by decide +kernel
theorem d_R_constant_62 : decode b_R_constant 62 = .ok (.ireturn, 1) := by decide +kernel
theorem d_R_remove_0 : decode b_R_remove 0 = .ok (.iload_n 1, 1) := by decide +kernel
theorem d_R_remove_1 : decode b_R_remove 1 = .ok (.iload_n 2, 1) := by decide +kernel
theorem d_R_remove_2 : decode b_R_remove 2 = .ok (.invokestatic 63, 3) := by decide +kernel
theorem d_R_remove_5 : decode b_R_remove 5 = .ok (.ifCond .ne 17, 3) := by decide +kernel
theorem d_R_remove_8 : decode b_R_remove 8 = .ok (.aload_n 0, 1) := by decide +kernel
theorem d_R_remove_9 : decode b_R_remove 9 = .ok (.getfield 7, 3) := by decide +kernel
theorem d_R_remove_12 : decode b_R_remove 12 = .ok (.bipush 12, 2) := by decide +kernel
theorem d_R_remove_14 : decode b_R_remove 14 = .ok (.iload_n 1, 1) := by decide +kernel
theorem d_R_remove_15 : decode b_R_remove 15 = .ok (.imul, 1) := by decide +kernel
theorem d_R_remove_16 : decode b_R_remove 16 = .ok (.iload_n 2, 1) := by decide +kernel
theorem d_R_remove_17 : decode b_R_remove 17 = .ok (.iadd, 1) := by decide +kernel
theorem d_R_remove_18 : decode b_R_remove 18 = .ok (.baload, 1) := by decide +kernel
theorem d_R_remove_19 : decode b_R_remove 19 = .ok (.ifCond .ne 5, 3) := by decide +kernel
theorem d_R_remove_22 : decode b_R_remove 22 = .ok (.iconst (-1), 1) := by decide +kernel
theorem d_R_remove_23 : decode b_R_remove 23 = .ok (.ireturn, 1) := by decide +kernel
theorem d_R_remove_24 : decode b_R_remove 24 = .ok (.aload_n 0, 1) := by decide +kernel
theorem d_R_remove_25 : decode b_R_remove 25 = .ok (.getfield 7, 3) := by decide +kernel
theorem d_R_remove_28 : decode b_R_remove 28 = .ok (.bipush 12, 2) := by decide +kernel
theorem d_R_remove_30 : decode b_R_remove 30 = .ok (.iload_n 1, 1) := by decide +kernel
theorem d_R_remove_31 : decode b_R_remove 31 = .ok (.imul, 1) := by decide +kernel
theorem d_R_remove_32 : decode b_R_remove 32 = .ok (.iload_n 2, 1) := by decide +kernel
theorem d_R_remove_33 : decode b_R_remove 33 = .ok (.iadd, 1) := by decide +kernel
theorem d_R_remove_34 : decode b_R_remove 34 = .ok (.iconst 0, 1) := by decide +kernel
theorem d_R_remove_35 : decode b_R_remove 35 = .ok (.bastore, 1) := by decide +kernel
theorem d_R_remove_36 : decode b_R_remove 36 = .ok (.iconst 1, 1) := by decide +kernel
theorem d_R_remove_37 : decode b_R_remove 37 = .ok (.ireturn, 1) := by decide +kernel
theorem d_R_copyCell_0 : decode b_R_copyCell 0 = .ok (.aload_n 0, 1) := by decide +kernel
theorem d_R_copyCell_1 : decode b_R_copyCell 1 = .ok (.getfield 32, 3) := by decide +kernel
theorem d_R_copyCell_4 : decode b_R_copyCell 4 = .ok (.iload_n 2, 1) := by decide +kernel
theorem d_R_copyCell_5 : decode b_R_copyCell 5 = .ok (.aload_n 0, 1) := by decide +kernel
theorem d_R_copyCell_6 : decode b_R_copyCell 6 = .ok (.getfield 32, 3) := by decide +kernel
theorem d_R_copyCell_9 : decode b_R_copyCell 9 = .ok (.iload_n 1, 1) := by decide +kernel
theorem d_R_copyCell_10 : decode b_R_copyCell 10 = .ok (.iaload, 1) := by decide +kernel
theorem d_R_copyCell_11 : decode b_R_copyCell 11 = .ok (.iastore, 1) := by decide +kernel
theorem d_R_copyCell_12 : decode b_R_copyCell 12 = .ok (.aload_n 0, 1) := by decide +kernel
theorem d_R_copyCell_13 : decode b_R_copyCell 13 = .ok (.getfield 35, 3) := by decide +kernel
theorem d_R_copyCell_16 : decode b_R_copyCell 16 = .ok (.iload_n 2, 1) := by decide +kernel
theorem d_R_copyCell_17 : decode b_R_copyCell 17 = .ok (.aload_n 0, 1) := by decide +kernel
theorem d_R_copyCell_18 : decode b_R_copyCell 18 = .ok (.getfield 35, 3) := by decide +kernel
theorem d_R_copyCell_21 : decode b_R_copyCell 21 = .ok (.iload_n 1, 1) := by decide +kernel
theorem d_R_copyCell_22 : decode b_R_copyCell 22 = .ok (.iaload, 1) := by decide +kernel
theorem d_R_copyCell_23 : decode b_R_copyCell 23 = .ok (.iastore, 1) := by decide +kernel
theorem d_R_copyCell_24 : decode b_R_copyCell 24 = .ok (.aload_n 0, 1) := by decide +kernel
theorem d_R_copyCell_25 : decode b_R_copyCell 25 = .ok (.getfield 38, 3) := by decide +kernel
theorem d_R_copyCell_28 : decode b_R_copyCell 28 = .ok (.iload_n 2, 1) := by decide +kernel
theorem d_R_copyCell_29 : decode b_R_copyCell 29 = .ok (.aload_n 0, 1) := by decide +kernel
theorem d_R_copyCell_30 : decode b_R_copyCell 30 = .ok (.getfield 38, 3) := by decide +kernel
theorem d_R_copyCell_33 : decode b_R_copyCell 33 = .ok (.iload_n 1, 1) := by decide +kernel
theorem d_R_copyCell_34 : decode b_R_copyCell 34 = .ok (.iaload, 1) := by decide +kernel
theorem d_R_copyCell_35 : decode b_R_copyCell 35 = .ok (.iastore, 1) := by decide +kernel
theorem d_R_copyCell_36 : decode b_R_copyCell 36 = .ok (.aload_n 0, 1) := by decide +kernel
theorem d_R_copyCell_37 : decode b_R_copyCell 37 = .ok (.getfield 41, 3) := by decide +kernel
theorem d_R_copyCell_40 : decode b_R_copyCell 40 = .ok (.iload_n 2, 1) := by decide +kernel
theorem d_R_copyCell_41 : decode b_R_copyCell 41 = .ok (.aload_n 0, 1) := by decide +kernel
theorem d_R_copyCell_42 : decode b_R_copyCell 42 = .ok (.getfield 41, 3) := by decide +kernel
theorem d_R_copyCell_45 : decode b_R_copyCell 45 = .ok (.iload_n 1, 1) := by decide +kernel
theorem d_R_copyCell_46 : decode b_R_copyCell 46 = .ok (.baload, 1) := by decide +kernel
theorem d_R_copyCell_47 : decode b_R_copyCell 47 = .ok (.bastore, 1) := by decide +kernel
theorem d_R_copyCell_48 : decode b_R_copyCell 48 = .ok (.aload_n 0, 1) := by decide +kernel
theorem d_R_copyCell_49 : decode b_R_copyCell 49 = .ok (.getfield 44, 3) := by decide +kernel
theorem d_R_copyCell_52 : decode b_R_copyCell 52 = .ok (.iload_n 2, 1) := by decide +kernel
theorem d_R_copyCell_53 : decode b_R_copyCell 53 = .ok (.aload_n 0, 1) := by decide +kernel
theorem d_R_copyCell_54 : decode b_R_copyCell 54 = .ok (.getfield 44, 3) := by decide +kernel
theorem d_R_copyCell_57 : decode b_R_copyCell 57 = .ok (.iload_n 1, 1) := by decide +kernel
theorem d_R_copyCell_58 : decode b_R_copyCell 58 = .ok (.iaload, 1) := by decide +kernel
theorem d_R_copyCell_59 : decode b_R_copyCell 59 = .ok (.iastore, 1) := by decide +kernel
theorem d_R_copyCell_60 : decode b_R_copyCell 60 = .ok (.return_, 1) := by decide +kernel
theorem d_R_drop_0 : decode b_R_drop 0 = .ok (.aload_n 0, 1) := by decide +kernel
theorem d_R_drop_1 : decode b_R_drop 1 = .ok (.iload_n 1, 1) := by decide +kernel
theorem d_R_drop_2 : decode b_R_drop 2 = .ok (.iload_n 2, 1) := by decide +kernel
theorem d_R_drop_3 : decode b_R_drop 3 = .ok (.iload_n 3, 1) := by decide +kernel
theorem d_R_drop_4 : decode b_R_drop 4 = .ok (.invokevirtual 80, 3) := by decide +kernel
theorem d_R_drop_7 : decode b_R_drop 7 = .ok (.istore 4, 2) := by decide +kernel
theorem d_R_drop_9 : decode b_R_drop 9 = .ok (.iload 4, 2) := by decide +kernel
theorem d_R_drop_11 : decode b_R_drop 11 = .ok (.ifCond .ge 5, 3) := by decide +kernel
theorem d_R_drop_14 : decode b_R_drop 14 = .ok (.iconst (-1), 1) := by decide +kernel
theorem d_R_drop_15 : decode b_R_drop 15 = .ok (.ireturn, 1) := by decide +kernel
theorem d_R_drop_16 : decode b_R_drop 16 = .ok (.iload 4, 2) := by decide +kernel
theorem d_R_drop_18 : decode b_R_drop 18 = .ok (.bipush 8, 2) := by decide +kernel
theorem d_R_drop_20 : decode b_R_drop 20 = .ok (.idiv, 1) := by decide +kernel
theorem d_R_drop_21 : decode b_R_drop 21 = .ok (.istore 5, 2) := by decide +kernel
theorem d_R_drop_23 : decode b_R_drop 23 = .ok (.aload_n 0, 1) := by decide +kernel
theorem d_R_drop_24 : decode b_R_drop 24 = .ok (.getfield 29, 3) := by decide +kernel
theorem d_R_drop_27 : decode b_R_drop 27 = .ok (.iload 5, 2) := by decide +kernel
theorem d_R_drop_29 : decode b_R_drop 29 = .ok (.dup2, 1) := by decide +kernel
theorem d_R_drop_30 : decode b_R_drop 30 = .ok (.iaload, 1) := by decide +kernel
theorem d_R_drop_31 : decode b_R_drop 31 = .ok (.iconst 1, 1) := by decide +kernel
theorem d_R_drop_32 : decode b_R_drop 32 = .ok (.isub, 1) := by decide +kernel
theorem d_R_drop_33 : decode b_R_drop 33 = .ok (.iastore, 1) := by decide +kernel
theorem d_R_drop_34 : decode b_R_drop 34 = .ok (.iload 4, 2) := by decide +kernel
theorem d_R_drop_36 : decode b_R_drop 36 = .ok (.istore 6, 2) := by decide +kernel
theorem d_R_drop_38 : decode b_R_drop 38 = .ok (.iload 6, 2) := by decide +kernel
theorem d_R_drop_40 : decode b_R_drop 40 = .ok (.bipush 8, 2) := by decide +kernel
theorem d_R_drop_42 : decode b_R_drop 42 = .ok (.iload 5, 2) := by decide +kernel
theorem d_R_drop_44 : decode b_R_drop 44 = .ok (.imul, 1) := by decide +kernel
theorem d_R_drop_45 : decode b_R_drop 45 = .ok (.aload_n 0, 1) := by decide +kernel
theorem d_R_drop_46 : decode b_R_drop 46 = .ok (.getfield 29, 3) := by decide +kernel
theorem d_R_drop_49 : decode b_R_drop 49 = .ok (.iload 5, 2) := by decide +kernel
theorem d_R_drop_51 : decode b_R_drop 51 = .ok (.iaload, 1) := by decide +kernel
theorem d_R_drop_52 : decode b_R_drop 52 = .ok (.iadd, 1) := by decide +kernel
theorem d_R_drop_53 : decode b_R_drop 53 = .ok (.if_icmp .ge 19, 3) := by decide +kernel
theorem d_R_drop_56 : decode b_R_drop 56 = .ok (.aload_n 0, 1) := by decide +kernel
theorem d_R_drop_57 : decode b_R_drop 57 = .ok (.iload 6, 2) := by decide +kernel
theorem d_R_drop_59 : decode b_R_drop 59 = .ok (.iconst 1, 1) := by decide +kernel
theorem d_R_drop_60 : decode b_R_drop 60 = .ok (.iadd, 1) := by decide +kernel
theorem d_R_drop_61 : decode b_R_drop 61 = .ok (.iload 6, 2) := by decide +kernel
theorem d_R_drop_63 : decode b_R_drop 63 = .ok (.invokevirtual 83, 3) := by decide +kernel
theorem d_R_drop_66 : decode b_R_drop 66 = .ok (.iinc 6 1, 3) := by decide +kernel
theorem d_R_drop_69 : decode b_R_drop 69 = .ok (.goto (-31), 3) := by decide +kernel
theorem d_R_drop_72 : decode b_R_drop 72 = .ok (.aload_n 0, 1) := by decide +kernel
theorem d_R_drop_73 : decode b_R_drop 73 = .ok (.getfield 29, 3) := by decide +kernel
theorem d_R_drop_76 : decode b_R_drop 76 = .ok (.iload 5, 2) := by decide +kernel
theorem d_R_drop_78 : decode b_R_drop 78 = .ok (.iaload, 1) := by decide +kernel
theorem d_R_drop_79 : decode b_R_drop 79 = .ok (.ireturn, 1) := by decide +kernel
theorem d_R_copyRow_0 : decode b_R_copyRow 0 = .ok (.aload_n 0, 1) := by decide +kernel
theorem d_R_copyRow_1 : decode b_R_copyRow 1 = .ok (.getfield 7, 3) := by decide +kernel
theorem d_R_copyRow_4 : decode b_R_copyRow 4 = .ok (.iload_n 2, 1) := by decide +kernel
theorem d_R_copyRow_5 : decode b_R_copyRow 5 = .ok (.aload_n 0, 1) := by decide +kernel
theorem d_R_copyRow_6 : decode b_R_copyRow 6 = .ok (.getfield 7, 3) := by decide +kernel
theorem d_R_copyRow_9 : decode b_R_copyRow 9 = .ok (.iload_n 1, 1) := by decide +kernel
theorem d_R_copyRow_10 : decode b_R_copyRow 10 = .ok (.baload, 1) := by decide +kernel
theorem d_R_copyRow_11 : decode b_R_copyRow 11 = .ok (.bastore, 1) := by decide +kernel
theorem d_R_copyRow_12 : decode b_R_copyRow 12 = .ok (.aload_n 0, 1) := by decide +kernel
theorem d_R_copyRow_13 : decode b_R_copyRow 13 = .ok (.getfield 13, 3) := by decide +kernel
theorem d_R_copyRow_16 : decode b_R_copyRow 16 = .ok (.iload_n 2, 1) := by decide +kernel
theorem d_R_copyRow_17 : decode b_R_copyRow 17 = .ok (.aload_n 0, 1) := by decide +kernel
theorem d_R_copyRow_18 : decode b_R_copyRow 18 = .ok (.getfield 13, 3) := by decide +kernel
theorem d_R_copyRow_21 : decode b_R_copyRow 21 = .ok (.iload_n 1, 1) := by decide +kernel
theorem d_R_copyRow_22 : decode b_R_copyRow 22 = .ok (.iaload, 1) := by decide +kernel
theorem d_R_copyRow_23 : decode b_R_copyRow 23 = .ok (.iastore, 1) := by decide +kernel
theorem d_R_copyRow_24 : decode b_R_copyRow 24 = .ok (.aload_n 0, 1) := by decide +kernel
theorem d_R_copyRow_25 : decode b_R_copyRow 25 = .ok (.getfield 17, 3) := by decide +kernel
theorem d_R_copyRow_28 : decode b_R_copyRow 28 = .ok (.iload_n 2, 1) := by decide +kernel
theorem d_R_copyRow_29 : decode b_R_copyRow 29 = .ok (.aload_n 0, 1) := by decide +kernel
theorem d_R_copyRow_30 : decode b_R_copyRow 30 = .ok (.getfield 17, 3) := by decide +kernel
theorem d_R_copyRow_33 : decode b_R_copyRow 33 = .ok (.iload_n 1, 1) := by decide +kernel
theorem d_R_copyRow_34 : decode b_R_copyRow 34 = .ok (.iaload, 1) := by decide +kernel
theorem d_R_copyRow_35 : decode b_R_copyRow 35 = .ok (.iastore, 1) := by decide +kernel
theorem d_R_copyRow_36 : decode b_R_copyRow 36 = .ok (.aload_n 0, 1) := by decide +kernel
theorem d_R_copyRow_37 : decode b_R_copyRow 37 = .ok (.getfield 20, 3) := by decide +kernel
theorem d_R_copyRow_40 : decode b_R_copyRow 40 = .ok (.iload_n 2, 1) := by decide +kernel
theorem d_R_copyRow_41 : decode b_R_copyRow 41 = .ok (.aload_n 0, 1) := by decide +kernel
theorem d_R_copyRow_42 : decode b_R_copyRow 42 = .ok (.getfield 20, 3) := by decide +kernel
theorem d_R_copyRow_45 : decode b_R_copyRow 45 = .ok (.iload_n 1, 1) := by decide +kernel
theorem d_R_copyRow_46 : decode b_R_copyRow 46 = .ok (.iaload, 1) := by decide +kernel
theorem d_R_copyRow_47 : decode b_R_copyRow 47 = .ok (.iastore, 1) := by decide +kernel
theorem d_R_copyRow_48 : decode b_R_copyRow 48 = .ok (.aload_n 0, 1) := by decide +kernel
theorem d_R_copyRow_49 : decode b_R_copyRow 49 = .ok (.getfield 23, 3) := by decide +kernel
theorem d_R_copyRow_52 : decode b_R_copyRow 52 = .ok (.iload_n 2, 1) := by decide +kernel
theorem d_R_copyRow_53 : decode b_R_copyRow 53 = .ok (.aload_n 0, 1) := by decide +kernel
theorem d_R_copyRow_54 : decode b_R_copyRow 54 = .ok (.getfield 23, 3) := by decide +kernel
theorem d_R_copyRow_57 : decode b_R_copyRow 57 = .ok (.iload_n 1, 1) := by decide +kernel
theorem d_R_copyRow_58 : decode b_R_copyRow 58 = .ok (.iaload, 1) := by decide +kernel
theorem d_R_copyRow_59 : decode b_R_copyRow 59 = .ok (.iastore, 1) := by decide +kernel
theorem d_R_copyRow_60 : decode b_R_copyRow 60 = .ok (.aload_n 0, 1) := by decide +kernel
theorem d_R_copyRow_61 : decode b_R_copyRow 61 = .ok (.getfield 29, 3) := by decide +kernel
theorem d_R_copyRow_64 : decode b_R_copyRow 64 = .ok (.iload_n 2, 1) := by decide +kernel
theorem d_R_copyRow_65 : decode b_R_copyRow 65 = .ok (.aload_n 0, 1) := by decide +kernel
theorem d_R_copyRow_66 : decode b_R_copyRow 66 = .ok (.getfield 29, 3) := by decide +kernel
theorem d_R_copyRow_69 : decode b_R_copyRow 69 = .ok (.iload_n 1, 1) := by decide +kernel
theorem d_R_copyRow_70 : decode b_R_copyRow 70 = .ok (.iaload, 1) := by decide +kernel
theorem d_R_copyRow_71 : decode b_R_copyRow 71 = .ok (.iastore, 1) := by decide +kernel
theorem d_R_copyRow_72 : decode b_R_copyRow 72 = .ok (.iconst 0, 1) := by decide +kernel
theorem d_R_copyRow_73 : decode b_R_copyRow 73 = .ok (.istore_n 3, 1) := by decide +kernel
theorem d_R_copyRow_74 : decode b_R_copyRow 74 = .ok (.iload_n 3, 1) := by decide +kernel
theorem d_R_copyRow_75 : decode b_R_copyRow 75 = .ok (.iconst 3, 1) := by decide +kernel
theorem d_R_copyRow_76 : decode b_R_copyRow 76 = .ok (.if_icmp .ge 29, 3) := by decide +kernel
theorem d_R_copyRow_79 : decode b_R_copyRow 79 = .ok (.aload_n 0, 1) := by decide +kernel
theorem d_R_copyRow_80 : decode b_R_copyRow 80 = .ok (.getfield 26, 3) := by decide +kernel
theorem d_R_copyRow_83 : decode b_R_copyRow 83 = .ok (.iconst 3, 1) := by decide +kernel
theorem d_R_copyRow_84 : decode b_R_copyRow 84 = .ok (.iload_n 2, 1) := by decide +kernel
theorem d_R_copyRow_85 : decode b_R_copyRow 85 = .ok (.imul, 1) := by decide +kernel
theorem d_R_copyRow_86 : decode b_R_copyRow 86 = .ok (.iload_n 3, 1) := by decide +kernel
theorem d_R_copyRow_87 : decode b_R_copyRow 87 = .ok (.iadd, 1) := by decide +kernel
theorem d_R_copyRow_88 : decode b_R_copyRow 88 = .ok (.aload_n 0, 1) := by decide +kernel
theorem d_R_copyRow_89 : decode b_R_copyRow 89 = .ok (.getfield 26, 3) := by decide +kernel
theorem d_R_copyRow_92 : decode b_R_copyRow 92 = .ok (.iconst 3, 1) := by decide +kernel
theorem d_R_copyRow_93 : decode b_R_copyRow 93 = .ok (.iload_n 1, 1) := by decide +kernel
theorem d_R_copyRow_94 : decode b_R_copyRow 94 = .ok (.imul, 1) := by decide +kernel
theorem d_R_copyRow_95 : decode b_R_copyRow 95 = .ok (.iload_n 3, 1) := by decide +kernel
theorem d_R_copyRow_96 : decode b_R_copyRow 96 = .ok (.iadd, 1) := by decide +kernel
theorem d_R_copyRow_97 : decode b_R_copyRow 97 = .ok (.iaload, 1) := by decide +kernel
theorem d_R_copyRow_98 : decode b_R_copyRow 98 = .ok (.iastore, 1) := by decide +kernel
theorem d_R_copyRow_99 : decode b_R_copyRow 99 = .ok (.iinc 3 1, 3) := by decide +kernel
theorem d_R_copyRow_102 : decode b_R_copyRow 102 = .ok (.goto (-28), 3) := by decide +kernel
theorem d_R_copyRow_105 : decode b_R_copyRow 105 = .ok (.iconst 0, 1) := by decide +kernel
theorem d_R_copyRow_106 : decode b_R_copyRow 106 = .ok (.istore_n 3, 1) := by decide +kernel
theorem d_R_copyRow_107 : decode b_R_copyRow 107 = .ok (.iload_n 3, 1) := by decide +kernel
theorem d_R_copyRow_108 : decode b_R_copyRow 108 = .ok (.bipush 8, 2) := by decide +kernel
theorem d_R_copyRow_110 : decode b_R_copyRow 110 = .ok (.if_icmp .ge 25, 3) := by decide +kernel
theorem d_R_copyRow_113 : decode b_R_copyRow 113 = .ok (.aload_n 0, 1) := by decide +kernel
theorem d_R_copyRow_114 : decode b_R_copyRow 114 = .ok (.bipush 8, 2) := by decide +kernel
theorem d_R_copyRow_116 : decode b_R_copyRow 116 = .ok (.iload_n 1, 1) := by decide +kernel
theorem d_R_copyRow_117 : decode b_R_copyRow 117 = .ok (.imul, 1) := by decide +kernel
theorem d_R_copyRow_118 : decode b_R_copyRow 118 = .ok (.iload_n 3, 1) := by decide +kernel
theorem d_R_copyRow_119 : decode b_R_copyRow 119 = .ok (.iadd, 1) := by decide +kernel
theorem d_R_copyRow_120 : decode b_R_copyRow 120 = .ok (.bipush 8, 2) := by decide +kernel
theorem d_R_copyRow_122 : decode b_R_copyRow 122 = .ok (.iload_n 2, 1) := by decide +kernel
theorem d_R_copyRow_123 : decode b_R_copyRow 123 = .ok (.imul, 1) := by decide +kernel
theorem d_R_copyRow_124 : decode b_R_copyRow 124 = .ok (.iload_n 3, 1) := by decide +kernel
theorem d_R_copyRow_125 : decode b_R_copyRow 125 = .ok (.iadd, 1) := by decide +kernel
theorem d_R_copyRow_126 : decode b_R_copyRow 126 = .ok (.invokevirtual 83, 3) := by decide +kernel
theorem d_R_copyRow_129 : decode b_R_copyRow 129 = .ok (.iinc 3 1, 3) := by decide +kernel
theorem d_R_copyRow_132 : decode b_R_copyRow 132 = .ok (.goto (-25), 3) := by decide +kernel
theorem d_R_copyRow_135 : decode b_R_copyRow 135 = .ok (.return_, 1) := by decide +kernel
theorem d_R_copy_0 : decode b_R_copy 0 = .ok (.iconst 0, 1) := by decide +kernel
theorem d_R_copy_1 : decode b_R_copy 1 = .ok (.istore_n 1, 1) := by decide +kernel
theorem d_R_copy_2 : decode b_R_copy 2 = .ok (.iload_n 1, 1) := by decide +kernel
theorem d_R_copy_3 : decode b_R_copy 3 = .ok (.bipush 12, 2) := by decide +kernel
theorem d_R_copy_5 : decode b_R_copy 5 = .ok (.if_icmp .ge 18, 3) := by decide +kernel
theorem d_R_copy_8 : decode b_R_copy 8 = .ok (.aload_n 0, 1) := by decide +kernel
theorem d_R_copy_9 : decode b_R_copy 9 = .ok (.iload_n 1, 1) := by decide +kernel
theorem d_R_copy_10 : decode b_R_copy 10 = .ok (.bipush 12, 2) := by decide +kernel
theorem d_R_copy_12 : decode b_R_copy 12 = .ok (.iload_n 1, 1) := by decide +kernel
theorem d_R_copy_13 : decode b_R_copy 13 = .ok (.iadd, 1) := by decide +kernel
theorem d_R_copy_14 : decode b_R_copy 14 = .ok (.invokevirtual 87, 3) := by decide +kernel
theorem d_R_copy_17 : decode b_R_copy 17 = .ok (.iinc 1 1, 3) := by decide +kernel
theorem d_R_copy_20 : decode b_R_copy 20 = .ok (.goto (-18), 3) := by decide +kernel
theorem d_R_copy_23 : decode b_R_copy 23 = .ok (.aload_n 0, 1) := by decide +kernel
theorem d_R_copy_24 : decode b_R_copy 24 = .ok (.iconst 1, 1) := by decide +kernel
theorem d_R_copy_25 : decode b_R_copy 25 = .ok (.invokevirtual 90, 3) := by decide +kernel
theorem d_R_copy_28 : decode b_R_copy 28 = .ok (.ireturn, 1) := by decide +kernel
theorem d_R_swap_0 : decode b_R_swap 0 = .ok (.iconst 0, 1) := by decide +kernel
theorem d_R_swap_1 : decode b_R_swap 1 = .ok (.istore_n 1, 1) := by decide +kernel
theorem d_R_swap_2 : decode b_R_swap 2 = .ok (.iload_n 1, 1) := by decide +kernel
theorem d_R_swap_3 : decode b_R_swap 3 = .ok (.bipush 12, 2) := by decide +kernel
theorem d_R_swap_5 : decode b_R_swap 5 = .ok (.if_icmp .ge 128, 3) := by decide +kernel
theorem d_R_swap_8 : decode b_R_swap 8 = .ok (.aload_n 0, 1) := by decide +kernel
theorem d_R_swap_9 : decode b_R_swap 9 = .ok (.getfield 7, 3) := by decide +kernel
theorem d_R_swap_12 : decode b_R_swap 12 = .ok (.iload_n 1, 1) := by decide +kernel
theorem d_R_swap_13 : decode b_R_swap 13 = .ok (.baload, 1) := by decide +kernel
theorem d_R_swap_14 : decode b_R_swap 14 = .ok (.istore_n 2, 1) := by decide +kernel
theorem d_R_swap_15 : decode b_R_swap 15 = .ok (.aload_n 0, 1) := by decide +kernel
theorem d_R_swap_16 : decode b_R_swap 16 = .ok (.getfield 13, 3) := by decide +kernel
theorem d_R_swap_19 : decode b_R_swap 19 = .ok (.iload_n 1, 1) := by decide +kernel
theorem d_R_swap_20 : decode b_R_swap 20 = .ok (.iaload, 1) := by decide +kernel
theorem d_R_swap_21 : decode b_R_swap 21 = .ok (.istore_n 3, 1) := by decide +kernel
theorem d_R_swap_22 : decode b_R_swap 22 = .ok (.aload_n 0, 1) := by decide +kernel
theorem d_R_swap_23 : decode b_R_swap 23 = .ok (.getfield 17, 3) := by decide +kernel
theorem d_R_swap_26 : decode b_R_swap 26 = .ok (.iload_n 1, 1) := by decide +kernel
theorem d_R_swap_27 : decode b_R_swap 27 = .ok (.iaload, 1) := by decide +kernel
theorem d_R_swap_28 : decode b_R_swap 28 = .ok (.istore 4, 2) := by decide +kernel
theorem d_R_swap_30 : decode b_R_swap 30 = .ok (.aload_n 0, 1) := by decide +kernel
theorem d_R_swap_31 : decode b_R_swap 31 = .ok (.getfield 20, 3) := by decide +kernel
theorem d_R_swap_34 : decode b_R_swap 34 = .ok (.iload_n 1, 1) := by decide +kernel
theorem d_R_swap_35 : decode b_R_swap 35 = .ok (.iaload, 1) := by decide +kernel
theorem d_R_swap_36 : decode b_R_swap 36 = .ok (.istore 5, 2) := by decide +kernel
theorem d_R_swap_38 : decode b_R_swap 38 = .ok (.aload_n 0, 1) := by decide +kernel
theorem d_R_swap_39 : decode b_R_swap 39 = .ok (.getfield 23, 3) := by decide +kernel
theorem d_R_swap_42 : decode b_R_swap 42 = .ok (.iload_n 1, 1) := by decide +kernel
theorem d_R_swap_43 : decode b_R_swap 43 = .ok (.iaload, 1) := by decide +kernel
theorem d_R_swap_44 : decode b_R_swap 44 = .ok (.istore 6, 2) := by decide +kernel
theorem d_R_swap_46 : decode b_R_swap 46 = .ok (.aload_n 0, 1) := by decide +kernel
theorem d_R_swap_47 : decode b_R_swap 47 = .ok (.getfield 29, 3) := by decide +kernel
theorem d_R_swap_50 : decode b_R_swap 50 = .ok (.iload_n 1, 1) := by decide +kernel
theorem d_R_swap_51 : decode b_R_swap 51 = .ok (.iaload, 1) := by decide +kernel
theorem d_R_swap_52 : decode b_R_swap 52 = .ok (.istore 7, 2) := by decide +kernel
theorem d_R_swap_54 : decode b_R_swap 54 = .ok (.aload_n 0, 1) := by decide +kernel
theorem d_R_swap_55 : decode b_R_swap 55 = .ok (.bipush 12, 2) := by decide +kernel
theorem d_R_swap_57 : decode b_R_swap 57 = .ok (.iload_n 1, 1) := by decide +kernel
theorem d_R_swap_58 : decode b_R_swap 58 = .ok (.iadd, 1) := by decide +kernel
theorem d_R_swap_59 : decode b_R_swap 59 = .ok (.iload_n 1, 1) := by decide +kernel
theorem d_R_swap_60 : decode b_R_swap 60 = .ok (.invokevirtual 94, 3) := by decide +kernel
theorem d_R_swap_63 : decode b_R_swap 63 = .ok (.aload_n 0, 1) := by decide +kernel
theorem d_R_swap_64 : decode b_R_swap 64 = .ok (.getfield 7, 3) := by decide +kernel
theorem d_R_swap_67 : decode b_R_swap 67 = .ok (.bipush 12, 2) := by decide +kernel
theorem d_R_swap_69 : decode b_R_swap 69 = .ok (.iload_n 1, 1) := by decide +kernel
theorem d_R_swap_70 : decode b_R_swap 70 = .ok (.iadd, 1) := by decide +kernel
theorem d_R_swap_71 : decode b_R_swap 71 = .ok (.iload_n 2, 1) := by decide +kernel
theorem d_R_swap_72 : decode b_R_swap 72 = .ok (.bastore, 1) := by decide +kernel
theorem d_R_swap_73 : decode b_R_swap 73 = .ok (.aload_n 0, 1) := by decide +kernel
theorem d_R_swap_74 : decode b_R_swap 74 = .ok (.getfield 13, 3) := by decide +kernel
theorem d_R_swap_77 : decode b_R_swap 77 = .ok (.bipush 12, 2) := by decide +kernel
theorem d_R_swap_79 : decode b_R_swap 79 = .ok (.iload_n 1, 1) := by decide +kernel
theorem d_R_swap_80 : decode b_R_swap 80 = .ok (.iadd, 1) := by decide +kernel
theorem d_R_swap_81 : decode b_R_swap 81 = .ok (.iload_n 3, 1) := by decide +kernel
theorem d_R_swap_82 : decode b_R_swap 82 = .ok (.iastore, 1) := by decide +kernel
theorem d_R_swap_83 : decode b_R_swap 83 = .ok (.aload_n 0, 1) := by decide +kernel
theorem d_R_swap_84 : decode b_R_swap 84 = .ok (.getfield 17, 3) := by decide +kernel
theorem d_R_swap_87 : decode b_R_swap 87 = .ok (.bipush 12, 2) := by decide +kernel
theorem d_R_swap_89 : decode b_R_swap 89 = .ok (.iload_n 1, 1) := by decide +kernel
theorem d_R_swap_90 : decode b_R_swap 90 = .ok (.iadd, 1) := by decide +kernel
theorem d_R_swap_91 : decode b_R_swap 91 = .ok (.iload 4, 2) := by decide +kernel
theorem d_R_swap_93 : decode b_R_swap 93 = .ok (.iastore, 1) := by decide +kernel
theorem d_R_swap_94 : decode b_R_swap 94 = .ok (.aload_n 0, 1) := by decide +kernel
theorem d_R_swap_95 : decode b_R_swap 95 = .ok (.getfield 20, 3) := by decide +kernel
theorem d_R_swap_98 : decode b_R_swap 98 = .ok (.bipush 12, 2) := by decide +kernel
theorem d_R_swap_100 : decode b_R_swap 100 = .ok (.iload_n 1, 1) := by decide +kernel
theorem d_R_swap_101 : decode b_R_swap 101 = .ok (.iadd, 1) := by decide +kernel
theorem d_R_swap_102 : decode b_R_swap 102 = .ok (.iload 5, 2) := by decide +kernel
theorem d_R_swap_104 : decode b_R_swap 104 = .ok (.iastore, 1) := by decide +kernel
theorem d_R_swap_105 : decode b_R_swap 105 = .ok (.aload_n 0, 1) := by decide +kernel
theorem d_R_swap_106 : decode b_R_swap 106 = .ok (.getfield 23, 3) := by decide +kernel
theorem d_R_swap_109 : decode b_R_swap 109 = .ok (.bipush 12, 2) := by decide +kernel
theorem d_R_swap_111 : decode b_R_swap 111 = .ok (.iload_n 1, 1) := by decide +kernel
theorem d_R_swap_112 : decode b_R_swap 112 = .ok (.iadd, 1) := by decide +kernel
theorem d_R_swap_113 : decode b_R_swap 113 = .ok (.iload 6, 2) := by decide +kernel
theorem d_R_swap_115 : decode b_R_swap 115 = .ok (.iastore, 1) := by decide +kernel
theorem d_R_swap_116 : decode b_R_swap 116 = .ok (.aload_n 0, 1) := by decide +kernel
theorem d_R_swap_117 : decode b_R_swap 117 = .ok (.getfield 29, 3) := by decide +kernel
theorem d_R_swap_120 : decode b_R_swap 120 = .ok (.bipush 12, 2) := by decide +kernel
theorem d_R_swap_122 : decode b_R_swap 122 = .ok (.iload_n 1, 1) := by decide +kernel
theorem d_R_swap_123 : decode b_R_swap 123 = .ok (.iadd, 1) := by decide +kernel
theorem d_R_swap_124 : decode b_R_swap 124 = .ok (.iload 7, 2) := by decide +kernel
theorem d_R_swap_126 : decode b_R_swap 126 = .ok (.iastore, 1) := by decide +kernel
theorem d_R_swap_127 : decode b_R_swap 127 = .ok (.iinc 1 1, 3) := by decide +kernel
theorem d_R_swap_130 : decode b_R_swap 130 = .ok (.goto (-128), 3) := by decide +kernel
theorem d_R_swap_133 : decode b_R_swap 133 = .ok (.iconst 0, 1) := by decide +kernel
theorem d_R_swap_134 : decode b_R_swap 134 = .ok (.istore_n 1, 1) := by decide +kernel
theorem d_R_swap_135 : decode b_R_swap 135 = .ok (.iload_n 1, 1) := by decide +kernel
theorem d_R_swap_136 : decode b_R_swap 136 = .ok (.bipush 36, 2) := by decide +kernel
theorem d_R_swap_138 : decode b_R_swap 138 = .ok (.if_icmp .ge 41, 3) := by decide +kernel
theorem d_R_swap_141 : decode b_R_swap 141 = .ok (.aload_n 0, 1) := by decide +kernel
theorem d_R_swap_142 : decode b_R_swap 142 = .ok (.getfield 26, 3) := by decide +kernel
theorem d_R_swap_145 : decode b_R_swap 145 = .ok (.iload_n 1, 1) := by decide +kernel
theorem d_R_swap_146 : decode b_R_swap 146 = .ok (.iaload, 1) := by decide +kernel
theorem d_R_swap_147 : decode b_R_swap 147 = .ok (.istore_n 2, 1) := by decide +kernel
theorem d_R_swap_148 : decode b_R_swap 148 = .ok (.aload_n 0, 1) := by decide +kernel
theorem d_R_swap_149 : decode b_R_swap 149 = .ok (.getfield 26, 3) := by decide +kernel
theorem d_R_swap_152 : decode b_R_swap 152 = .ok (.iload_n 1, 1) := by decide +kernel
theorem d_R_swap_153 : decode b_R_swap 153 = .ok (.aload_n 0, 1) := by decide +kernel
theorem d_R_swap_154 : decode b_R_swap 154 = .ok (.getfield 26, 3) := by decide +kernel
theorem d_R_swap_157 : decode b_R_swap 157 = .ok (.bipush 36, 2) := by decide +kernel
theorem d_R_swap_159 : decode b_R_swap 159 = .ok (.iload_n 1, 1) := by decide +kernel
theorem d_R_swap_160 : decode b_R_swap 160 = .ok (.iadd, 1) := by decide +kernel
theorem d_R_swap_161 : decode b_R_swap 161 = .ok (.iaload, 1) := by decide +kernel
theorem d_R_swap_162 : decode b_R_swap 162 = .ok (.iastore, 1) := by decide +kernel
theorem d_R_swap_163 : decode b_R_swap 163 = .ok (.aload_n 0, 1) := by decide +kernel
theorem d_R_swap_164 : decode b_R_swap 164 = .ok (.getfield 26, 3) := by decide +kernel
theorem d_R_swap_167 : decode b_R_swap 167 = .ok (.bipush 36, 2) := by decide +kernel
theorem d_R_swap_169 : decode b_R_swap 169 = .ok (.iload_n 1, 1) := by decide +kernel
theorem d_R_swap_170 : decode b_R_swap 170 = .ok (.iadd, 1) := by decide +kernel
theorem d_R_swap_171 : decode b_R_swap 171 = .ok (.iload_n 2, 1) := by decide +kernel
theorem d_R_swap_172 : decode b_R_swap 172 = .ok (.iastore, 1) := by decide +kernel
theorem d_R_swap_173 : decode b_R_swap 173 = .ok (.iinc 1 1, 3) := by decide +kernel
theorem d_R_swap_176 : decode b_R_swap 176 = .ok (.goto (-41), 3) := by decide +kernel
theorem d_R_swap_179 : decode b_R_swap 179 = .ok (.iconst 0, 1) := by decide +kernel
theorem d_R_swap_180 : decode b_R_swap 180 = .ok (.istore_n 1, 1) := by decide +kernel
theorem d_R_swap_181 : decode b_R_swap 181 = .ok (.iload_n 1, 1) := by decide +kernel
theorem d_R_swap_182 : decode b_R_swap 182 = .ok (.bipush 96, 2) := by decide +kernel
theorem d_R_swap_184 : decode b_R_swap 184 = .ok (.if_icmp .ge 18, 3) := by decide +kernel
theorem d_R_swap_187 : decode b_R_swap 187 = .ok (.aload_n 0, 1) := by decide +kernel
theorem d_R_swap_188 : decode b_R_swap 188 = .ok (.iload_n 1, 1) := by decide +kernel
theorem d_R_swap_189 : decode b_R_swap 189 = .ok (.bipush 96, 2) := by decide +kernel
theorem d_R_swap_191 : decode b_R_swap 191 = .ok (.iload_n 1, 1) := by decide +kernel
theorem d_R_swap_192 : decode b_R_swap 192 = .ok (.iadd, 1) := by decide +kernel
theorem d_R_swap_193 : decode b_R_swap 193 = .ok (.invokevirtual 97, 3) := by decide +kernel
theorem d_R_swap_196 : decode b_R_swap 196 = .ok (.iinc 1 1, 3) := by decide +kernel
theorem d_R_swap_199 : decode b_R_swap 199 = .ok (.goto (-18), 3) := by decide +kernel
theorem d_R_swap_202 : decode b_R_swap 202 = .ok (.return_, 1) := by decide +kernel
theorem d_R_copyHead_0 : decode b_R_copyHead 0 = .ok (.aload_n 0, 1) := by decide +kernel
theorem d_R_copyHead_1 : decode b_R_copyHead 1 = .ok (.getfield 7, 3) := by decide +kernel
theorem d_R_copyHead_4 : decode b_R_copyHead 4 = .ok (.iload_n 2, 1) := by decide +kernel
theorem d_R_copyHead_5 : decode b_R_copyHead 5 = .ok (.aload_n 0, 1) := by decide +kernel
theorem d_R_copyHead_6 : decode b_R_copyHead 6 = .ok (.getfield 7, 3) := by decide +kernel
theorem d_R_copyHead_9 : decode b_R_copyHead 9 = .ok (.iload_n 1, 1) := by decide +kernel
theorem d_R_copyHead_10 : decode b_R_copyHead 10 = .ok (.baload, 1) := by decide +kernel
theorem d_R_copyHead_11 : decode b_R_copyHead 11 = .ok (.bastore, 1) := by decide +kernel
theorem d_R_copyHead_12 : decode b_R_copyHead 12 = .ok (.aload_n 0, 1) := by decide +kernel
theorem d_R_copyHead_13 : decode b_R_copyHead 13 = .ok (.getfield 13, 3) := by decide +kernel
theorem d_R_copyHead_16 : decode b_R_copyHead 16 = .ok (.iload_n 2, 1) := by decide +kernel
theorem d_R_copyHead_17 : decode b_R_copyHead 17 = .ok (.aload_n 0, 1) := by decide +kernel
theorem d_R_copyHead_18 : decode b_R_copyHead 18 = .ok (.getfield 13, 3) := by decide +kernel
theorem d_R_copyHead_21 : decode b_R_copyHead 21 = .ok (.iload_n 1, 1) := by decide +kernel
theorem d_R_copyHead_22 : decode b_R_copyHead 22 = .ok (.iaload, 1) := by decide +kernel
theorem d_R_copyHead_23 : decode b_R_copyHead 23 = .ok (.iastore, 1) := by decide +kernel
theorem d_R_copyHead_24 : decode b_R_copyHead 24 = .ok (.aload_n 0, 1) := by decide +kernel
theorem d_R_copyHead_25 : decode b_R_copyHead 25 = .ok (.getfield 17, 3) := by decide +kernel
theorem d_R_copyHead_28 : decode b_R_copyHead 28 = .ok (.iload_n 2, 1) := by decide +kernel
theorem d_R_copyHead_29 : decode b_R_copyHead 29 = .ok (.aload_n 0, 1) := by decide +kernel
theorem d_R_copyHead_30 : decode b_R_copyHead 30 = .ok (.getfield 17, 3) := by decide +kernel
theorem d_R_copyHead_33 : decode b_R_copyHead 33 = .ok (.iload_n 1, 1) := by decide +kernel
theorem d_R_copyHead_34 : decode b_R_copyHead 34 = .ok (.iaload, 1) := by decide +kernel
theorem d_R_copyHead_35 : decode b_R_copyHead 35 = .ok (.iastore, 1) := by decide +kernel
theorem d_R_copyHead_36 : decode b_R_copyHead 36 = .ok (.aload_n 0, 1) := by decide +kernel
theorem d_R_copyHead_37 : decode b_R_copyHead 37 = .ok (.getfield 20, 3) := by decide +kernel
theorem d_R_copyHead_40 : decode b_R_copyHead 40 = .ok (.iload_n 2, 1) := by decide +kernel
theorem d_R_copyHead_41 : decode b_R_copyHead 41 = .ok (.aload_n 0, 1) := by decide +kernel
theorem d_R_copyHead_42 : decode b_R_copyHead 42 = .ok (.getfield 20, 3) := by decide +kernel
theorem d_R_copyHead_45 : decode b_R_copyHead 45 = .ok (.iload_n 1, 1) := by decide +kernel
theorem d_R_copyHead_46 : decode b_R_copyHead 46 = .ok (.iaload, 1) := by decide +kernel
theorem d_R_copyHead_47 : decode b_R_copyHead 47 = .ok (.iastore, 1) := by decide +kernel
theorem d_R_copyHead_48 : decode b_R_copyHead 48 = .ok (.aload_n 0, 1) := by decide +kernel
theorem d_R_copyHead_49 : decode b_R_copyHead 49 = .ok (.getfield 23, 3) := by decide +kernel
theorem d_R_copyHead_52 : decode b_R_copyHead 52 = .ok (.iload_n 2, 1) := by decide +kernel
theorem d_R_copyHead_53 : decode b_R_copyHead 53 = .ok (.aload_n 0, 1) := by decide +kernel
theorem d_R_copyHead_54 : decode b_R_copyHead 54 = .ok (.getfield 23, 3) := by decide +kernel
theorem d_R_copyHead_57 : decode b_R_copyHead 57 = .ok (.iload_n 1, 1) := by decide +kernel
theorem d_R_copyHead_58 : decode b_R_copyHead 58 = .ok (.iaload, 1) := by decide +kernel
theorem d_R_copyHead_59 : decode b_R_copyHead 59 = .ok (.iastore, 1) := by decide +kernel
theorem d_R_copyHead_60 : decode b_R_copyHead 60 = .ok (.aload_n 0, 1) := by decide +kernel
theorem d_R_copyHead_61 : decode b_R_copyHead 61 = .ok (.getfield 29, 3) := by decide +kernel
theorem d_R_copyHead_64 : decode b_R_copyHead 64 = .ok (.iload_n 2, 1) := by decide +kernel
theorem d_R_copyHead_65 : decode b_R_copyHead 65 = .ok (.aload_n 0, 1) := by decide +kernel
theorem d_R_copyHead_66 : decode b_R_copyHead 66 = .ok (.getfield 29, 3) := by decide +kernel
theorem d_R_copyHead_69 : decode b_R_copyHead 69 = .ok (.iload_n 1, 1) := by decide +kernel
theorem d_R_copyHead_70 : decode b_R_copyHead 70 = .ok (.iaload, 1) := by decide +kernel
theorem d_R_copyHead_71 : decode b_R_copyHead 71 = .ok (.iastore, 1) := by decide +kernel
theorem d_R_copyHead_72 : decode b_R_copyHead 72 = .ok (.return_, 1) := by decide +kernel
theorem d_R_swapCell_0 : decode b_R_swapCell 0 = .ok (.aload_n 0, 1) := by decide +kernel
theorem d_R_swapCell_1 : decode b_R_swapCell 1 = .ok (.getfield 32, 3) := by decide +kernel
theorem d_R_swapCell_4 : decode b_R_swapCell 4 = .ok (.iload_n 1, 1) := by decide +kernel
theorem d_R_swapCell_5 : decode b_R_swapCell 5 = .ok (.iaload, 1) := by decide +kernel
theorem d_R_swapCell_6 : decode b_R_swapCell 6 = .ok (.istore_n 3, 1) := by decide +kernel
theorem d_R_swapCell_7 : decode b_R_swapCell 7 = .ok (.aload_n 0, 1) := by decide +kernel
theorem d_R_swapCell_8 : decode b_R_swapCell 8 = .ok (.getfield 35, 3) := by decide +kernel
theorem d_R_swapCell_11 : decode b_R_swapCell 11 = .ok (.iload_n 1, 1) := by decide +kernel
theorem d_R_swapCell_12 : decode b_R_swapCell 12 = .ok (.iaload, 1) := by decide +kernel
theorem d_R_swapCell_13 : decode b_R_swapCell 13 = .ok (.istore 4, 2) := by decide +kernel
theorem d_R_swapCell_15 : decode b_R_swapCell 15 = .ok (.aload_n 0, 1) := by decide +kernel
theorem d_R_swapCell_16 : decode b_R_swapCell 16 = .ok (.getfield 38, 3) := by decide +kernel
theorem d_R_swapCell_19 : decode b_R_swapCell 19 = .ok (.iload_n 1, 1) := by decide +kernel
theorem d_R_swapCell_20 : decode b_R_swapCell 20 = .ok (.iaload, 1) := by decide +kernel
theorem d_R_swapCell_21 : decode b_R_swapCell 21 = .ok (.istore 5, 2) := by decide +kernel
theorem d_R_swapCell_23 : decode b_R_swapCell 23 = .ok (.aload_n 0, 1) := by decide +kernel
theorem d_R_swapCell_24 : decode b_R_swapCell 24 = .ok (.getfield 41, 3) := by decide +kernel
theorem d_R_swapCell_27 : decode b_R_swapCell 27 = .ok (.iload_n 1, 1) := by decide +kernel
theorem d_R_swapCell_28 : decode b_R_swapCell 28 = .ok (.baload, 1) := by decide +kernel
theorem d_R_swapCell_29 : decode b_R_swapCell 29 = .ok (.istore 6, 2) := by decide +kernel
theorem d_R_swapCell_31 : decode b_R_swapCell 31 = .ok (.aload_n 0, 1) := by decide +kernel
theorem d_R_swapCell_32 : decode b_R_swapCell 32 = .ok (.getfield 44, 3) := by decide +kernel
theorem d_R_swapCell_35 : decode b_R_swapCell 35 = .ok (.iload_n 1, 1) := by decide +kernel
theorem d_R_swapCell_36 : decode b_R_swapCell 36 = .ok (.iaload, 1) := by decide +kernel
theorem d_R_swapCell_37 : decode b_R_swapCell 37 = .ok (.istore 7, 2) := by decide +kernel
theorem d_R_swapCell_39 : decode b_R_swapCell 39 = .ok (.aload_n 0, 1) := by decide +kernel
theorem d_R_swapCell_40 : decode b_R_swapCell 40 = .ok (.iload_n 2, 1) := by decide +kernel
theorem d_R_swapCell_41 : decode b_R_swapCell 41 = .ok (.iload_n 1, 1) := by decide +kernel
theorem d_R_swapCell_42 : decode b_R_swapCell 42 = .ok (.invokevirtual 83, 3) := by decide +kernel
theorem d_R_swapCell_45 : decode b_R_swapCell 45 = .ok (.aload_n 0, 1) := by decide +kernel
theorem d_R_swapCell_46 : decode b_R_swapCell 46 = .ok (.getfield 32, 3) := by decide +kernel
theorem d_R_swapCell_49 : decode b_R_swapCell 49 = .ok (.iload_n 2, 1) := by decide +kernel
theorem d_R_swapCell_50 : decode b_R_swapCell 50 = .ok (.iload_n 3, 1) := by decide +kernel
theorem d_R_swapCell_51 : decode b_R_swapCell 51 = .ok (.iastore, 1) := by decide +kernel
theorem d_R_swapCell_52 : decode b_R_swapCell 52 = .ok (.aload_n 0, 1) := by decide +kernel
theorem d_R_swapCell_53 : decode b_R_swapCell 53 = .ok (.getfield 35, 3) := by decide +kernel
theorem d_R_swapCell_56 : decode b_R_swapCell 56 = .ok (.iload_n 2, 1) := by decide +kernel
theorem d_R_swapCell_57 : decode b_R_swapCell 57 = .ok (.iload 4, 2) := by decide +kernel
theorem d_R_swapCell_59 : decode b_R_swapCell 59 = .ok (.iastore, 1) := by decide +kernel
theorem d_R_swapCell_60 : decode b_R_swapCell 60 = .ok (.aload_n 0, 1) := by decide +kernel
theorem d_R_swapCell_61 : decode b_R_swapCell 61 = .ok (.getfield 38, 3) := by decide +kernel
theorem d_R_swapCell_64 : decode b_R_swapCell 64 = .ok (.iload_n 2, 1) := by decide +kernel
theorem d_R_swapCell_65 : decode b_R_swapCell 65 = .ok (.iload 5, 2) := by decide +kernel
theorem d_R_swapCell_67 : decode b_R_swapCell 67 = .ok (.iastore, 1) := by decide +kernel
theorem d_R_swapCell_68 : decode b_R_swapCell 68 = .ok (.aload_n 0, 1) := by decide +kernel
theorem d_R_swapCell_69 : decode b_R_swapCell 69 = .ok (.getfield 41, 3) := by decide +kernel
theorem d_R_swapCell_72 : decode b_R_swapCell 72 = .ok (.iload_n 2, 1) := by decide +kernel
theorem d_R_swapCell_73 : decode b_R_swapCell 73 = .ok (.iload 6, 2) := by decide +kernel
theorem d_R_swapCell_75 : decode b_R_swapCell 75 = .ok (.bastore, 1) := by decide +kernel
theorem d_R_swapCell_76 : decode b_R_swapCell 76 = .ok (.aload_n 0, 1) := by decide +kernel
theorem d_R_swapCell_77 : decode b_R_swapCell 77 = .ok (.getfield 44, 3) := by decide +kernel
theorem d_R_swapCell_80 : decode b_R_swapCell 80 = .ok (.iload_n 2, 1) := by decide +kernel
theorem d_R_swapCell_81 : decode b_R_swapCell 81 = .ok (.iload 7, 2) := by decide +kernel
theorem d_R_swapCell_83 : decode b_R_swapCell 83 = .ok (.iastore, 1) := by decide +kernel
theorem d_R_swapCell_84 : decode b_R_swapCell 84 = .ok (.return_, 1) := by decide +kernel
theorem d_R_suppress_0 : decode b_R_suppress 0 = .ok (.iload_n 1, 1) := by decide +kernel
theorem d_R_suppress_1 : decode b_R_suppress 1 = .ok (.bipush 13, 2) := by decide +kernel
theorem d_R_suppress_3 : decode b_R_suppress 3 = .ok (.invokestatic 59, 3) := by decide +kernel
theorem d_R_suppress_6 : decode b_R_suppress 6 = .ok (.ifCond .ne 12, 3) := by decide +kernel
theorem d_R_suppress_9 : decode b_R_suppress 9 = .ok (.iload_n 2, 1) := by decide +kernel
theorem d_R_suppress_10 : decode b_R_suppress 10 = .ok (.bipush 11, 2) := by decide +kernel
theorem d_R_suppress_12 : decode b_R_suppress 12 = .ok (.invokestatic 59, 3) := by decide +kernel
theorem d_R_suppress_15 : decode b_R_suppress 15 = .ok (.ifCond .eq 5, 3) := by decide +kernel
theorem d_R_suppress_18 : decode b_R_suppress 18 = .ok (.iconst (-1), 1) := by decide +kernel
theorem d_R_suppress_19 : decode b_R_suppress 19 = .ok (.ireturn, 1) := by decide +kernel
theorem d_R_suppress_20 : decode b_R_suppress 20 = .ok (.aload_n 0, 1) := by decide +kernel
theorem d_R_suppress_21 : decode b_R_suppress 21 = .ok (.getfield 47, 3) := by decide +kernel
theorem d_R_suppress_24 : decode b_R_suppress 24 = .ok (.bipush 12, 2) := by decide +kernel
theorem d_R_suppress_26 : decode b_R_suppress 26 = .ok (.iload_n 1, 1) := by decide +kernel
theorem d_R_suppress_27 : decode b_R_suppress 27 = .ok (.imul, 1) := by decide +kernel
theorem d_R_suppress_28 : decode b_R_suppress 28 = .ok (.iload_n 2, 1) := by decide +kernel
theorem d_R_suppress_29 : decode b_R_suppress 29 = .ok (.iadd, 1) := by decide +kernel
theorem d_R_suppress_30 : decode b_R_suppress 30 = .ok (.baload, 1) := by decide +kernel
theorem d_R_suppress_31 : decode b_R_suppress 31 = .ok (.iload_n 3, 1) := by decide +kernel
theorem d_R_suppress_32 : decode b_R_suppress 32 = .ok (.if_icmp .ne 7, 3) := by decide +kernel
theorem d_R_suppress_35 : decode b_R_suppress 35 = .ok (.iconst 0, 1) := by decide +kernel
theorem d_R_suppress_36 : decode b_R_suppress 36 = .ok (.goto 4, 3) := by decide +kernel
theorem d_R_suppress_39 : decode b_R_suppress 39 = .ok (.iconst 1, 1) := by decide +kernel
theorem d_R_suppress_40 : decode b_R_suppress 40 = .ok (.istore 4, 2) := by decide +kernel
theorem d_R_suppress_42 : decode b_R_suppress 42 = .ok (.aload_n 0, 1) := by decide +kernel
theorem d_R_suppress_43 : decode b_R_suppress 43 = .ok (.getfield 47, 3) := by decide +kernel
theorem d_R_suppress_46 : decode b_R_suppress 46 = .ok (.bipush 12, 2) := by decide +kernel
theorem d_R_suppress_48 : decode b_R_suppress 48 = .ok (.iload_n 1, 1) := by decide +kernel
theorem d_R_suppress_49 : decode b_R_suppress 49 = .ok (.imul, 1) := by decide +kernel
theorem d_R_suppress_50 : decode b_R_suppress 50 = .ok (.iload_n 2, 1) := by decide +kernel
theorem d_R_suppress_51 : decode b_R_suppress 51 = .ok (.iadd, 1) := by decide +kernel
theorem d_R_suppress_52 : decode b_R_suppress 52 = .ok (.iload_n 3, 1) := by decide +kernel
theorem d_R_suppress_53 : decode b_R_suppress 53 = .ok (.bastore, 1) := by decide +kernel
theorem d_R_suppress_54 : decode b_R_suppress 54 = .ok (.iload 4, 2) := by decide +kernel
theorem d_R_suppress_56 : decode b_R_suppress 56 = .ok (.ireturn, 1) := by decide +kernel
theorem d_R_is_0 : decode b_R_is 0 = .ok (.iload_n 2, 1) := by decide +kernel
theorem d_R_is_1 : decode b_R_is 1 = .ok (.ifCond .lt 36, 3) := by decide +kernel
theorem d_R_is_4 : decode b_R_is 4 = .ok (.aload_n 0, 1) := by decide +kernel
theorem d_R_is_5 : decode b_R_is 5 = .ok (.getfield 7, 3) := by decide +kernel
theorem d_R_is_8 : decode b_R_is 8 = .ok (.bipush 12, 2) := by decide +kernel
theorem d_R_is_10 : decode b_R_is 10 = .ok (.iload_n 1, 1) := by decide +kernel
theorem d_R_is_11 : decode b_R_is 11 = .ok (.imul, 1) := by decide +kernel
theorem d_R_is_12 : decode b_R_is 12 = .ok (.iload_n 2, 1) := by decide +kernel
theorem d_R_is_13 : decode b_R_is 13 = .ok (.iadd, 1) := by decide +kernel
theorem d_R_is_14 : decode b_R_is 14 = .ok (.baload, 1) := by decide +kernel
theorem d_R_is_15 : decode b_R_is 15 = .ok (.ifCond .eq 22, 3) := by decide +kernel
theorem d_R_is_18 : decode b_R_is 18 = .ok (.aload_n 0, 1) := by decide +kernel
theorem d_R_is_19 : decode b_R_is 19 = .ok (.getfield 13, 3) := by decide +kernel
theorem d_R_is_22 : decode b_R_is 22 = .ok (.bipush 12, 2) := by decide +kernel
theorem d_R_is_24 : decode b_R_is 24 = .ok (.iload_n 1, 1) := by decide +kernel
theorem d_R_is_25 : decode b_R_is 25 = .ok (.imul, 1) := by decide +kernel
theorem d_R_is_26 : decode b_R_is 26 = .ok (.iload_n 2, 1) := by decide +kernel
theorem d_R_is_27 : decode b_R_is 27 = .ok (.iadd, 1) := by decide +kernel
theorem d_R_is_28 : decode b_R_is 28 = .ok (.iaload, 1) := by decide +kernel
theorem d_R_is_29 : decode b_R_is 29 = .ok (.iload_n 3, 1) := by decide +kernel
theorem d_R_is_30 : decode b_R_is 30 = .ok (.if_icmp .ne 7, 3) := by decide +kernel
theorem d_R_is_33 : decode b_R_is 33 = .ok (.iconst 1, 1) := by decide +kernel
theorem d_R_is_34 : decode b_R_is 34 = .ok (.goto 4, 3) := by decide +kernel
theorem d_R_is_37 : decode b_R_is 37 = .ok (.iconst 0, 1) := by decide +kernel
theorem d_R_is_38 : decode b_R_is 38 = .ok (.ireturn, 1) := by decide +kernel
theorem d_R_direct_0 : decode b_R_direct 0 = .ok (.bipush 12, 2) := by decide +kernel
theorem d_R_direct_2 : decode b_R_direct 2 = .ok (.iload_n 1, 1) := by decide +kernel
theorem d_R_direct_3 : decode b_R_direct 3 = .ok (.imul, 1) := by decide +kernel
theorem d_R_direct_4 : decode b_R_direct 4 = .ok (.iload_n 2, 1) := by decide +kernel
theorem d_R_direct_5 : decode b_R_direct 5 = .ok (.iadd, 1) := by decide +kernel
theorem d_R_direct_6 : decode b_R_direct 6 = .ok (.istore 4, 2) := by decide +kernel
theorem d_R_direct_8 : decode b_R_direct 8 = .ok (.aload_n 0, 1) := by decide +kernel
theorem d_R_direct_9 : decode b_R_direct 9 = .ok (.getfield 7, 3) := by decide +kernel
theorem d_R_direct_12 : decode b_R_direct 12 = .ok (.iload 4, 2) := by decide +kernel
theorem d_R_direct_14 : decode b_R_direct 14 = .ok (.baload, 1) := by decide +kernel
theorem d_R_direct_15 : decode b_R_direct 15 = .ok (.ifCond .eq 17, 3) := by decide +kernel
theorem d_R_direct_18 : decode b_R_direct 18 = .ok (.aload_n 0, 1) := by decide +kernel
theorem d_R_direct_19 : decode b_R_direct 19 = .ok (.getfield 7, 3) := by decide +kernel
theorem d_R_direct_22 : decode b_R_direct 22 = .ok (.bipush 12, 2) := by decide +kernel
theorem d_R_direct_24 : decode b_R_direct 24 = .ok (.iload_n 1, 1) := by decide +kernel
theorem d_R_direct_25 : decode b_R_direct 25 = .ok (.imul, 1) := by decide +kernel
theorem d_R_direct_26 : decode b_R_direct 26 = .ok (.iload_n 3, 1) := by decide +kernel
theorem d_R_direct_27 : decode b_R_direct 27 = .ok (.iadd, 1) := by decide +kernel
theorem d_R_direct_28 : decode b_R_direct 28 = .ok (.baload, 1) := by decide +kernel
theorem d_R_direct_29 : decode b_R_direct 29 = .ok (.ifCond .ne 5, 3) := by decide +kernel
theorem d_R_direct_32 : decode b_R_direct 32 = .ok (.iconst 0, 1) := by decide +kernel
theorem d_R_direct_33 : decode b_R_direct 33 = .ok (.ireturn, 1) := by decide +kernel
theorem d_R_direct_34 : decode b_R_direct 34 = .ok (.aload_n 0, 1) := by decide +kernel
theorem d_R_direct_35 : decode b_R_direct 35 = .ok (.getfield 13, 3) := by decide +kernel
theorem d_R_direct_38 : decode b_R_direct 38 = .ok (.bipush 12, 2) := by decide +kernel
theorem d_R_direct_40 : decode b_R_direct 40 = .ok (.iload_n 1, 1) := by decide +kernel
theorem d_R_direct_41 : decode b_R_direct 41 = .ok (.imul, 1) := by decide +kernel
theorem d_R_direct_42 : decode b_R_direct 42 = .ok (.iload_n 3, 1) := by decide +kernel
theorem d_R_direct_43 : decode b_R_direct 43 = .ok (.iadd, 1) := by decide +kernel
theorem d_R_direct_44 : decode b_R_direct 44 = .ok (.iaload, 1) := by decide +kernel
theorem d_R_direct_45 : decode b_R_direct 45 = .ok (.ifCond .ne 20, 3) := by decide +kernel
theorem d_R_direct_48 : decode b_R_direct 48 = .ok (.aload_n 0, 1) := by decide +kernel
theorem d_R_direct_49 : decode b_R_direct 49 = .ok (.getfield 20, 3) := by decide +kernel
theorem d_R_direct_52 : decode b_R_direct 52 = .ok (.iload 4, 2) := by decide +kernel
theorem d_R_direct_54 : decode b_R_direct 54 = .ok (.iaload, 1) := by decide +kernel
theorem d_R_direct_55 : decode b_R_direct 55 = .ok (.iload_n 3, 1) := by decide +kernel
theorem d_R_direct_56 : decode b_R_direct 56 = .ok (.if_icmp .ne 7, 3) := by decide +kernel
theorem d_R_direct_59 : decode b_R_direct 59 = .ok (.iconst 1, 1) := by decide +kernel
theorem d_R_direct_60 : decode b_R_direct 60 = .ok (.goto 4, 3) := by decide +kernel
theorem d_R_direct_63 : decode b_R_direct 63 = .ok (.iconst 0, 1) := by decide +kernel
theorem d_R_direct_64 : decode b_R_direct 64 = .ok (.ireturn, 1) := by decide +kernel
theorem d_R_direct_65 : decode b_R_direct 65 = .ok (.iconst 0, 1) := by decide +kernel
theorem d_R_direct_66 : decode b_R_direct 66 = .ok (.istore 5, 2) := by decide +kernel
theorem d_R_direct_68 : decode b_R_direct 68 = .ok (.iload 5, 2) := by decide +kernel
theorem d_R_direct_70 : decode b_R_direct 70 = .ok (.aload_n 0, 1) := by decide +kernel
theorem d_R_direct_71 : decode b_R_direct 71 = .ok (.getfield 23, 3) := by decide +kernel
theorem d_R_direct_74 : decode b_R_direct 74 = .ok (.iload 4, 2) := by decide +kernel
theorem d_R_direct_76 : decode b_R_direct 76 = .ok (.iaload, 1) := by decide +kernel
theorem d_R_direct_77 : decode b_R_direct 77 = .ok (.if_icmp .ge 27, 3) := by decide +kernel
theorem d_R_direct_80 : decode b_R_direct 80 = .ok (.aload_n 0, 1) := by decide +kernel
theorem d_R_direct_81 : decode b_R_direct 81 = .ok (.getfield 26, 3) := by decide +kernel
theorem d_R_direct_84 : decode b_R_direct 84 = .ok (.iconst 3, 1) := by decide +kernel
theorem d_R_direct_85 : decode b_R_direct 85 = .ok (.iload 4, 2) := by decide +kernel
theorem d_R_direct_87 : decode b_R_direct 87 = .ok (.imul, 1) := by decide +kernel
theorem d_R_direct_88 : decode b_R_direct 88 = .ok (.iload 5, 2) := by decide +kernel
theorem d_R_direct_90 : decode b_R_direct 90 = .ok (.iadd, 1) := by decide +kernel
theorem d_R_direct_91 : decode b_R_direct 91 = .ok (.iaload, 1) := by decide +kernel
theorem d_R_direct_92 : decode b_R_direct 92 = .ok (.iload_n 3, 1) := by decide +kernel
theorem d_R_direct_93 : decode b_R_direct 93 = .ok (.if_icmp .ne 5, 3) := by decide +kernel
theorem d_R_direct_96 : decode b_R_direct 96 = .ok (.iconst 1, 1) := by decide +kernel
theorem d_R_direct_97 : decode b_R_direct 97 = .ok (.ireturn, 1) := by decide +kernel
theorem d_R_direct_98 : decode b_R_direct 98 = .ok (.iinc 5 1, 3) := by decide +kernel
theorem d_R_direct_101 : decode b_R_direct 101 = .ok (.goto (-33), 3) := by decide +kernel
theorem d_R_direct_104 : decode b_R_direct 104 = .ok (.iconst 0, 1) := by decide +kernel
theorem d_R_direct_105 : decode b_R_direct 105 = .ok (.ireturn, 1) := by decide +kernel
theorem d_R_above_0 : decode b_R_above 0 = .ok (.aload_n 0, 1) := by decide +kernel
theorem d_R_above_1 : decode b_R_above 1 = .ok (.iload_n 1, 1) := by decide +kernel
theorem d_R_above_2 : decode b_R_above 2 = .ok (.iload_n 2, 1) := by decide +kernel
theorem d_R_above_3 : decode b_R_above 3 = .ok (.invokevirtual 100, 3) := by decide +kernel
theorem d_R_above_6 : decode b_R_above 6 = .ok (.iload_n 3, 1) := by decide +kernel
theorem d_R_above_7 : decode b_R_above 7 = .ok (.ishr, 1) := by decide +kernel
theorem d_R_above_8 : decode b_R_above 8 = .ok (.iconst 1, 1) := by decide +kernel
theorem d_R_above_9 : decode b_R_above 9 = .ok (.iand, 1) := by decide +kernel
theorem d_R_above_10 : decode b_R_above 10 = .ok (.ifCond .eq 7, 3) := by decide +kernel
theorem d_R_above_13 : decode b_R_above 13 = .ok (.iconst 1, 1) := by decide +kernel
theorem d_R_above_14 : decode b_R_above 14 = .ok (.goto 4, 3) := by decide +kernel
theorem d_R_above_17 : decode b_R_above 17 = .ok (.iconst 0, 1) := by decide +kernel
theorem d_R_above_18 : decode b_R_above 18 = .ok (.ireturn, 1) := by decide +kernel
theorem d_R_set_0 : decode b_R_set 0 = .ok (.iconst 0, 1) := by decide +kernel
theorem d_R_set_1 : decode b_R_set 1 = .ok (.istore_n 3, 1) := by decide +kernel
theorem d_R_set_2 : decode b_R_set 2 = .ok (.iload_n 2, 1) := by decide +kernel
theorem d_R_set_3 : decode b_R_set 3 = .ok (.iconst 1, 1) := by decide +kernel
theorem d_R_set_4 : decode b_R_set 4 = .ok (.isub, 1) := by decide +kernel
theorem d_R_set_5 : decode b_R_set 5 = .ok (.istore 4, 2) := by decide +kernel
theorem d_R_set_7 : decode b_R_set 7 = .ok (.iload 4, 2) := by decide +kernel
theorem d_R_set_9 : decode b_R_set 9 = .ok (.ifCond .lt 73, 3) := by decide +kernel
theorem d_R_set_12 : decode b_R_set 12 = .ok (.aload_n 0, 1) := by decide +kernel
theorem d_R_set_13 : decode b_R_set 13 = .ok (.iload_n 1, 1) := by decide +kernel
theorem d_R_set_14 : decode b_R_set 14 = .ok (.iload_n 2, 1) := by decide +kernel
theorem d_R_set_15 : decode b_R_set 15 = .ok (.iload 4, 2) := by decide +kernel
theorem d_R_set_17 : decode b_R_set 17 = .ok (.invokevirtual 104, 3) := by decide +kernel
theorem d_R_set_20 : decode b_R_set 20 = .ok (.istore 5, 2) := by decide +kernel
theorem d_R_set_22 : decode b_R_set 22 = .ok (.iload 4, 2) := by decide +kernel
theorem d_R_set_24 : decode b_R_set 24 = .ok (.iconst 1, 1) := by decide +kernel
theorem d_R_set_25 : decode b_R_set 25 = .ok (.iadd, 1) := by decide +kernel
theorem d_R_set_26 : decode b_R_set 26 = .ok (.istore 6, 2) := by decide +kernel
theorem d_R_set_28 : decode b_R_set 28 = .ok (.iload 6, 2) := by decide +kernel
theorem d_R_set_30 : decode b_R_set 30 = .ok (.iload_n 2, 1) := by decide +kernel
theorem d_R_set_31 : decode b_R_set 31 = .ok (.if_icmp .ge 33, 3) := by decide +kernel
theorem d_R_set_34 : decode b_R_set 34 = .ok (.iload_n 3, 1) := by decide +kernel
theorem d_R_set_35 : decode b_R_set 35 = .ok (.iload 6, 2) := by decide +kernel
theorem d_R_set_37 : decode b_R_set 37 = .ok (.ishr, 1) := by decide +kernel
theorem d_R_set_38 : decode b_R_set 38 = .ok (.iconst 1, 1) := by decide +kernel
theorem d_R_set_39 : decode b_R_set 39 = .ok (.iand, 1) := by decide +kernel
theorem d_R_set_40 : decode b_R_set 40 = .ok (.ifCond .eq 18, 3) := by decide +kernel
theorem d_R_set_43 : decode b_R_set 43 = .ok (.aload_n 0, 1) := by decide +kernel
theorem d_R_set_44 : decode b_R_set 44 = .ok (.iload_n 1, 1) := by decide +kernel
theorem d_R_set_45 : decode b_R_set 45 = .ok (.iload 6, 2) := by decide +kernel
theorem d_R_set_47 : decode b_R_set 47 = .ok (.iload 4, 2) := by decide +kernel
theorem d_R_set_49 : decode b_R_set 49 = .ok (.invokevirtual 104, 3) := by decide +kernel
theorem d_R_set_52 : decode b_R_set 52 = .ok (.ifCond .eq 6, 3) := by decide +kernel
theorem d_R_set_55 : decode b_R_set 55 = .ok (.iconst 1, 1) := by decide +kernel
theorem d_R_set_56 : decode b_R_set 56 = .ok (.istore 5, 2) := by decide +kernel
theorem d_R_set_58 : decode b_R_set 58 = .ok (.iinc 6 1, 3) := by decide +kernel
theorem d_R_set_61 : decode b_R_set 61 = .ok (.goto (-33), 3) := by decide +kernel
theorem d_R_set_64 : decode b_R_set 64 = .ok (.iload 5, 2) := by decide +kernel
theorem d_R_set_66 : decode b_R_set 66 = .ok (.ifCond .eq 10, 3) := by decide +kernel
theorem d_R_set_69 : decode b_R_set 69 = .ok (.iload_n 3, 1) := by decide +kernel
theorem d_R_set_70 : decode b_R_set 70 = .ok (.iconst 1, 1) := by decide +kernel
theorem d_R_set_71 : decode b_R_set 71 = .ok (.iload 4, 2) := by decide +kernel
theorem d_R_set_73 : decode b_R_set 73 = .ok (.ishl, 1) := by decide +kernel
theorem d_R_set_74 : decode b_R_set 74 = .ok (.ior, 1) := by decide +kernel
theorem d_R_set_75 : decode b_R_set 75 = .ok (.istore_n 3, 1) := by decide +kernel
theorem d_R_set_76 : decode b_R_set 76 = .ok (.iinc 4 (-1), 3) := by decide +kernel
theorem d_R_set_79 : decode b_R_set 79 = .ok (.goto (-72), 3) := by decide +kernel
theorem d_R_set_82 : decode b_R_set 82 = .ok (.iload_n 3, 1) := by decide +kernel
theorem d_R_set_83 : decode b_R_set 83 = .ok (.ireturn, 1) := by decide +kernel
theorem d_R_supertypes_0 : decode b_R_supertypes 0 = .ok (.iload_n 1, 1) := by decide +kernel
theorem d_R_supertypes_1 : decode b_R_supertypes 1 = .ok (.iload_n 2, 1) := by decide +kernel
theorem d_R_supertypes_2 : decode b_R_supertypes 2 = .ok (.invokestatic 63, 3) := by decide +kernel
theorem d_R_supertypes_5 : decode b_R_supertypes 5 = .ok (.ifCond .eq 7, 3) := by decide +kernel
theorem d_R_supertypes_8 : decode b_R_supertypes 8 = .ok (.iconst (-1), 1) := by decide +kernel
theorem d_R_supertypes_9 : decode b_R_supertypes 9 = .ok (.goto 9, 3) := by decide +kernel
theorem d_R_supertypes_12 : decode b_R_supertypes 12 = .ok (.aload_n 0, 1) := by decide +kernel
theorem d_R_supertypes_13 : decode b_R_supertypes 13 = .ok (.iload_n 1, 1) := by decide +kernel
theorem d_R_supertypes_14 : decode b_R_supertypes 14 = .ok (.iload_n 2, 1) := by decide +kernel
theorem d_R_supertypes_15 : decode b_R_supertypes 15 = .ok (.invokevirtual 100, 3) := by decide +kernel
theorem d_R_supertypes_18 : decode b_R_supertypes 18 = .ok (.ireturn, 1) := by decide +kernel
theorem d_R_field_0 : decode b_R_field 0 = .ok (.iconst 0, 1) := by decide +kernel
theorem d_R_field_1 : decode b_R_field 1 = .ok (.istore 4, 2) := by decide +kernel
theorem d_R_field_3 : decode b_R_field 3 = .ok (.iload 4, 2) := by decide +kernel
theorem d_R_field_5 : decode b_R_field 5 = .ok (.bipush 12, 2) := by decide +kernel
theorem d_R_field_7 : decode b_R_field 7 = .ok (.if_icmp .ge 17, 3) := by decide +kernel
theorem d_R_field_10 : decode b_R_field 10 = .ok (.aload_n 0, 1) := by decide +kernel
theorem d_R_field_11 : decode b_R_field 11 = .ok (.getfield 50, 3) := by decide +kernel
theorem d_R_field_14 : decode b_R_field 14 = .ok (.iload 4, 2) := by decide +kernel
theorem d_R_field_16 : decode b_R_field 16 = .ok (.iconst 0, 1) := by decide +kernel
theorem d_R_field_17 : decode b_R_field 17 = .ok (.bastore, 1) := by decide +kernel
theorem d_R_field_18 : decode b_R_field 18 = .ok (.iinc 4 1, 3) := by decide +kernel
theorem d_R_field_21 : decode b_R_field 21 = .ok (.goto (-18), 3) := by decide +kernel
theorem d_R_field_24 : decode b_R_field 24 = .ok (.iconst 1, 1) := by decide +kernel
theorem d_R_field_25 : decode b_R_field 25 = .ok (.istore 4, 2) := by decide +kernel
theorem d_R_field_27 : decode b_R_field 27 = .ok (.aload_n 0, 1) := by decide +kernel
theorem d_R_field_28 : decode b_R_field 28 = .ok (.getfield 53, 3) := by decide +kernel
theorem d_R_field_31 : decode b_R_field 31 = .ok (.iconst 0, 1) := by decide +kernel
theorem d_R_field_32 : decode b_R_field 32 = .ok (.iload_n 2, 1) := by decide +kernel
theorem d_R_field_33 : decode b_R_field 33 = .ok (.iastore, 1) := by decide +kernel
theorem d_R_field_34 : decode b_R_field 34 = .ok (.iload 4, 2) := by decide +kernel
theorem d_R_field_36 : decode b_R_field 36 = .ok (.ifCond .le 177, 3) := by decide +kernel
theorem d_R_field_39 : decode b_R_field 39 = .ok (.iinc 4 (-1), 3) := by decide +kernel
theorem d_R_field_42 : decode b_R_field 42 = .ok (.aload_n 0, 1) := by decide +kernel
theorem d_R_field_43 : decode b_R_field 43 = .ok (.getfield 53, 3) := by decide +kernel
theorem d_R_field_46 : decode b_R_field 46 = .ok (.iload 4, 2) := by decide +kernel
theorem d_R_field_48 : decode b_R_field 48 = .ok (.iaload, 1) := by decide +kernel
theorem d_R_field_49 : decode b_R_field 49 = .ok (.istore 5, 2) := by decide +kernel
theorem d_R_field_51 : decode b_R_field 51 = .ok (.aload_n 0, 1) := by decide +kernel
theorem d_R_field_52 : decode b_R_field 52 = .ok (.getfield 50, 3) := by decide +kernel
theorem d_R_field_55 : decode b_R_field 55 = .ok (.iload 5, 2) := by decide +kernel
theorem d_R_field_57 : decode b_R_field 57 = .ok (.baload, 1) := by decide +kernel
theorem d_R_field_58 : decode b_R_field 58 = .ok (.ifCond .eq 6, 3) := by decide +kernel
theorem d_R_field_61 : decode b_R_field 61 = .ok (.goto (-27), 3) := by decide +kernel
theorem d_R_field_64 : decode b_R_field 64 = .ok (.aload_n 0, 1) := by decide +kernel
theorem d_R_field_65 : decode b_R_field 65 = .ok (.getfield 50, 3) := by decide +kernel
theorem d_R_field_68 : decode b_R_field 68 = .ok (.iload 5, 2) := by decide +kernel
theorem d_R_field_70 : decode b_R_field 70 = .ok (.iconst 1, 1) := by decide +kernel
theorem d_R_field_71 : decode b_R_field 71 = .ok (.bastore, 1) := by decide +kernel
theorem d_R_field_72 : decode b_R_field 72 = .ok (.bipush 12, 2) := by decide +kernel
theorem d_R_field_74 : decode b_R_field 74 = .ok (.iload_n 1, 1) := by decide +kernel
theorem d_R_field_75 : decode b_R_field 75 = .ok (.imul, 1) := by decide +kernel
theorem d_R_field_76 : decode b_R_field 76 = .ok (.iload 5, 2) := by decide +kernel
theorem d_R_field_78 : decode b_R_field 78 = .ok (.iadd, 1) := by decide +kernel
theorem d_R_field_79 : decode b_R_field 79 = .ok (.istore 6, 2) := by decide +kernel
theorem d_R_field_81 : decode b_R_field 81 = .ok (.aload_n 0, 1) := by decide +kernel
theorem d_R_field_82 : decode b_R_field 82 = .ok (.iload 6, 2) := by decide +kernel
theorem d_R_field_84 : decode b_R_field 84 = .ok (.iconst 0, 1) := by decide +kernel
theorem d_R_field_85 : decode b_R_field 85 = .ok (.iload_n 3, 1) := by decide +kernel
theorem d_R_field_86 : decode b_R_field 86 = .ok (.invokevirtual 72, 3) := by decide +kernel
theorem d_R_field_89 : decode b_R_field 89 = .ok (.istore 7, 2) := by decide +kernel
theorem d_R_field_91 : decode b_R_field 91 = .ok (.iload 7, 2) := by decide +kernel
theorem d_R_field_93 : decode b_R_field 93 = .ok (.ifCond .lt 6, 3) := by decide +kernel
theorem d_R_field_96 : decode b_R_field 96 = .ok (.iload 7, 2) := by decide +kernel
theorem d_R_field_98 : decode b_R_field 98 = .ok (.ireturn, 1) := by decide +kernel
theorem d_R_field_99 : decode b_R_field 99 = .ok (.aload_n 0, 1) := by decide +kernel
theorem d_R_field_100 : decode b_R_field 100 = .ok (.getfield 13, 3) := by decide +kernel
theorem d_R_field_103 : decode b_R_field 103 = .ok (.iload 6, 2) := by decide +kernel
theorem d_R_field_105 : decode b_R_field 105 = .ok (.iaload, 1) := by decide +kernel
theorem d_R_field_106 : decode b_R_field 106 = .ok (.ifCond .ne 36, 3) := by decide +kernel
theorem d_R_field_109 : decode b_R_field 109 = .ok (.aload_n 0, 1) := by decide +kernel
theorem d_R_field_110 : decode b_R_field 110 = .ok (.iload_n 1, 1) := by decide +kernel
theorem d_R_field_111 : decode b_R_field 111 = .ok (.aload_n 0, 1) := by decide +kernel
theorem d_R_field_112 : decode b_R_field 112 = .ok (.getfield 20, 3) := by decide +kernel
theorem d_R_field_115 : decode b_R_field 115 = .ok (.iload 6, 2) := by decide +kernel
theorem d_R_field_117 : decode b_R_field 117 = .ok (.iaload, 1) := by decide +kernel
theorem d_R_field_118 : decode b_R_field 118 = .ok (.iconst 0, 1) := by decide +kernel
theorem d_R_field_119 : decode b_R_field 119 = .ok (.invokevirtual 108, 3) := by decide +kernel
theorem d_R_field_122 : decode b_R_field 122 = .ok (.ifCond .eq 20, 3) := by decide +kernel
theorem d_R_field_125 : decode b_R_field 125 = .ok (.aload_n 0, 1) := by decide +kernel
theorem d_R_field_126 : decode b_R_field 126 = .ok (.getfield 53, 3) := by decide +kernel
theorem d_R_field_129 : decode b_R_field 129 = .ok (.iload 4, 2) := by decide +kernel
theorem d_R_field_131 : decode b_R_field 131 = .ok (.aload_n 0, 1) := by decide +kernel
theorem d_R_field_132 : decode b_R_field 132 = .ok (.getfield 20, 3) := by decide +kernel
theorem d_R_field_135 : decode b_R_field 135 = .ok (.iload 6, 2) := by decide +kernel
theorem d_R_field_137 : decode b_R_field 137 = .ok (.iaload, 1) := by decide +kernel
theorem d_R_field_138 : decode b_R_field 138 = .ok (.iastore, 1) := by decide +kernel
theorem d_R_field_139 : decode b_R_field 139 = .ok (.iinc 4 1, 3) := by decide +kernel
theorem d_R_field_142 : decode b_R_field 142 = .ok (.aload_n 0, 1) := by decide +kernel
theorem d_R_field_143 : decode b_R_field 143 = .ok (.getfield 23, 3) := by decide +kernel
theorem d_R_field_146 : decode b_R_field 146 = .ok (.iload 6, 2) := by decide +kernel
theorem d_R_field_148 : decode b_R_field 148 = .ok (.iaload, 1) := by decide +kernel
theorem d_R_field_149 : decode b_R_field 149 = .ok (.iconst 1, 1) := by decide +kernel
theorem d_R_field_150 : decode b_R_field 150 = .ok (.isub, 1) := by decide +kernel
theorem d_R_field_151 : decode b_R_field 151 = .ok (.istore 8, 2) := by decide +kernel
theorem d_R_field_153 : decode b_R_field 153 = .ok (.iload 8, 2) := by decide +kernel
theorem d_R_field_155 : decode b_R_field 155 = .ok (.ifCond .lt 55, 3) := by decide +kernel
theorem d_R_field_158 : decode b_R_field 158 = .ok (.aload_n 0, 1) := by decide +kernel
theorem d_R_field_159 : decode b_R_field 159 = .ok (.iload_n 1, 1) := by decide +kernel
theorem d_R_field_160 : decode b_R_field 160 = .ok (.aload_n 0, 1) := by decide +kernel
theorem d_R_field_161 : decode b_R_field 161 = .ok (.getfield 26, 3) := by decide +kernel
theorem d_R_field_164 : decode b_R_field 164 = .ok (.iconst 3, 1) := by decide +kernel
theorem d_R_field_165 : decode b_R_field 165 = .ok (.iload 6, 2) := by decide +kernel
theorem d_R_field_167 : decode b_R_field 167 = .ok (.imul, 1) := by decide +kernel
theorem d_R_field_168 : decode b_R_field 168 = .ok (.iload 8, 2) := by decide +kernel
theorem d_R_field_170 : decode b_R_field 170 = .ok (.iadd, 1) := by decide +kernel
theorem d_R_field_171 : decode b_R_field 171 = .ok (.iaload, 1) := by decide +kernel
theorem d_R_field_172 : decode b_R_field 172 = .ok (.iconst 1, 1) := by decide +kernel
theorem d_R_field_173 : decode b_R_field 173 = .ok (.invokevirtual 108, 3) := by decide +kernel
theorem d_R_field_176 : decode b_R_field 176 = .ok (.ifCond .ne 6, 3) := by decide +kernel
theorem d_R_field_179 : decode b_R_field 179 = .ok (.goto 25, 3) := by decide +kernel
theorem d_R_field_182 : decode b_R_field 182 = .ok (.aload_n 0, 1) := by decide +kernel
theorem d_R_field_183 : decode b_R_field 183 = .ok (.getfield 53, 3) := by decide +kernel
theorem d_R_field_186 : decode b_R_field 186 = .ok (.iload 4, 2) := by decide +kernel
theorem d_R_field_188 : decode b_R_field 188 = .ok (.aload_n 0, 1) := by decide +kernel
theorem d_R_field_189 : decode b_R_field 189 = .ok (.getfield 26, 3) := by decide +kernel
theorem d_R_field_192 : decode b_R_field 192 = .ok (.iconst 3, 1) := by decide +kernel
theorem d_R_field_193 : decode b_R_field 193 = .ok (.iload 6, 2) := by decide +kernel
theorem d_R_field_195 : decode b_R_field 195 = .ok (.imul, 1) := by decide +kernel
theorem d_R_field_196 : decode b_R_field 196 = .ok (.iload 8, 2) := by decide +kernel
theorem d_R_field_198 : decode b_R_field 198 = .ok (.iadd, 1) := by decide +kernel
theorem d_R_field_199 : decode b_R_field 199 = .ok (.iaload, 1) := by decide +kernel
theorem d_R_field_200 : decode b_R_field 200 = .ok (.iastore, 1) := by decide +kernel
theorem d_R_field_201 : decode b_R_field 201 = .ok (.iinc 4 1, 3) := by decide +kernel
theorem d_R_field_204 : decode b_R_field 204 = .ok (.iinc 8 (-1), 3) := by decide +kernel
theorem d_R_field_207 : decode b_R_field 207 = .ok (.goto (-54), 3) := by decide +kernel
theorem d_R_field_210 : decode b_R_field 210 = .ok (.goto (-176), 3) := by decide +kernel
theorem d_R_field_213 : decode b_R_field 213 = .ok (.iconst (-1), 1) := by decide +kernel
theorem d_R_field_214 : decode b_R_field 214 = .ok (.ireturn, 1) := by decide +kernel
theorem d_R_method_0 : decode b_R_method 0 = .ok (.iload_n 2, 1) := by decide +kernel
theorem d_R_method_1 : decode b_R_method 1 = .ok (.istore 4, 2) := by decide +kernel
theorem d_R_method_3 : decode b_R_method 3 = .ok (.iload 4, 2) := by decide +kernel
theorem d_R_method_5 : decode b_R_method 5 = .ok (.ifCond .lt 81, 3) := by decide +kernel
theorem d_R_method_8 : decode b_R_method 8 = .ok (.aload_n 0, 1) := by decide +kernel
theorem d_R_method_9 : decode b_R_method 9 = .ok (.bipush 12, 2) := by decide +kernel
theorem d_R_method_11 : decode b_R_method 11 = .ok (.iload_n 1, 1) := by decide +kernel
theorem d_R_method_12 : decode b_R_method 12 = .ok (.imul, 1) := by decide +kernel
theorem d_R_method_13 : decode b_R_method 13 = .ok (.iload 4, 2) := by decide +kernel
theorem d_R_method_15 : decode b_R_method 15 = .ok (.iadd, 1) := by decide +kernel
theorem d_R_method_16 : decode b_R_method 16 = .ok (.iconst 1, 1) := by decide +kernel
theorem d_R_method_17 : decode b_R_method 17 = .ok (.iload_n 3, 1) := by decide +kernel
theorem d_R_method_18 : decode b_R_method 18 = .ok (.invokevirtual 72, 3) := by decide +kernel
theorem d_R_method_21 : decode b_R_method 21 = .ok (.istore 5, 2) := by decide +kernel
theorem d_R_method_23 : decode b_R_method 23 = .ok (.iload 5, 2) := by decide +kernel
theorem d_R_method_25 : decode b_R_method 25 = .ok (.ifCond .lt 6, 3) := by decide +kernel
theorem d_R_method_28 : decode b_R_method 28 = .ok (.iload 5, 2) := by decide +kernel
theorem d_R_method_30 : decode b_R_method 30 = .ok (.ireturn, 1) := by decide +kernel
theorem d_R_method_31 : decode b_R_method 31 = .ok (.aload_n 0, 1) := by decide +kernel
theorem d_R_method_32 : decode b_R_method 32 = .ok (.getfield 13, 3) := by decide +kernel
theorem d_R_method_35 : decode b_R_method 35 = .ok (.bipush 12, 2) := by decide +kernel
theorem d_R_method_37 : decode b_R_method 37 = .ok (.iload_n 1, 1) := by decide +kernel
theorem d_R_method_38 : decode b_R_method 38 = .ok (.imul, 1) := by decide +kernel
theorem d_R_method_39 : decode b_R_method 39 = .ok (.iload 4, 2) := by decide +kernel
theorem d_R_method_41 : decode b_R_method 41 = .ok (.iadd, 1) := by decide +kernel
theorem d_R_method_42 : decode b_R_method 42 = .ok (.iaload, 1) := by decide +kernel
theorem d_R_method_43 : decode b_R_method 43 = .ok (.ifCond .ne 18, 3) := by decide +kernel
theorem d_R_method_46 : decode b_R_method 46 = .ok (.aload_n 0, 1) := by decide +kernel
theorem d_R_method_47 : decode b_R_method 47 = .ok (.getfield 20, 3) := by decide +kernel
theorem d_R_method_50 : decode b_R_method 50 = .ok (.bipush 12, 2) := by decide +kernel
theorem d_R_method_52 : decode b_R_method 52 = .ok (.iload_n 1, 1) := by decide +kernel
theorem d_R_method_53 : decode b_R_method 53 = .ok (.imul, 1) := by decide +kernel
theorem d_R_method_54 : decode b_R_method 54 = .ok (.iload 4, 2) := by decide +kernel
theorem d_R_method_56 : decode b_R_method 56 = .ok (.iadd, 1) := by decide +kernel
theorem d_R_method_57 : decode b_R_method 57 = .ok (.iaload, 1) := by decide +kernel
theorem d_R_method_58 : decode b_R_method 58 = .ok (.goto 4, 3) := by decide +kernel
theorem d_R_method_61 : decode b_R_method 61 = .ok (.iconst (-1), 1) := by decide +kernel
theorem d_R_method_62 : decode b_R_method 62 = .ok (.istore 6, 2) := by decide +kernel
theorem d_R_method_64 : decode b_R_method 64 = .ok (.aload_n 0, 1) := by decide +kernel
theorem d_R_method_65 : decode b_R_method 65 = .ok (.iload_n 1, 1) := by decide +kernel
theorem d_R_method_66 : decode b_R_method 66 = .ok (.iload 6, 2) := by decide +kernel
theorem d_R_method_68 : decode b_R_method 68 = .ok (.iconst 0, 1) := by decide +kernel
theorem d_R_method_69 : decode b_R_method 69 = .ok (.invokevirtual 108, 3) := by decide +kernel
theorem d_R_method_72 : decode b_R_method 72 = .ok (.ifCond .eq 8, 3) := by decide +kernel
theorem d_R_method_75 : decode b_R_method 75 = .ok (.iload 6, 2) := by decide +kernel
theorem d_R_method_77 : decode b_R_method 77 = .ok (.goto 4, 3) := by decide +kernel
theorem d_R_method_80 : decode b_R_method 80 = .ok (.iconst (-1), 1) := by decide +kernel
theorem d_R_method_81 : decode b_R_method 81 = .ok (.istore 4, 2) := by decide +kernel
theorem d_R_method_83 : decode b_R_method 83 = .ok (.goto (-80), 3) := by decide +kernel
theorem d_R_method_86 : decode b_R_method 86 = .ok (.iconst (-1), 1) := by decide +kernel
theorem d_R_method_87 : decode b_R_method 87 = .ok (.istore 5, 2) := by decide +kernel
theorem d_R_method_89 : decode b_R_method 89 = .ok (.iconst 0, 1) := by decide +kernel
theorem d_R_method_90 : decode b_R_method 90 = .ok (.istore 6, 2) := by decide +kernel
theorem d_R_method_92 : decode b_R_method 92 = .ok (.iload 6, 2) := by decide +kernel
theorem d_R_method_94 : decode b_R_method 94 = .ok (.iload_n 2, 1) := by decide +kernel
theorem d_R_method_95 : decode b_R_method 95 = .ok (.if_icmp .ge 106, 3) := by decide +kernel
theorem d_R_method_98 : decode b_R_method 98 = .ok (.aload_n 0, 1) := by decide +kernel
theorem d_R_method_99 : decode b_R_method 99 = .ok (.bipush 12, 2) := by decide +kernel
theorem d_R_method_101 : decode b_R_method 101 = .ok (.iload_n 1, 1) := by decide +kernel
theorem d_R_method_102 : decode b_R_method 102 = .ok (.imul, 1) := by decide +kernel
theorem d_R_method_103 : decode b_R_method 103 = .ok (.iload 6, 2) := by decide +kernel
theorem d_R_method_105 : decode b_R_method 105 = .ok (.iadd, 1) := by decide +kernel
theorem d_R_method_106 : decode b_R_method 106 = .ok (.iconst 1, 1) := by decide +kernel
theorem d_R_method_107 : decode b_R_method 107 = .ok (.iload_n 3, 1) := by decide +kernel
theorem d_R_method_108 : decode b_R_method 108 = .ok (.invokevirtual 72, 3) := by decide +kernel
theorem d_R_method_111 : decode b_R_method 111 = .ok (.istore 7, 2) := by decide +kernel
theorem d_R_method_113 : decode b_R_method 113 = .ok (.iload 7, 2) := by decide +kernel
theorem d_R_method_115 : decode b_R_method 115 = .ok (.ifCond .lt 80, 3) := by decide +kernel
theorem d_R_method_118 : decode b_R_method 118 = .ok (.aload_n 0, 1) := by decide +kernel
theorem d_R_method_119 : decode b_R_method 119 = .ok (.iload_n 1, 1) := by decide +kernel
theorem d_R_method_120 : decode b_R_method 120 = .ok (.iload 6, 2) := by decide +kernel
theorem d_R_method_122 : decode b_R_method 122 = .ok (.iconst 1, 1) := by decide +kernel
theorem d_R_method_123 : decode b_R_method 123 = .ok (.invokevirtual 108, 3) := by decide +kernel
theorem d_R_method_126 : decode b_R_method 126 = .ok (.ifCond .eq 69, 3) := by decide +kernel
theorem d_R_method_129 : decode b_R_method 129 = .ok (.aload_n 0, 1) := by decide +kernel
theorem d_R_method_130 : decode b_R_method 130 = .ok (.iload_n 1, 1) := by decide +kernel
theorem d_R_method_131 : decode b_R_method 131 = .ok (.iload_n 2, 1) := by decide +kernel
theorem d_R_method_132 : decode b_R_method 132 = .ok (.iload 6, 2) := by decide +kernel
theorem d_R_method_134 : decode b_R_method 134 = .ok (.invokevirtual 111, 3) := by decide +kernel
theorem d_R_method_137 : decode b_R_method 137 = .ok (.ifCond .ne 6, 3) := by decide +kernel
theorem d_R_method_140 : decode b_R_method 140 = .ok (.goto 55, 3) := by decide +kernel
theorem d_R_method_143 : decode b_R_method 143 = .ok (.aload_n 0, 1) := by decide +kernel
theorem d_R_method_144 : decode b_R_method 144 = .ok (.getfield 38, 3) := by decide +kernel
theorem d_R_method_147 : decode b_R_method 147 = .ok (.iload 7, 2) := by decide +kernel
theorem d_R_method_149 : decode b_R_method 149 = .ok (.iaload, 1) := by decide +kernel
theorem d_R_method_150 : decode b_R_method 150 = .ok (.bipush 20, 2) := by decide +kernel
theorem d_R_method_152 : decode b_R_method 152 = .ok (.iand, 1) := by decide +kernel
theorem d_R_method_153 : decode b_R_method 153 = .ok (.ifCond .ne 18, 3) := by decide +kernel
theorem d_R_method_156 : decode b_R_method 156 = .ok (.aload_n 0, 1) := by decide +kernel
theorem d_R_method_157 : decode b_R_method 157 = .ok (.getfield 38, 3) := by decide +kernel
theorem d_R_method_160 : decode b_R_method 160 = .ok (.iload 7, 2) := by decide +kernel
theorem d_R_method_162 : decode b_R_method 162 = .ok (.iaload, 1) := by decide +kernel
theorem d_R_method_163 : decode b_R_method 163 = .ok (.iconst 3, 1) := by decide +kernel
theorem d_R_method_164 : decode b_R_method 164 = .ok (.iand, 1) := by decide +kernel
theorem d_R_method_165 : decode b_R_method 165 = .ok (.ifCond .eq 6, 3) := by decide +kernel
theorem d_R_method_168 : decode b_R_method 168 = .ok (.iload 7, 2) := by decide +kernel
theorem d_R_method_170 : decode b_R_method 170 = .ok (.ireturn, 1) := by decide +kernel
theorem d_R_method_171 : decode b_R_method 171 = .ok (.aload_n 0, 1) := by decide +kernel
theorem d_R_method_172 : decode b_R_method 172 = .ok (.getfield 38, 3) := by decide +kernel
theorem d_R_method_175 : decode b_R_method 175 = .ok (.iload 7, 2) := by decide +kernel
theorem d_R_method_177 : decode b_R_method 177 = .ok (.iaload, 1) := by decide +kernel
theorem d_R_method_178 : decode b_R_method 178 = .ok (.bipush 16, 2) := by decide +kernel
theorem d_R_method_180 : decode b_R_method 180 = .ok (.invokestatic 66, 3) := by decide +kernel
theorem d_R_method_183 : decode b_R_method 183 = .ok (.ifCond .eq 12, 3) := by decide +kernel
theorem d_R_method_186 : decode b_R_method 186 = .ok (.iload 5, 2) := by decide +kernel
theorem d_R_method_188 : decode b_R_method 188 = .ok (.ifCond .ge 7, 3) := by decide +kernel
theorem d_R_method_191 : decode b_R_method 191 = .ok (.iload 7, 2) := by decide +kernel
theorem d_R_method_193 : decode b_R_method 193 = .ok (.istore 5, 2) := by decide +kernel
theorem d_R_method_195 : decode b_R_method 195 = .ok (.iinc 6 1, 3) := by decide +kernel
theorem d_R_method_198 : decode b_R_method 198 = .ok (.goto (-106), 3) := by decide +kernel
theorem d_R_method_201 : decode b_R_method 201 = .ok (.iload 5, 2) := by decide +kernel
theorem d_R_method_203 : decode b_R_method 203 = .ok (.ireturn, 1) := by decide +kernel
theorem d_R_find_0 : decode b_R_find 0 = .ok (.aload_n 0, 1) := by decide +kernel
theorem d_R_find_1 : decode b_R_find 1 = .ok (.getfield 7, 3) := by decide +kernel
theorem d_R_find_4 : decode b_R_find 4 = .ok (.bipush 12, 2) := by decide +kernel
theorem d_R_find_6 : decode b_R_find 6 = .ok (.iload_n 1, 1) := by decide +kernel
theorem d_R_find_7 : decode b_R_find 7 = .ok (.imul, 1) := by decide +kernel
theorem d_R_find_8 : decode b_R_find 8 = .ok (.iload_n 2, 1) := by decide +kernel
theorem d_R_find_9 : decode b_R_find 9 = .ok (.iadd, 1) := by decide +kernel
theorem d_R_find_10 : decode b_R_find 10 = .ok (.baload, 1) := by decide +kernel
theorem d_R_find_11 : decode b_R_find 11 = .ok (.ifCond .ne 5, 3) := by decide +kernel
theorem d_R_find_14 : decode b_R_find 14 = .ok (.iconst (-1), 1) := by decide +kernel
theorem d_R_find_15 : decode b_R_find 15 = .ok (.ireturn, 1) := by decide +kernel
theorem d_R_find_16 : decode b_R_find 16 = .ok (.iload_n 3, 1) := by decide +kernel
theorem d_R_find_17 : decode b_R_find 17 = .ok (.ifCond .ne 14, 3) := by decide +kernel
theorem d_R_find_20 : decode b_R_find 20 = .ok (.aload_n 0, 1) := by decide +kernel
theorem d_R_find_21 : decode b_R_find 21 = .ok (.iload_n 1, 1) := by decide +kernel
theorem d_R_find_22 : decode b_R_find 22 = .ok (.iload_n 2, 1) := by decide +kernel
theorem d_R_find_23 : decode b_R_find 23 = .ok (.iload 4, 2) := by decide +kernel
theorem d_R_find_25 : decode b_R_find 25 = .ok (.invokevirtual 114, 3) := by decide +kernel
theorem d_R_find_28 : decode b_R_find 28 = .ok (.goto 32, 3) := by decide +kernel
theorem d_R_find_31 : decode b_R_find 31 = .ok (.iload_n 3, 1) := by decide +kernel
theorem d_R_find_32 : decode b_R_find 32 = .ok (.iconst 1, 1) := by decide +kernel
theorem d_R_find_33 : decode b_R_find 33 = .ok (.if_icmp .ne 14, 3) := by decide +kernel
theorem d_R_find_36 : decode b_R_find 36 = .ok (.aload_n 0, 1) := by decide +kernel
theorem d_R_find_37 : decode b_R_find 37 = .ok (.iload_n 1, 1) := by decide +kernel
theorem d_R_find_38 : decode b_R_find 38 = .ok (.iload_n 2, 1) := by decide +kernel
theorem d_R_find_39 : decode b_R_find 39 = .ok (.iload 4, 2) := by decide +kernel
theorem d_R_find_41 : decode b_R_find 41 = .ok (.invokevirtual 117, 3) := by decide +kernel
theorem d_R_find_44 : decode b_R_find 44 = .ok (.goto 16, 3) := by decide +kernel
theorem d_R_find_47 : decode b_R_find 47 = .ok (.aload_n 0, 1) := by decide +kernel
theorem d_R_find_48 : decode b_R_find 48 = .ok (.bipush 12, 2) := by decide +kernel
theorem d_R_find_50 : decode b_R_find 50 = .ok (.iload_n 1, 1) := by decide +kernel
theorem d_R_find_51 : decode b_R_find 51 = .ok (.imul, 1) := by decide +kernel
theorem d_R_find_52 : decode b_R_find 52 = .ok (.iload_n 2, 1) := by decide +kernel
theorem d_R_find_53 : decode b_R_find 53 = .ok (.iadd, 1) := by decide +kernel
theorem d_R_find_54 : decode b_R_find 54 = .ok (.iconst 2, 1) := by decide +kernel
theorem d_R_find_55 : decode b_R_find 55 = .ok (.iload 4, 2) := by decide +kernel
theorem d_R_find_57 : decode b_R_find 57 = .ok (.invokevirtual 72, 3) := by decide +kernel
theorem d_R_find_60 : decode b_R_find 60 = .ok (.ireturn, 1) := by decide +kernel
theorem d_R_look_0 : decode b_R_look 0 = .ok (.iload_n 1, 1) := by decide +kernel
theorem d_R_look_1 : decode b_R_look 1 = .ok (.iload_n 2, 1) := by decide +kernel
theorem d_R_look_2 : decode b_R_look 2 = .ok (.invokestatic 63, 3) := by decide +kernel
theorem d_R_look_5 : decode b_R_look 5 = .ok (.ifCond .ne 12, 3) := by decide +kernel
theorem d_R_look_8 : decode b_R_look 8 = .ok (.iload_n 3, 1) := by decide +kernel
theorem d_R_look_9 : decode b_R_look 9 = .ok (.iload 4, 2) := by decide +kernel
theorem d_R_look_11 : decode b_R_look 11 = .ok (.invokestatic 69, 3) := by decide +kernel
theorem d_R_look_14 : decode b_R_look 14 = .ok (.ifCond .eq 5, 3) := by decide +kernel
theorem d_R_look_17 : decode b_R_look 17 = .ok (.iconst (-1), 1) := by decide +kernel
theorem d_R_look_18 : decode b_R_look 18 = .ok (.ireturn, 1) := by decide +kernel
theorem d_R_look_19 : decode b_R_look 19 = .ok (.aload_n 0, 1) := by decide +kernel
theorem d_R_look_20 : decode b_R_look 20 = .ok (.iload_n 1, 1) := by decide +kernel
theorem d_R_look_21 : decode b_R_look 21 = .ok (.iload_n 2, 1) := by decide +kernel
theorem d_R_look_22 : decode b_R_look 22 = .ok (.iload_n 3, 1) := by decide +kernel
theorem d_R_look_23 : decode b_R_look 23 = .ok (.iload 4, 2) := by decide +kernel
theorem d_R_look_25 : decode b_R_look 25 = .ok (.invokevirtual 120, 3) := by decide +kernel
theorem d_R_look_28 : decode b_R_look 28 = .ok (.istore 5, 2) := by decide +kernel
theorem d_R_look_30 : decode b_R_look 30 = .ok (.iload 5, 2) := by decide +kernel
theorem d_R_look_32 : decode b_R_look 32 = .ok (.ifCond .ge 8, 3) := by decide +kernel
theorem d_R_look_35 : decode b_R_look 35 = .ok (.bipush 12, 2) := by decide +kernel
theorem d_R_look_37 : decode b_R_look 37 = .ok (.goto 13, 3) := by decide +kernel
theorem d_R_look_40 : decode b_R_look 40 = .ok (.iload 5, 2) := by decide +kernel
theorem d_R_look_42 : decode b_R_look 42 = .ok (.bipush 8, 2) := by decide +kernel
theorem d_R_look_44 : decode b_R_look 44 = .ok (.idiv, 1) := by decide +kernel
theorem d_R_look_45 : decode b_R_look 45 = .ok (.bipush 12, 2) := by decide +kernel
theorem d_R_look_47 : decode b_R_look 47 = .ok (.iload_n 1, 1) := by decide +kernel
theorem d_R_look_48 : decode b_R_look 48 = .ok (.imul, 1) := by decide +kernel
theorem d_R_look_49 : decode b_R_look 49 = .ok (.isub, 1) := by decide +kernel
theorem d_R_look_50 : decode b_R_look 50 = .ok (.ireturn, 1) := by decide +kernel
theorem d_R_severity_0 : decode b_R_severity 0 = .ok (.iload_n 0, 1) := by decide +kernel
theorem d_R_severity_1 : decode b_R_severity 1 = .ok (.bipush 9, 2) := by decide +kernel
theorem d_R_severity_3 : decode b_R_severity 3 = .ok (.if_icmp .eq 9, 3) := by decide +kernel
theorem d_R_severity_6 : decode b_R_severity 6 = .ok (.iload_n 0, 1) := by decide +kernel
theorem d_R_severity_7 : decode b_R_severity 7 = .ok (.bipush 13, 2) := by decide +kernel
theorem d_R_severity_9 : decode b_R_severity 9 = .ok (.if_icmp .ne 7, 3) := by decide +kernel
theorem d_R_severity_12 : decode b_R_severity 12 = .ok (.iconst 1, 1) := by decide +kernel
theorem d_R_severity_13 : decode b_R_severity 13 = .ok (.goto 36, 3) := by decide +kernel
theorem d_R_severity_16 : decode b_R_severity 16 = .ok (.iload_n 0, 1) := by decide +kernel
theorem d_R_severity_17 : decode b_R_severity 17 = .ok (.iconst 2, 1) := by decide +kernel
theorem d_R_severity_18 : decode b_R_severity 18 = .ok (.if_icmp .eq 26, 3) := by decide +kernel
theorem d_R_severity_21 : decode b_R_severity 21 = .ok (.iload_n 0, 1) := by decide +kernel
theorem d_R_severity_22 : decode b_R_severity 22 = .ok (.iconst 3, 1) := by decide +kernel
theorem d_R_severity_23 : decode b_R_severity 23 = .ok (.if_icmp .eq 21, 3) := by decide +kernel
theorem d_R_severity_26 : decode b_R_severity 26 = .ok (.iload_n 0, 1) := by decide +kernel
theorem d_R_severity_27 : decode b_R_severity 27 = .ok (.bipush 8, 2) := by decide +kernel
theorem d_R_severity_29 : decode b_R_severity 29 = .ok (.if_icmp .eq 15, 3) := by decide +kernel
theorem d_R_severity_32 : decode b_R_severity 32 = .ok (.iload_n 0, 1) := by decide +kernel
theorem d_R_severity_33 : decode b_R_severity 33 = .ok (.bipush 11, 2) := by decide +kernel
theorem d_R_severity_35 : decode b_R_severity 35 = .ok (.if_icmp .eq 9, 3) := by decide +kernel
theorem d_R_severity_38 : decode b_R_severity 38 = .ok (.iload_n 0, 1) := by decide +kernel
theorem d_R_severity_39 : decode b_R_severity 39 = .ok (.bipush 12, 2) := by decide +kernel
theorem d_R_severity_41 : decode b_R_severity 41 = .ok (.if_icmp .ne 7, 3) := by decide +kernel
theorem d_R_severity_44 : decode b_R_severity 44 = .ok (.iconst 2, 1) := by decide +kernel
theorem d_R_severity_45 : decode b_R_severity 45 = .ok (.goto 4, 3) := by decide +kernel
theorem d_R_severity_48 : decode b_R_severity 48 = .ok (.iconst 3, 1) := by decide +kernel
theorem d_R_severity_49 : decode b_R_severity 49 = .ok (.ireturn, 1) := by decide +kernel
theorem d_R_tell_0 : decode b_R_tell 0 = .ok (.aload_n 0, 1) := by decide +kernel
theorem d_R_tell_1 : decode b_R_tell 1 = .ok (.getfield 124, 3) := by decide +kernel
theorem d_R_tell_4 : decode b_R_tell 4 = .ok (.aload_n 0, 1) := by decide +kernel
theorem d_R_tell_5 : decode b_R_tell 5 = .ok (.getfield 128, 3) := by decide +kernel
theorem d_R_tell_8 : decode b_R_tell 8 = .ok (.if_icmp .ne 18, 3) := by decide +kernel
theorem d_R_tell_11 : decode b_R_tell 11 = .ok (.aload_n 0, 1) := by decide +kernel
theorem d_R_tell_12 : decode b_R_tell 12 = .ok (.iload_n 1, 1) := by decide +kernel
theorem d_R_tell_13 : decode b_R_tell 13 = .ok (.putfield 131, 3) := by decide +kernel
theorem d_R_tell_16 : decode b_R_tell 16 = .ok (.aload_n 0, 1) := by decide +kernel
theorem d_R_tell_17 : decode b_R_tell 17 = .ok (.iload_n 2, 1) := by decide +kernel
theorem d_R_tell_18 : decode b_R_tell 18 = .ok (.putfield 134, 3) := by decide +kernel
theorem d_R_tell_21 : decode b_R_tell 21 = .ok (.aload_n 0, 1) := by decide +kernel
theorem d_R_tell_22 : decode b_R_tell 22 = .ok (.iload_n 3, 1) := by decide +kernel
theorem d_R_tell_23 : decode b_R_tell 23 = .ok (.putfield 137, 3) := by decide +kernel
theorem d_R_tell_26 : decode b_R_tell 26 = .ok (.aload_n 0, 1) := by decide +kernel
theorem d_R_tell_27 : decode b_R_tell 27 = .ok (.dup, 1) := by decide +kernel
theorem d_R_tell_28 : decode b_R_tell 28 = .ok (.getfield 124, 3) := by decide +kernel
theorem d_R_tell_31 : decode b_R_tell 31 = .ok (.iconst 1, 1) := by decide +kernel
theorem d_R_tell_32 : decode b_R_tell 32 = .ok (.iadd, 1) := by decide +kernel
theorem d_R_tell_33 : decode b_R_tell 33 = .ok (.putfield 124, 3) := by decide +kernel
theorem d_R_tell_36 : decode b_R_tell 36 = .ok (.aload_n 0, 1) := by decide +kernel
theorem d_R_tell_37 : decode b_R_tell 37 = .ok (.getfield 47, 3) := by decide +kernel
theorem d_R_tell_40 : decode b_R_tell 40 = .ok (.bipush 12, 2) := by decide +kernel
theorem d_R_tell_42 : decode b_R_tell 42 = .ok (.iload_n 1, 1) := by decide +kernel
theorem d_R_tell_43 : decode b_R_tell 43 = .ok (.imul, 1) := by decide +kernel
theorem d_R_tell_44 : decode b_R_tell 44 = .ok (.iload_n 2, 1) := by decide +kernel
theorem d_R_tell_45 : decode b_R_tell 45 = .ok (.iadd, 1) := by decide +kernel
theorem d_R_tell_46 : decode b_R_tell 46 = .ok (.baload, 1) := by decide +kernel
theorem d_R_tell_47 : decode b_R_tell 47 = .ok (.ifCond .eq 4, 3) := by decide +kernel
theorem d_R_tell_50 : decode b_R_tell 50 = .ok (.return_, 1) := by decide +kernel
theorem d_R_tell_51 : decode b_R_tell 51 = .ok (.aload_n 0, 1) := by decide +kernel
theorem d_R_tell_52 : decode b_R_tell 52 = .ok (.getfield 56, 3) := by decide +kernel
theorem d_R_tell_55 : decode b_R_tell 55 = .ok (.iload_n 1, 1) := by decide +kernel
