theorem d_R_tell_56 : decode b_R_tell 56 = .ok (.dup2, 1) := by decide +kernel
theorem d_R_tell_57 : decode b_R_tell 57 = .ok (.iaload, 1) := by decide +kernel
theorem d_R_tell_58 : decode b_R_tell 58 = .ok (.iconst 1, 1) := by decide +kernel
theorem d_R_tell_59 : decode b_R_tell 59 = .ok (.iadd, 1) := by decide +kernel
theorem d_R_tell_60 : decode b_R_tell 60 = .ok (.iastore, 1) := by decide +kernel
theorem d_R_tell_61 : decode b_R_tell 61 = .ok (.iload_n 1, 1) := by decide +kernel
theorem d_R_tell_62 : decode b_R_tell 62 = .ok (.invokestatic 140, 3) := by decide +kernel
theorem d_R_tell_65 : decode b_R_tell 65 = .ok (.aload_n 0, 1) := by decide +kernel
theorem d_R_tell_66 : decode b_R_tell 66 = .ok (.getfield 143, 3) := by decide +kernel
theorem d_R_tell_69 : decode b_R_tell 69 = .ok (.if_icmp .le 11, 3) := by decide +kernel
theorem d_R_tell_72 : decode b_R_tell 72 = .ok (.aload_n 0, 1) := by decide +kernel
theorem d_R_tell_73 : decode b_R_tell 73 = .ok (.iload_n 1, 1) := by decide +kernel
theorem d_R_tell_74 : decode b_R_tell 74 = .ok (.invokestatic 140, 3) := by decide +kernel
theorem d_R_tell_77 : decode b_R_tell 77 = .ok (.putfield 143, 3) := by decide +kernel
theorem d_R_tell_80 : decode b_R_tell 80 = .ok (.return_, 1) := by decide +kernel
theorem d_R_breaks_0 : decode b_R_breaks 0 = .ok (.iload_n 1, 1) := by decide +kernel
theorem d_R_breaks_1 : decode b_R_breaks 1 = .ok (.iconst 5, 1) := by decide +kernel
theorem d_R_breaks_2 : decode b_R_breaks 2 = .ok (.if_icmp .eq 8, 3) := by decide +kernel
theorem d_R_breaks_5 : decode b_R_breaks 5 = .ok (.iload 4, 2) := by decide +kernel
theorem d_R_breaks_7 : decode b_R_breaks 7 = .ok (.ifCond .ge 19, 3) := by decide +kernel
theorem d_R_breaks_10 : decode b_R_breaks 10 = .ok (.iload_n 1, 1) := by decide +kernel
theorem d_R_breaks_11 : decode b_R_breaks 11 = .ok (.iconst 5, 1) := by decide +kernel
theorem d_R_breaks_12 : decode b_R_breaks 12 = .ok (.if_icmp .ne 12, 3) := by decide +kernel
theorem d_R_breaks_15 : decode b_R_breaks 15 = .ok (.iload 4, 2) := by decide +kernel
theorem d_R_breaks_17 : decode b_R_breaks 17 = .ok (.ifCond .ge 7, 3) := by decide +kernel
theorem d_R_breaks_20 : decode b_R_breaks 20 = .ok (.iconst 1, 1) := by decide +kernel
theorem d_R_breaks_21 : decode b_R_breaks 21 = .ok (.goto 4, 3) := by decide +kernel
theorem d_R_breaks_24 : decode b_R_breaks 24 = .ok (.iconst 0, 1) := by decide +kernel
theorem d_R_breaks_25 : decode b_R_breaks 25 = .ok (.ireturn, 1) := by decide +kernel
theorem d_R_breaks_26 : decode b_R_breaks 26 = .ok (.aload_n 0, 1) := by decide +kernel
theorem d_R_breaks_27 : decode b_R_breaks 27 = .ok (.getfield 38, 3) := by decide +kernel
theorem d_R_breaks_30 : decode b_R_breaks 30 = .ok (.iload_n 3, 1) := by decide +kernel
theorem d_R_breaks_31 : decode b_R_breaks 31 = .ok (.iaload, 1) := by decide +kernel
theorem d_R_breaks_32 : decode b_R_breaks 32 = .ok (.istore 5, 2) := by decide +kernel
theorem d_R_breaks_34 : decode b_R_breaks 34 = .ok (.aload_n 0, 1) := by decide +kernel
theorem d_R_breaks_35 : decode b_R_breaks 35 = .ok (.getfield 38, 3) := by decide +kernel
theorem d_R_breaks_38 : decode b_R_breaks 38 = .ok (.iload 4, 2) := by decide +kernel
theorem d_R_breaks_40 : decode b_R_breaks 40 = .ok (.iaload, 1) := by decide +kernel
theorem d_R_breaks_41 : decode b_R_breaks 41 = .ok (.istore 6, 2) := by decide +kernel
theorem d_R_breaks_43 : decode b_R_breaks 43 = .ok (.iload_n 1, 1) := by decide +kernel
theorem d_R_breaks_44 : decode b_R_breaks 44 = .ok (.tableswitch 181 6 10 #[36, 53, 69, 104, 145], 36) := by decide +kernel
theorem d_R_breaks_80 : decode b_R_breaks 80 = .ok (.iload 6, 2) := by decide +kernel
theorem d_R_breaks_82 : decode b_R_breaks 82 = .ok (.iconst 3, 1) := by decide +kernel
theorem d_R_breaks_83 : decode b_R_breaks 83 = .ok (.iand, 1) := by decide +kernel
theorem d_R_breaks_84 : decode b_R_breaks 84 = .ok (.iload 5, 2) := by decide +kernel
theorem d_R_breaks_86 : decode b_R_breaks 86 = .ok (.iconst 3, 1) := by decide +kernel
theorem d_R_breaks_87 : decode b_R_breaks 87 = .ok (.iand, 1) := by decide +kernel
theorem d_R_breaks_88 : decode b_R_breaks 88 = .ok (.if_icmp .ge 7, 3) := by decide +kernel
theorem d_R_breaks_91 : decode b_R_breaks 91 = .ok (.iconst 1, 1) := by decide +kernel
theorem d_R_breaks_92 : decode b_R_breaks 92 = .ok (.goto 4, 3) := by decide +kernel
theorem d_R_breaks_95 : decode b_R_breaks 95 = .ok (.iconst 0, 1) := by decide +kernel
theorem d_R_breaks_96 : decode b_R_breaks 96 = .ok (.ireturn, 1) := by decide +kernel
theorem d_R_breaks_97 : decode b_R_breaks 97 = .ok (.iload 5, 2) := by decide +kernel
theorem d_R_breaks_99 : decode b_R_breaks 99 = .ok (.iload 6, 2) := by decide +kernel
theorem d_R_breaks_101 : decode b_R_breaks 101 = .ok (.ixor, 1) := by decide +kernel
theorem d_R_breaks_102 : decode b_R_breaks 102 = .ok (.iconst 4, 1) := by decide +kernel
theorem d_R_breaks_103 : decode b_R_breaks 103 = .ok (.iand, 1) := by decide +kernel
theorem d_R_breaks_104 : decode b_R_breaks 104 = .ok (.ifCond .eq 7, 3) := by decide +kernel
theorem d_R_breaks_107 : decode b_R_breaks 107 = .ok (.iconst 1, 1) := by decide +kernel
theorem d_R_breaks_108 : decode b_R_breaks 108 = .ok (.goto 4, 3) := by decide +kernel
theorem d_R_breaks_111 : decode b_R_breaks 111 = .ok (.iconst 0, 1) := by decide +kernel
theorem d_R_breaks_112 : decode b_R_breaks 112 = .ok (.ireturn, 1) := by decide +kernel
theorem d_R_breaks_113 : decode b_R_breaks 113 = .ok (.aload_n 0, 1) := by decide +kernel
theorem d_R_breaks_114 : decode b_R_breaks 114 = .ok (.getfield 32, 3) := by decide +kernel
theorem d_R_breaks_117 : decode b_R_breaks 117 = .ok (.iload_n 3, 1) := by decide +kernel
theorem d_R_breaks_118 : decode b_R_breaks 118 = .ok (.iaload, 1) := by decide +kernel
theorem d_R_breaks_119 : decode b_R_breaks 119 = .ok (.ifCond .ne 27, 3) := by decide +kernel
theorem d_R_breaks_122 : decode b_R_breaks 122 = .ok (.iload 5, 2) := by decide +kernel
theorem d_R_breaks_124 : decode b_R_breaks 124 = .ok (.bipush 8, 2) := by decide +kernel
theorem d_R_breaks_126 : decode b_R_breaks 126 = .ok (.invokestatic 66, 3) := by decide +kernel
theorem d_R_breaks_129 : decode b_R_breaks 129 = .ok (.ifCond .ne 17, 3) := by decide +kernel
theorem d_R_breaks_132 : decode b_R_breaks 132 = .ok (.iload 6, 2) := by decide +kernel
theorem d_R_breaks_134 : decode b_R_breaks 134 = .ok (.bipush 8, 2) := by decide +kernel
theorem d_R_breaks_136 : decode b_R_breaks 136 = .ok (.invokestatic 66, 3) := by decide +kernel
theorem d_R_breaks_139 : decode b_R_breaks 139 = .ok (.ifCond .eq 7, 3) := by decide +kernel
theorem d_R_breaks_142 : decode b_R_breaks 142 = .ok (.iconst 1, 1) := by decide +kernel
theorem d_R_breaks_143 : decode b_R_breaks 143 = .ok (.goto 4, 3) := by decide +kernel
theorem d_R_breaks_146 : decode b_R_breaks 146 = .ok (.iconst 0, 1) := by decide +kernel
theorem d_R_breaks_147 : decode b_R_breaks 147 = .ok (.ireturn, 1) := by decide +kernel
theorem d_R_breaks_148 : decode b_R_breaks 148 = .ok (.aload_n 0, 1) := by decide +kernel
theorem d_R_breaks_149 : decode b_R_breaks 149 = .ok (.getfield 41, 3) := by decide +kernel
theorem d_R_breaks_152 : decode b_R_breaks 152 = .ok (.iload_n 3, 1) := by decide +kernel
theorem d_R_breaks_153 : decode b_R_breaks 153 = .ok (.baload, 1) := by decide +kernel
theorem d_R_breaks_154 : decode b_R_breaks 154 = .ok (.ifCond .eq 33, 3) := by decide +kernel
theorem d_R_breaks_157 : decode b_R_breaks 157 = .ok (.aload_n 0, 1) := by decide +kernel
theorem d_R_breaks_158 : decode b_R_breaks 158 = .ok (.getfield 41, 3) := by decide +kernel
theorem d_R_breaks_161 : decode b_R_breaks 161 = .ok (.iload 4, 2) := by decide +kernel
theorem d_R_breaks_163 : decode b_R_breaks 163 = .ok (.baload, 1) := by decide +kernel
theorem d_R_breaks_164 : decode b_R_breaks 164 = .ok (.ifCond .eq 19, 3) := by decide +kernel
theorem d_R_breaks_167 : decode b_R_breaks 167 = .ok (.aload_n 0, 1) := by decide +kernel
theorem d_R_breaks_168 : decode b_R_breaks 168 = .ok (.getfield 44, 3) := by decide +kernel
theorem d_R_breaks_171 : decode b_R_breaks 171 = .ok (.iload 4, 2) := by decide +kernel
theorem d_R_breaks_173 : decode b_R_breaks 173 = .ok (.iaload, 1) := by decide +kernel
theorem d_R_breaks_174 : decode b_R_breaks 174 = .ok (.aload_n 0, 1) := by decide +kernel
theorem d_R_breaks_175 : decode b_R_breaks 175 = .ok (.getfield 44, 3) := by decide +kernel
theorem d_R_breaks_178 : decode b_R_breaks 178 = .ok (.iload_n 3, 1) := by decide +kernel
theorem d_R_breaks_179 : decode b_R_breaks 179 = .ok (.iaload, 1) := by decide +kernel
theorem d_R_breaks_180 : decode b_R_breaks 180 = .ok (.if_icmp .eq 7, 3) := by decide +kernel
theorem d_R_breaks_183 : decode b_R_breaks 183 = .ok (.iconst 1, 1) := by decide +kernel
theorem d_R_breaks_184 : decode b_R_breaks 184 = .ok (.goto 4, 3) := by decide +kernel
theorem d_R_breaks_187 : decode b_R_breaks 187 = .ok (.iconst 0, 1) := by decide +kernel
theorem d_R_breaks_188 : decode b_R_breaks 188 = .ok (.ireturn, 1) := by decide +kernel
theorem d_R_breaks_189 : decode b_R_breaks 189 = .ok (.aload_n 0, 1) := by decide +kernel
theorem d_R_breaks_190 : decode b_R_breaks 190 = .ok (.getfield 32, 3) := by decide +kernel
theorem d_R_breaks_193 : decode b_R_breaks 193 = .ok (.iload_n 3, 1) := by decide +kernel
theorem d_R_breaks_194 : decode b_R_breaks 194 = .ok (.iaload, 1) := by decide +kernel
theorem d_R_breaks_195 : decode b_R_breaks 195 = .ok (.iconst 1, 1) := by decide +kernel
theorem d_R_breaks_196 : decode b_R_breaks 196 = .ok (.if_icmp .ne 27, 3) := by decide +kernel
theorem d_R_breaks_199 : decode b_R_breaks 199 = .ok (.iload 5, 2) := by decide +kernel
theorem d_R_breaks_201 : decode b_R_breaks 201 = .ok (.bipush 16, 2) := by decide +kernel
theorem d_R_breaks_203 : decode b_R_breaks 203 = .ok (.invokestatic 66, 3) := by decide +kernel
theorem d_R_breaks_206 : decode b_R_breaks 206 = .ok (.ifCond .ne 17, 3) := by decide +kernel
theorem d_R_breaks_209 : decode b_R_breaks 209 = .ok (.iload 6, 2) := by decide +kernel
theorem d_R_breaks_211 : decode b_R_breaks 211 = .ok (.bipush 16, 2) := by decide +kernel
theorem d_R_breaks_213 : decode b_R_breaks 213 = .ok (.invokestatic 66, 3) := by decide +kernel
theorem d_R_breaks_216 : decode b_R_breaks 216 = .ok (.ifCond .eq 7, 3) := by decide +kernel
theorem d_R_breaks_219 : decode b_R_breaks 219 = .ok (.iconst 1, 1) := by decide +kernel
theorem d_R_breaks_220 : decode b_R_breaks 220 = .ok (.goto 4, 3) := by decide +kernel
theorem d_R_breaks_223 : decode b_R_breaks 223 = .ok (.iconst 0, 1) := by decide +kernel
theorem d_R_breaks_224 : decode b_R_breaks 224 = .ok (.ireturn, 1) := by decide +kernel
theorem d_R_breaks_225 : decode b_R_breaks 225 = .ok (.aload_n 0, 1) := by decide +kernel
theorem d_R_breaks_226 : decode b_R_breaks 226 = .ok (.getfield 32, 3) := by decide +kernel
theorem d_R_breaks_229 : decode b_R_breaks 229 = .ok (.iload_n 3, 1) := by decide +kernel
theorem d_R_breaks_230 : decode b_R_breaks 230 = .ok (.iaload, 1) := by decide +kernel
theorem d_R_breaks_231 : decode b_R_breaks 231 = .ok (.iconst 1, 1) := by decide +kernel
theorem d_R_breaks_232 : decode b_R_breaks 232 = .ok (.if_icmp .ne 40, 3) := by decide +kernel
theorem d_R_breaks_235 : decode b_R_breaks 235 = .ok (.iload 5, 2) := by decide +kernel
theorem d_R_breaks_237 : decode b_R_breaks 237 = .ok (.bipush 12, 2) := by decide +kernel
theorem d_R_breaks_239 : decode b_R_breaks 239 = .ok (.invokestatic 66, 3) := by decide +kernel
theorem d_R_breaks_242 : decode b_R_breaks 242 = .ok (.ifCond .ne 30, 3) := by decide +kernel
theorem d_R_breaks_245 : decode b_R_breaks 245 = .ok (.aload_n 0, 1) := by decide +kernel
theorem d_R_breaks_246 : decode b_R_breaks 246 = .ok (.getfield 17, 3) := by decide +kernel
theorem d_R_breaks_249 : decode b_R_breaks 249 = .ok (.iload_n 2, 1) := by decide +kernel
theorem d_R_breaks_250 : decode b_R_breaks 250 = .ok (.iaload, 1) := by decide +kernel
theorem d_R_breaks_251 : decode b_R_breaks 251 = .ok (.iconst 4, 1) := by decide +kernel
theorem d_R_breaks_252 : decode b_R_breaks 252 = .ok (.invokestatic 66, 3) := by decide +kernel
theorem d_R_breaks_255 : decode b_R_breaks 255 = .ok (.ifCond .ne 17, 3) := by decide +kernel
theorem d_R_breaks_258 : decode b_R_breaks 258 = .ok (.iload 6, 2) := by decide +kernel
theorem d_R_breaks_260 : decode b_R_breaks 260 = .ok (.bipush 8, 2) := by decide +kernel
theorem d_R_breaks_262 : decode b_R_breaks 262 = .ok (.invokestatic 66, 3) := by decide +kernel
theorem d_R_breaks_265 : decode b_R_breaks 265 = .ok (.ifCond .eq 7, 3) := by decide +kernel
theorem d_R_breaks_268 : decode b_R_breaks 268 = .ok (.iconst 1, 1) := by decide +kernel
theorem d_R_breaks_269 : decode b_R_breaks 269 = .ok (.goto 4, 3) := by decide +kernel
theorem d_R_breaks_272 : decode b_R_breaks 272 = .ok (.iconst 0, 1) := by decide +kernel
theorem d_R_breaks_273 : decode b_R_breaks 273 = .ok (.ireturn, 1) := by decide +kernel
theorem d_R_members_0 : decode b_R_members 0 = .ok (.bipush 8, 2) := by decide +kernel
theorem d_R_members_2 : decode b_R_members 2 = .ok (.iload_n 2, 1) := by decide +kernel
theorem d_R_members_3 : decode b_R_members 3 = .ok (.imul, 1) := by decide +kernel
theorem d_R_members_4 : decode b_R_members 4 = .ok (.istore_n 3, 1) := by decide +kernel
theorem d_R_members_5 : decode b_R_members 5 = .ok (.iload_n 3, 1) := by decide +kernel
theorem d_R_members_6 : decode b_R_members 6 = .ok (.bipush 8, 2) := by decide +kernel
theorem d_R_members_8 : decode b_R_members 8 = .ok (.iload_n 2, 1) := by decide +kernel
theorem d_R_members_9 : decode b_R_members 9 = .ok (.imul, 1) := by decide +kernel
theorem d_R_members_10 : decode b_R_members 10 = .ok (.aload_n 0, 1) := by decide +kernel
theorem d_R_members_11 : decode b_R_members 11 = .ok (.getfield 29, 3) := by decide +kernel
theorem d_R_members_14 : decode b_R_members 14 = .ok (.iload_n 2, 1) := by decide +kernel
theorem d_R_members_15 : decode b_R_members 15 = .ok (.iaload, 1) := by decide +kernel
theorem d_R_members_16 : decode b_R_members 16 = .ok (.iadd, 1) := by decide +kernel
theorem d_R_members_17 : decode b_R_members 17 = .ok (.if_icmp .ge 61, 3) := by decide +kernel
theorem d_R_members_20 : decode b_R_members 20 = .ok (.aload_n 0, 1) := by decide +kernel
theorem d_R_members_21 : decode b_R_members 21 = .ok (.getfield 38, 3) := by decide +kernel
theorem d_R_members_24 : decode b_R_members 24 = .ok (.iload_n 3, 1) := by decide +kernel
theorem d_R_members_25 : decode b_R_members 25 = .ok (.iaload, 1) := by decide +kernel
theorem d_R_members_26 : decode b_R_members 26 = .ok (.iconst 3, 1) := by decide +kernel
theorem d_R_members_27 : decode b_R_members 27 = .ok (.iand, 1) := by decide +kernel
theorem d_R_members_28 : decode b_R_members 28 = .ok (.iconst 2, 1) := by decide +kernel
theorem d_R_members_29 : decode b_R_members 29 = .ok (.if_icmp .lt 43, 3) := by decide +kernel
theorem d_R_members_32 : decode b_R_members 32 = .ok (.aload_n 0, 1) := by decide +kernel
theorem d_R_members_33 : decode b_R_members 33 = .ok (.iload_n 1, 1) := by decide +kernel
theorem d_R_members_34 : decode b_R_members 34 = .ok (.iload_n 2, 1) := by decide +kernel
theorem d_R_members_35 : decode b_R_members 35 = .ok (.iload_n 3, 1) := by decide +kernel
theorem d_R_members_36 : decode b_R_members 36 = .ok (.aload_n 0, 1) := by decide +kernel
theorem d_R_members_37 : decode b_R_members 37 = .ok (.iconst 1, 1) := by decide +kernel
theorem d_R_members_38 : decode b_R_members 38 = .ok (.iload_n 2, 1) := by decide +kernel
theorem d_R_members_39 : decode b_R_members 39 = .ok (.aload_n 0, 1) := by decide +kernel
theorem d_R_members_40 : decode b_R_members 40 = .ok (.getfield 32, 3) := by decide +kernel
theorem d_R_members_43 : decode b_R_members 43 = .ok (.iload_n 3, 1) := by decide +kernel
theorem d_R_members_44 : decode b_R_members 44 = .ok (.iaload, 1) := by decide +kernel
theorem d_R_members_45 : decode b_R_members 45 = .ok (.aload_n 0, 1) := by decide +kernel
theorem d_R_members_46 : decode b_R_members 46 = .ok (.getfield 35, 3) := by decide +kernel
theorem d_R_members_49 : decode b_R_members 49 = .ok (.iload_n 3, 1) := by decide +kernel
theorem d_R_members_50 : decode b_R_members 50 = .ok (.iaload, 1) := by decide +kernel
theorem d_R_members_51 : decode b_R_members 51 = .ok (.invokevirtual 120, 3) := by decide +kernel
theorem d_R_members_54 : decode b_R_members 54 = .ok (.invokevirtual 146, 3) := by decide +kernel
theorem d_R_members_57 : decode b_R_members 57 = .ok (.ifCond .eq 15, 3) := by decide +kernel
theorem d_R_members_60 : decode b_R_members 60 = .ok (.aload_n 0, 1) := by decide +kernel
theorem d_R_members_61 : decode b_R_members 61 = .ok (.iload_n 1, 1) := by decide +kernel
theorem d_R_members_62 : decode b_R_members 62 = .ok (.iload_n 2, 1) := by decide +kernel
theorem d_R_members_63 : decode b_R_members 63 = .ok (.iload_n 3, 1) := by decide +kernel
theorem d_R_members_64 : decode b_R_members 64 = .ok (.bipush 8, 2) := by decide +kernel
theorem d_R_members_66 : decode b_R_members 66 = .ok (.iload_n 2, 1) := by decide +kernel
theorem d_R_members_67 : decode b_R_members 67 = .ok (.imul, 1) := by decide +kernel
theorem d_R_members_68 : decode b_R_members 68 = .ok (.isub, 1) := by decide +kernel
theorem d_R_members_69 : decode b_R_members 69 = .ok (.invokevirtual 150, 3) := by decide +kernel
theorem d_R_members_72 : decode b_R_members 72 = .ok (.iinc 3 1, 3) := by decide +kernel
theorem d_R_members_75 : decode b_R_members 75 = .ok (.goto (-70), 3) := by decide +kernel
theorem d_R_members_78 : decode b_R_members 78 = .ok (.return_, 1) := by decide +kernel
theorem d_R_added_0 : decode b_R_added 0 = .ok (.bipush 12, 2) := by decide +kernel
theorem d_R_added_2 : decode b_R_added 2 = .ok (.iload_n 2, 1) := by decide +kernel
theorem d_R_added_3 : decode b_R_added 3 = .ok (.iadd, 1) := by decide +kernel
theorem d_R_added_4 : decode b_R_added 4 = .ok (.istore_n 3, 1) := by decide +kernel
theorem d_R_added_5 : decode b_R_added 5 = .ok (.bipush 8, 2) := by decide +kernel
theorem d_R_added_7 : decode b_R_added 7 = .ok (.iload_n 3, 1) := by decide +kernel
theorem d_R_added_8 : decode b_R_added 8 = .ok (.imul, 1) := by decide +kernel
theorem d_R_added_9 : decode b_R_added 9 = .ok (.istore 4, 2) := by decide +kernel
theorem d_R_added_11 : decode b_R_added 11 = .ok (.iload 4, 2) := by decide +kernel
theorem d_R_added_13 : decode b_R_added 13 = .ok (.bipush 8, 2) := by decide +kernel
theorem d_R_added_15 : decode b_R_added 15 = .ok (.iload_n 3, 1) := by decide +kernel
theorem d_R_added_16 : decode b_R_added 16 = .ok (.imul, 1) := by decide +kernel
theorem d_R_added_17 : decode b_R_added 17 = .ok (.aload_n 0, 1) := by decide +kernel
theorem d_R_added_18 : decode b_R_added 18 = .ok (.getfield 29, 3) := by decide +kernel
theorem d_R_added_21 : decode b_R_added 21 = .ok (.iload_n 3, 1) := by decide +kernel
theorem d_R_added_22 : decode b_R_added 22 = .ok (.iaload, 1) := by decide +kernel
theorem d_R_added_23 : decode b_R_added 23 = .ok (.iadd, 1) := by decide +kernel
theorem d_R_added_24 : decode b_R_added 24 = .ok (.if_icmp .ge 196, 3) := by decide +kernel
theorem d_R_added_27 : decode b_R_added 27 = .ok (.aload_n 0, 1) := by decide +kernel
theorem d_R_added_28 : decode b_R_added 28 = .ok (.iload_n 2, 1) := by decide +kernel
theorem d_R_added_29 : decode b_R_added 29 = .ok (.aload_n 0, 1) := by decide +kernel
theorem d_R_added_30 : decode b_R_added 30 = .ok (.getfield 32, 3) := by decide +kernel
theorem d_R_added_33 : decode b_R_added 33 = .ok (.iload 4, 2) := by decide +kernel
theorem d_R_added_35 : decode b_R_added 35 = .ok (.iaload, 1) := by decide +kernel
theorem d_R_added_36 : decode b_R_added 36 = .ok (.aload_n 0, 1) := by decide +kernel
theorem d_R_added_37 : decode b_R_added 37 = .ok (.getfield 35, 3) := by decide +kernel
theorem d_R_added_40 : decode b_R_added 40 = .ok (.iload 4, 2) := by decide +kernel
theorem d_R_added_42 : decode b_R_added 42 = .ok (.iaload, 1) := by decide +kernel
theorem d_R_added_43 : decode b_R_added 43 = .ok (.invokevirtual 72, 3) := by decide +kernel
theorem d_R_added_46 : decode b_R_added 46 = .ok (.ifCond .lt 6, 3) := by decide +kernel
theorem d_R_added_49 : decode b_R_added 49 = .ok (.goto 165, 3) := by decide +kernel
theorem d_R_added_52 : decode b_R_added 52 = .ok (.aload_n 0, 1) := by decide +kernel
theorem d_R_added_53 : decode b_R_added 53 = .ok (.iconst 0, 1) := by decide +kernel
theorem d_R_added_54 : decode b_R_added 54 = .ok (.iload_n 2, 1) := by decide +kernel
theorem d_R_added_55 : decode b_R_added 55 = .ok (.aload_n 0, 1) := by decide +kernel
theorem d_R_added_56 : decode b_R_added 56 = .ok (.getfield 32, 3) := by decide +kernel
theorem d_R_added_59 : decode b_R_added 59 = .ok (.iload 4, 2) := by decide +kernel
theorem d_R_added_61 : decode b_R_added 61 = .ok (.iaload, 1) := by decide +kernel
theorem d_R_added_62 : decode b_R_added 62 = .ok (.aload_n 0, 1) := by decide +kernel
theorem d_R_added_63 : decode b_R_added 63 = .ok (.getfield 35, 3) := by decide +kernel
theorem d_R_added_66 : decode b_R_added 66 = .ok (.iload 4, 2) := by decide +kernel
theorem d_R_added_68 : decode b_R_added 68 = .ok (.iaload, 1) := by decide +kernel
theorem d_R_added_69 : decode b_R_added 69 = .ok (.invokevirtual 120, 3) := by decide +kernel
theorem d_R_added_72 : decode b_R_added 72 = .ok (.istore 5, 2) := by decide +kernel
theorem d_R_added_74 : decode b_R_added 74 = .ok (.aload_n 0, 1) := by decide +kernel
theorem d_R_added_75 : decode b_R_added 75 = .ok (.getfield 38, 3) := by decide +kernel
theorem d_R_added_78 : decode b_R_added 78 = .ok (.iload 4, 2) := by decide +kernel
theorem d_R_added_80 : decode b_R_added 80 = .ok (.iaload, 1) := by decide +kernel
theorem d_R_added_81 : decode b_R_added 81 = .ok (.bipush 16, 2) := by decide +kernel
theorem d_R_added_83 : decode b_R_added 83 = .ok (.invokestatic 66, 3) := by decide +kernel
theorem d_R_added_86 : decode b_R_added 86 = .ok (.ifCond .eq 12, 3) := by decide +kernel
theorem d_R_added_89 : decode b_R_added 89 = .ok (.iload 5, 2) := by decide +kernel
theorem d_R_added_91 : decode b_R_added 91 = .ok (.ifCond .ge 7, 3) := by decide +kernel
theorem d_R_added_94 : decode b_R_added 94 = .ok (.iconst 1, 1) := by decide +kernel
theorem d_R_added_95 : decode b_R_added 95 = .ok (.goto 4, 3) := by decide +kernel
theorem d_R_added_98 : decode b_R_added 98 = .ok (.iconst 0, 1) := by decide +kernel
theorem d_R_added_99 : decode b_R_added 99 = .ok (.istore 6, 2) := by decide +kernel
theorem d_R_added_101 : decode b_R_added 101 = .ok (.iload_n 1, 1) := by decide +kernel
theorem d_R_added_102 : decode b_R_added 102 = .ok (.bipush 12, 2) := by decide +kernel
theorem d_R_added_104 : decode b_R_added 104 = .ok (.if_icmp .ne 92, 3) := by decide +kernel
theorem d_R_added_107 : decode b_R_added 107 = .ok (.aload_n 0, 1) := by decide +kernel
theorem d_R_added_108 : decode b_R_added 108 = .ok (.getfield 32, 3) := by decide +kernel
theorem d_R_added_111 : decode b_R_added 111 = .ok (.iload 4, 2) := by decide +kernel
theorem d_R_added_113 : decode b_R_added 113 = .ok (.iaload, 1) := by decide +kernel
theorem d_R_added_114 : decode b_R_added 114 = .ok (.iconst 2, 1) := by decide +kernel
theorem d_R_added_115 : decode b_R_added 115 = .ok (.if_icmp .ge 25, 3) := by decide +kernel
theorem d_R_added_118 : decode b_R_added 118 = .ok (.iload 5, 2) := by decide +kernel
theorem d_R_added_120 : decode b_R_added 120 = .ok (.ifCond .lt 20, 3) := by decide +kernel
theorem d_R_added_123 : decode b_R_added 123 = .ok (.aload_n 0, 1) := by decide +kernel
theorem d_R_added_124 : decode b_R_added 124 = .ok (.getfield 38, 3) := by decide +kernel
theorem d_R_added_127 : decode b_R_added 127 = .ok (.iload 5, 2) := by decide +kernel
theorem d_R_added_129 : decode b_R_added 129 = .ok (.iaload, 1) := by decide +kernel
theorem d_R_added_130 : decode b_R_added 130 = .ok (.iconst 3, 1) := by decide +kernel
theorem d_R_added_131 : decode b_R_added 131 = .ok (.iand, 1) := by decide +kernel
theorem d_R_added_132 : decode b_R_added 132 = .ok (.iconst 2, 1) := by decide +kernel
theorem d_R_added_133 : decode b_R_added 133 = .ok (.if_icmp .lt 7, 3) := by decide +kernel
theorem d_R_added_136 : decode b_R_added 136 = .ok (.iconst 1, 1) := by decide +kernel
theorem d_R_added_137 : decode b_R_added 137 = .ok (.goto 4, 3) := by decide +kernel
theorem d_R_added_140 : decode b_R_added 140 = .ok (.iconst 0, 1) := by decide +kernel
theorem d_R_added_141 : decode b_R_added 141 = .ok (.istore 6, 2) := by decide +kernel
theorem d_R_added_143 : decode b_R_added 143 = .ok (.iload 6, 2) := by decide +kernel
theorem d_R_added_145 : decode b_R_added 145 = .ok (.ifCond .eq 48, 3) := by decide +kernel
theorem d_R_added_148 : decode b_R_added 148 = .ok (.aload_n 0, 1) := by decide +kernel
theorem d_R_added_149 : decode b_R_added 149 = .ok (.getfield 38, 3) := by decide +kernel
theorem d_R_added_152 : decode b_R_added 152 = .ok (.iload 4, 2) := by decide +kernel
theorem d_R_added_154 : decode b_R_added 154 = .ok (.iaload, 1) := by decide +kernel
theorem d_R_added_155 : decode b_R_added 155 = .ok (.iconst 3, 1) := by decide +kernel
theorem d_R_added_156 : decode b_R_added 156 = .ok (.iand, 1) := by decide +kernel
theorem d_R_added_157 : decode b_R_added 157 = .ok (.aload_n 0, 1) := by decide +kernel
theorem d_R_added_158 : decode b_R_added 158 = .ok (.getfield 38, 3) := by decide +kernel
theorem d_R_added_161 : decode b_R_added 161 = .ok (.iload 5, 2) := by decide +kernel
theorem d_R_added_163 : decode b_R_added 163 = .ok (.iaload, 1) := by decide +kernel
theorem d_R_added_164 : decode b_R_added 164 = .ok (.iconst 3, 1) := by decide +kernel
theorem d_R_added_165 : decode b_R_added 165 = .ok (.iand, 1) := by decide +kernel
theorem d_R_added_166 : decode b_R_added 166 = .ok (.if_icmp .lt 23, 3) := by decide +kernel
theorem d_R_added_169 : decode b_R_added 169 = .ok (.aload_n 0, 1) := by decide +kernel
theorem d_R_added_170 : decode b_R_added 170 = .ok (.getfield 38, 3) := by decide +kernel
theorem d_R_added_173 : decode b_R_added 173 = .ok (.iload 4, 2) := by decide +kernel
theorem d_R_added_175 : decode b_R_added 175 = .ok (.iaload, 1) := by decide +kernel
theorem d_R_added_176 : decode b_R_added 176 = .ok (.aload_n 0, 1) := by decide +kernel
theorem d_R_added_177 : decode b_R_added 177 = .ok (.getfield 38, 3) := by decide +kernel
theorem d_R_added_180 : decode b_R_added 180 = .ok (.iload 5, 2) := by decide +kernel
theorem d_R_added_182 : decode b_R_added 182 = .ok (.iaload, 1) := by decide +kernel
theorem d_R_added_183 : decode b_R_added 183 = .ok (.ixor, 1) := by decide +kernel
theorem d_R_added_184 : decode b_R_added 184 = .ok (.iconst 4, 1) := by decide +kernel
theorem d_R_added_185 : decode b_R_added 185 = .ok (.iand, 1) := by decide +kernel
theorem d_R_added_186 : decode b_R_added 186 = .ok (.ifCond .eq 7, 3) := by decide +kernel
theorem d_R_added_189 : decode b_R_added 189 = .ok (.iconst 1, 1) := by decide +kernel
theorem d_R_added_190 : decode b_R_added 190 = .ok (.goto 4, 3) := by decide +kernel
theorem d_R_added_193 : decode b_R_added 193 = .ok (.iconst 0, 1) := by decide +kernel
theorem d_R_added_194 : decode b_R_added 194 = .ok (.istore 6, 2) := by decide +kernel
theorem d_R_added_196 : decode b_R_added 196 = .ok (.iload 6, 2) := by decide +kernel
theorem d_R_added_198 : decode b_R_added 198 = .ok (.ifCond .eq 16, 3) := by decide +kernel
theorem d_R_added_201 : decode b_R_added 201 = .ok (.aload_n 0, 1) := by decide +kernel
theorem d_R_added_202 : decode b_R_added 202 = .ok (.iload_n 1, 1) := by decide +kernel
theorem d_R_added_203 : decode b_R_added 203 = .ok (.iload_n 2, 1) := by decide +kernel
theorem d_R_added_204 : decode b_R_added 204 = .ok (.iload 4, 2) := by decide +kernel
theorem d_R_added_206 : decode b_R_added 206 = .ok (.bipush 8, 2) := by decide +kernel
theorem d_R_added_208 : decode b_R_added 208 = .ok (.iload_n 3, 1) := by decide +kernel
theorem d_R_added_209 : decode b_R_added 209 = .ok (.imul, 1) := by decide +kernel
theorem d_R_added_210 : decode b_R_added 210 = .ok (.isub, 1) := by decide +kernel
theorem d_R_added_211 : decode b_R_added 211 = .ok (.invokevirtual 150, 3) := by decide +kernel
theorem d_R_added_214 : decode b_R_added 214 = .ok (.iinc 4 1, 3) := by decide +kernel
theorem d_R_added_217 : decode b_R_added 217 = .ok (.goto (-206), 3) := by decide +kernel
theorem d_R_added_220 : decode b_R_added 220 = .ok (.return_, 1) := by decide +kernel
theorem d_R_judge_0 : decode b_R_judge 0 = .ok (.bipush 12, 2) := by decide +kernel
theorem d_R_judge_2 : decode b_R_judge 2 = .ok (.iload_n 1, 1) := by decide +kernel
theorem d_R_judge_3 : decode b_R_judge 3 = .ok (.iadd, 1) := by decide +kernel
theorem d_R_judge_4 : decode b_R_judge 4 = .ok (.istore_n 2, 1) := by decide +kernel
theorem d_R_judge_5 : decode b_R_judge 5 = .ok (.aload_n 0, 1) := by decide +kernel
theorem d_R_judge_6 : decode b_R_judge 6 = .ok (.getfield 7, 3) := by decide +kernel
theorem d_R_judge_9 : decode b_R_judge 9 = .ok (.iload_n 1, 1) := by decide +kernel
theorem d_R_judge_10 : decode b_R_judge 10 = .ok (.baload, 1) := by decide +kernel
theorem d_R_judge_11 : decode b_R_judge 11 = .ok (.ifCond .eq 16, 3) := by decide +kernel
theorem d_R_judge_14 : decode b_R_judge 14 = .ok (.aload_n 0, 1) := by decide +kernel
theorem d_R_judge_15 : decode b_R_judge 15 = .ok (.getfield 17, 3) := by decide +kernel
theorem d_R_judge_18 : decode b_R_judge 18 = .ok (.iload_n 1, 1) := by decide +kernel
theorem d_R_judge_19 : decode b_R_judge 19 = .ok (.iaload, 1) := by decide +kernel
theorem d_R_judge_20 : decode b_R_judge 20 = .ok (.iconst 1, 1) := by decide +kernel
theorem d_R_judge_21 : decode b_R_judge 21 = .ok (.invokestatic 66, 3) := by decide +kernel
theorem d_R_judge_24 : decode b_R_judge 24 = .ok (.ifCond .ne 4, 3) := by decide +kernel
theorem d_R_judge_27 : decode b_R_judge 27 = .ok (.return_, 1) := by decide +kernel
theorem d_R_judge_28 : decode b_R_judge 28 = .ok (.aload_n 0, 1) := by decide +kernel
theorem d_R_judge_29 : decode b_R_judge 29 = .ok (.getfield 7, 3) := by decide +kernel
theorem d_R_judge_32 : decode b_R_judge 32 = .ok (.iload_n 2, 1) := by decide +kernel
theorem d_R_judge_33 : decode b_R_judge 33 = .ok (.baload, 1) := by decide +kernel
theorem d_R_judge_34 : decode b_R_judge 34 = .ok (.ifCond .eq 16, 3) := by decide +kernel
theorem d_R_judge_37 : decode b_R_judge 37 = .ok (.aload_n 0, 1) := by decide +kernel
theorem d_R_judge_38 : decode b_R_judge 38 = .ok (.getfield 17, 3) := by decide +kernel
theorem d_R_judge_41 : decode b_R_judge 41 = .ok (.iload_n 2, 1) := by decide +kernel
theorem d_R_judge_42 : decode b_R_judge 42 = .ok (.iaload, 1) := by decide +kernel
theorem d_R_judge_43 : decode b_R_judge 43 = .ok (.iconst 1, 1) := by decide +kernel
theorem d_R_judge_44 : decode b_R_judge 44 = .ok (.invokestatic 66, 3) := by decide +kernel
theorem d_R_judge_47 : decode b_R_judge 47 = .ok (.ifCond .ne 13, 3) := by decide +kernel
theorem d_R_judge_50 : decode b_R_judge 50 = .ok (.aload_n 0, 1) := by decide +kernel
theorem d_R_judge_51 : decode b_R_judge 51 = .ok (.iconst 0, 1) := by decide +kernel
theorem d_R_judge_52 : decode b_R_judge 52 = .ok (.iload_n 1, 1) := by decide +kernel
theorem d_R_judge_53 : decode b_R_judge 53 = .ok (.iconst (-1), 1) := by decide +kernel
theorem d_R_judge_54 : decode b_R_judge 54 = .ok (.invokevirtual 150, 3) := by decide +kernel
theorem d_R_judge_57 : decode b_R_judge 57 = .ok (.goto 186, 3) := by decide +kernel
theorem d_R_judge_60 : decode b_R_judge 60 = .ok (.aload_n 0, 1) := by decide +kernel
theorem d_R_judge_61 : decode b_R_judge 61 = .ok (.getfield 13, 3) := by decide +kernel
theorem d_R_judge_64 : decode b_R_judge 64 = .ok (.iload_n 2, 1) := by decide +kernel
theorem d_R_judge_65 : decode b_R_judge 65 = .ok (.iaload, 1) := by decide +kernel
theorem d_R_judge_66 : decode b_R_judge 66 = .ok (.aload_n 0, 1) := by decide +kernel
theorem d_R_judge_67 : decode b_R_judge 67 = .ok (.getfield 13, 3) := by decide +kernel
theorem d_R_judge_70 : decode b_R_judge 70 = .ok (.iload_n 1, 1) := by decide +kernel
theorem d_R_judge_71 : decode b_R_judge 71 = .ok (.iaload, 1) := by decide +kernel
theorem d_R_judge_72 : decode b_R_judge 72 = .ok (.if_icmp .eq 13, 3) := by decide +kernel
theorem d_R_judge_75 : decode b_R_judge 75 = .ok (.aload_n 0, 1) := by decide +kernel
theorem d_R_judge_76 : decode b_R_judge 76 = .ok (.iconst 1, 1) := by decide +kernel
theorem d_R_judge_77 : decode b_R_judge 77 = .ok (.iload_n 1, 1) := by decide +kernel
theorem d_R_judge_78 : decode b_R_judge 78 = .ok (.iconst (-1), 1) := by decide +kernel
theorem d_R_judge_79 : decode b_R_judge 79 = .ok (.invokevirtual 150, 3) := by decide +kernel
theorem d_R_judge_82 : decode b_R_judge 82 = .ok (.goto 161, 3) := by decide +kernel
theorem d_R_judge_85 : decode b_R_judge 85 = .ok (.aload_n 0, 1) := by decide +kernel
theorem d_R_judge_86 : decode b_R_judge 86 = .ok (.getfield 13, 3) := by decide +kernel
theorem d_R_judge_89 : decode b_R_judge 89 = .ok (.iload_n 1, 1) := by decide +kernel
theorem d_R_judge_90 : decode b_R_judge 90 = .ok (.iaload, 1) := by decide +kernel
theorem d_R_judge_91 : decode b_R_judge 91 = .ok (.ifCond .ne 36, 3) := by decide +kernel
theorem d_R_judge_94 : decode b_R_judge 94 = .ok (.aload_n 0, 1) := by decide +kernel
theorem d_R_judge_95 : decode b_R_judge 95 = .ok (.getfield 17, 3) := by decide +kernel
theorem d_R_judge_98 : decode b_R_judge 98 = .ok (.iload_n 1, 1) := by decide +kernel
theorem d_R_judge_99 : decode b_R_judge 99 = .ok (.iaload, 1) := by decide +kernel
theorem d_R_judge_100 : decode b_R_judge 100 = .ok (.iconst 2, 1) := by decide +kernel
theorem d_R_judge_101 : decode b_R_judge 101 = .ok (.invokestatic 66, 3) := by decide +kernel
theorem d_R_judge_104 : decode b_R_judge 104 = .ok (.ifCond .ne 23, 3) := by decide +kernel
theorem d_R_judge_107 : decode b_R_judge 107 = .ok (.aload_n 0, 1) := by decide +kernel
theorem d_R_judge_108 : decode b_R_judge 108 = .ok (.getfield 17, 3) := by decide +kernel
theorem d_R_judge_111 : decode b_R_judge 111 = .ok (.iload_n 2, 1) := by decide +kernel
theorem d_R_judge_112 : decode b_R_judge 112 = .ok (.iaload, 1) := by decide +kernel
theorem d_R_judge_113 : decode b_R_judge 113 = .ok (.iconst 2, 1) := by decide +kernel
theorem d_R_judge_114 : decode b_R_judge 114 = .ok (.invokestatic 66, 3) := by decide +kernel
theorem d_R_judge_117 : decode b_R_judge 117 = .ok (.ifCond .eq 10, 3) := by decide +kernel
theorem d_R_judge_120 : decode b_R_judge 120 = .ok (.aload_n 0, 1) := by decide +kernel
theorem d_R_judge_121 : decode b_R_judge 121 = .ok (.iconst 2, 1) := by decide +kernel
theorem d_R_judge_122 : decode b_R_judge 122 = .ok (.iload_n 1, 1) := by decide +kernel
theorem d_R_judge_123 : decode b_R_judge 123 = .ok (.iconst (-1), 1) := by decide +kernel
theorem d_R_judge_124 : decode b_R_judge 124 = .ok (.invokevirtual 150, 3) := by decide +kernel
theorem d_R_judge_127 : decode b_R_judge 127 = .ok (.aload_n 0, 1) := by decide +kernel
theorem d_R_judge_128 : decode b_R_judge 128 = .ok (.getfield 13, 3) := by decide +kernel
theorem d_R_judge_131 : decode b_R_judge 131 = .ok (.iload_n 1, 1) := by decide +kernel
theorem d_R_judge_132 : decode b_R_judge 132 = .ok (.iaload, 1) := by decide +kernel
theorem d_R_judge_133 : decode b_R_judge 133 = .ok (.ifCond .ne 36, 3) := by decide +kernel
theorem d_R_judge_136 : decode b_R_judge 136 = .ok (.aload_n 0, 1) := by decide +kernel
theorem d_R_judge_137 : decode b_R_judge 137 = .ok (.getfield 17, 3) := by decide +kernel
theorem d_R_judge_140 : decode b_R_judge 140 = .ok (.iload_n 1, 1) := by decide +kernel
theorem d_R_judge_141 : decode b_R_judge 141 = .ok (.iaload, 1) := by decide +kernel
theorem d_R_judge_142 : decode b_R_judge 142 = .ok (.iconst 4, 1) := by decide +kernel
theorem d_R_judge_143 : decode b_R_judge 143 = .ok (.invokestatic 66, 3) := by decide +kernel
theorem d_R_judge_146 : decode b_R_judge 146 = .ok (.ifCond .ne 23, 3) := by decide +kernel
theorem d_R_judge_149 : decode b_R_judge 149 = .ok (.aload_n 0, 1) := by decide +kernel
theorem d_R_judge_150 : decode b_R_judge 150 = .ok (.getfield 17, 3) := by decide +kernel
theorem d_R_judge_153 : decode b_R_judge 153 = .ok (.iload_n 2, 1) := by decide +kernel
theorem d_R_judge_154 : decode b_R_judge 154 = .ok (.iaload, 1) := by decide +kernel
theorem d_R_judge_155 : decode b_R_judge 155 = .ok (.iconst 4, 1) := by decide +kernel
theorem d_R_judge_156 : decode b_R_judge 156 = .ok (.invokestatic 66, 3) := by decide +kernel
theorem d_R_judge_159 : decode b_R_judge 159 = .ok (.ifCond .eq 10, 3) := by decide +kernel
theorem d_R_judge_162 : decode b_R_judge 162 = .ok (.aload_n 0, 1) := by decide +kernel
theorem d_R_judge_163 : decode b_R_judge 163 = .ok (.iconst 3, 1) := by decide +kernel
theorem d_R_judge_164 : decode b_R_judge 164 = .ok (.iload_n 1, 1) := by decide +kernel
theorem d_R_judge_165 : decode b_R_judge 165 = .ok (.iconst (-1), 1) := by decide +kernel
theorem d_R_judge_166 : decode b_R_judge 166 = .ok (.invokevirtual 150, 3) := by decide +kernel
theorem d_R_judge_169 : decode b_R_judge 169 = .ok (.iconst 0, 1) := by decide +kernel
theorem d_R_judge_170 : decode b_R_judge 170 = .ok (.istore_n 3, 1) := by decide +kernel
theorem d_R_judge_171 : decode b_R_judge 171 = .ok (.iload_n 3, 1) := by decide +kernel
theorem d_R_judge_172 : decode b_R_judge 172 = .ok (.iload_n 1, 1) := by decide +kernel
theorem d_R_judge_173 : decode b_R_judge 173 = .ok (.if_icmp .ge 36, 3) := by decide +kernel
theorem d_R_judge_176 : decode b_R_judge 176 = .ok (.aload_n 0, 1) := by decide +kernel
theorem d_R_judge_177 : decode b_R_judge 177 = .ok (.iconst 0, 1) := by decide +kernel
theorem d_R_judge_178 : decode b_R_judge 178 = .ok (.iload_n 1, 1) := by decide +kernel
theorem d_R_judge_179 : decode b_R_judge 179 = .ok (.iload_n 3, 1) := by decide +kernel
theorem d_R_judge_180 : decode b_R_judge 180 = .ok (.invokevirtual 111, 3) := by decide +kernel
theorem d_R_judge_183 : decode b_R_judge 183 = .ok (.ifCond .eq 20, 3) := by decide +kernel
theorem d_R_judge_186 : decode b_R_judge 186 = .ok (.aload_n 0, 1) := by decide +kernel
theorem d_R_judge_187 : decode b_R_judge 187 = .ok (.iconst 1, 1) := by decide +kernel
theorem d_R_judge_188 : decode b_R_judge 188 = .ok (.iload_n 1, 1) := by decide +kernel
theorem d_R_judge_189 : decode b_R_judge 189 = .ok (.iload_n 3, 1) := by decide +kernel
theorem d_R_judge_190 : decode b_R_judge 190 = .ok (.invokevirtual 111, 3) := by decide +kernel
theorem d_R_judge_193 : decode b_R_judge 193 = .ok (.ifCond .ne 10, 3) := by decide +kernel
theorem d_R_judge_196 : decode b_R_judge 196 = .ok (.aload_n 0, 1) := by decide +kernel
theorem d_R_judge_197 : decode b_R_judge 197 = .ok (.iconst 4, 1) := by decide +kernel
theorem d_R_judge_198 : decode b_R_judge 198 = .ok (.iload_n 1, 1) := by decide +kernel
theorem d_R_judge_199 : decode b_R_judge 199 = .ok (.iload_n 3, 1) := by decide +kernel
theorem d_R_judge_200 : decode b_R_judge 200 = .ok (.invokevirtual 150, 3) := by decide +kernel
theorem d_R_judge_203 : decode b_R_judge 203 = .ok (.iinc 3 1, 3) := by decide +kernel
theorem d_R_judge_206 : decode b_R_judge 206 = .ok (.goto (-35), 3) := by decide +kernel
theorem d_R_judge_209 : decode b_R_judge 209 = .ok (.iconst 5, 1) := by decide +kernel
theorem d_R_judge_210 : decode b_R_judge 210 = .ok (.istore_n 3, 1) := by decide +kernel
theorem d_R_judge_211 : decode b_R_judge 211 = .ok (.iload_n 3, 1) := by decide +kernel
theorem d_R_judge_212 : decode b_R_judge 212 = .ok (.bipush 11, 2) := by decide +kernel
theorem d_R_judge_214 : decode b_R_judge 214 = .ok (.if_icmp .gt 15, 3) := by decide +kernel
theorem d_R_judge_217 : decode b_R_judge 217 = .ok (.aload_n 0, 1) := by decide +kernel
theorem d_R_judge_218 : decode b_R_judge 218 = .ok (.iload_n 3, 1) := by decide +kernel
theorem d_R_judge_219 : decode b_R_judge 219 = .ok (.iload_n 1, 1) := by decide +kernel
theorem d_R_judge_220 : decode b_R_judge 220 = .ok (.invokevirtual 154, 3) := by decide +kernel
theorem d_R_judge_223 : decode b_R_judge 223 = .ok (.iinc 3 1, 3) := by decide +kernel
theorem d_R_judge_226 : decode b_R_judge 226 = .ok (.goto (-15), 3) := by decide +kernel
theorem d_R_judge_229 : decode b_R_judge 229 = .ok (.aload_n 0, 1) := by decide +kernel
theorem d_R_judge_230 : decode b_R_judge 230 = .ok (.bipush 12, 2) := by decide +kernel
theorem d_R_judge_232 : decode b_R_judge 232 = .ok (.iload_n 1, 1) := by decide +kernel
theorem d_R_judge_233 : decode b_R_judge 233 = .ok (.invokevirtual 156, 3) := by decide +kernel
theorem d_R_judge_236 : decode b_R_judge 236 = .ok (.aload_n 0, 1) := by decide +kernel
theorem d_R_judge_237 : decode b_R_judge 237 = .ok (.bipush 13, 2) := by decide +kernel
theorem d_R_judge_239 : decode b_R_judge 239 = .ok (.iload_n 1, 1) := by decide +kernel
theorem d_R_judge_240 : decode b_R_judge 240 = .ok (.invokevirtual 156, 3) := by decide +kernel
theorem d_R_judge_243 : decode b_R_judge 243 = .ok (.return_, 1) := by decide +kernel
theorem d_R_all_0 : decode b_R_all 0 = .ok (.aload_n 0, 1) := by decide +kernel
theorem d_R_all_1 : decode b_R_all 1 = .ok (.iload_n 1, 1) := by decide +kernel
theorem d_R_all_2 : decode b_R_all 2 = .ok (.putfield 128, 3) := by decide +kernel
theorem d_R_all_5 : decode b_R_all 5 = .ok (.aload_n 0, 1) := by decide +kernel
theorem d_R_all_6 : decode b_R_all 6 = .ok (.iconst 0, 1) := by decide +kernel
theorem d_R_all_7 : decode b_R_all 7 = .ok (.putfield 124, 3) := by decide +kernel
theorem d_R_all_10 : decode b_R_all 10 = .ok (.aload_n 0, 1) := by decide +kernel
theorem d_R_all_11 : decode b_R_all 11 = .ok (.iconst 0, 1) := by decide +kernel
theorem d_R_all_12 : decode b_R_all 12 = .ok (.putfield 143, 3) := by decide +kernel
theorem d_R_all_15 : decode b_R_all 15 = .ok (.iconst 0, 1) := by decide +kernel
theorem d_R_all_16 : decode b_R_all 16 = .ok (.istore_n 2, 1) := by decide +kernel
theorem d_R_all_17 : decode b_R_all 17 = .ok (.iload_n 2, 1) := by decide +kernel
theorem d_R_all_18 : decode b_R_all 18 = .ok (.bipush 14, 2) := by decide +kernel
theorem d_R_all_20 : decode b_R_all 20 = .ok (.if_icmp .ge 16, 3) := by decide +kernel
theorem d_R_all_23 : decode b_R_all 23 = .ok (.aload_n 0, 1) := by decide +kernel
theorem d_R_all_24 : decode b_R_all 24 = .ok (.getfield 56, 3) := by decide +kernel
theorem d_R_all_27 : decode b_R_all 27 = .ok (.iload_n 2, 1) := by decide +kernel
theorem d_R_all_28 : decode b_R_all 28 = .ok (.iconst 0, 1) := by decide +kernel
theorem d_R_all_29 : decode b_R_all 29 = .ok (.iastore, 1) := by decide +kernel
theorem d_R_all_30 : decode b_R_all 30 = .ok (.iinc 2 1, 3) := by decide +kernel
theorem d_R_all_33 : decode b_R_all 33 = .ok (.goto (-16), 3) := by decide +kernel
theorem d_R_all_36 : decode b_R_all 36 = .ok (.iconst 0, 1) := by decide +kernel
theorem d_R_all_37 : decode b_R_all 37 = .ok (.istore_n 2, 1) := by decide +kernel
theorem d_R_all_38 : decode b_R_all 38 = .ok (.iload_n 2, 1) := by decide +kernel
theorem d_R_all_39 : decode b_R_all 39 = .ok (.bipush 12, 2) := by decide +kernel
theorem d_R_all_41 : decode b_R_all 41 = .ok (.if_icmp .ge 14, 3) := by decide +kernel
theorem d_R_all_44 : decode b_R_all 44 = .ok (.aload_n 0, 1) := by decide +kernel
theorem d_R_all_45 : decode b_R_all 45 = .ok (.iload_n 2, 1) := by decide +kernel
theorem d_R_all_46 : decode b_R_all 46 = .ok (.invokevirtual 159, 3) := by decide +kernel
theorem d_R_all_49 : decode b_R_all 49 = .ok (.iinc 2 1, 3) := by decide +kernel
theorem d_R_all_52 : decode b_R_all 52 = .ok (.goto (-14), 3) := by decide +kernel
theorem d_R_all_55 : decode b_R_all 55 = .ok (.return_, 1) := by decide +kernel
theorem d_R_findings_0 : decode b_R_findings 0 = .ok (.aload_n 0, 1) := by decide +kernel
theorem d_R_findings_1 : decode b_R_findings 1 = .ok (.iconst (-1), 1) := by decide +kernel
theorem d_R_findings_2 : decode b_R_findings 2 = .ok (.invokevirtual 163, 3) := by decide +kernel
theorem d_R_findings_5 : decode b_R_findings 5 = .ok (.aload_n 0, 1) := by decide +kernel
theorem d_R_findings_6 : decode b_R_findings 6 = .ok (.getfield 124, 3) := by decide +kernel
theorem d_R_findings_9 : decode b_R_findings 9 = .ok (.ireturn, 1) := by decide +kernel
theorem d_R_finding_0 : decode b_R_finding 0 = .ok (.aload_n 0, 1) := by decide +kernel
theorem d_R_finding_1 : decode b_R_finding 1 = .ok (.iload_n 1, 1) := by decide +kernel
theorem d_R_finding_2 : decode b_R_finding 2 = .ok (.invokevirtual 163, 3) := by decide +kernel
theorem d_R_finding_5 : decode b_R_finding 5 = .ok (.iload_n 1, 1) := by decide +kernel
theorem d_R_finding_6 : decode b_R_finding 6 = .ok (.ifCond .lt 19, 3) := by decide +kernel
theorem d_R_finding_9 : decode b_R_finding 9 = .ok (.iload_n 1, 1) := by decide +kernel
theorem d_R_finding_10 : decode b_R_finding 10 = .ok (.aload_n 0, 1) := by decide +kernel
theorem d_R_finding_11 : decode b_R_finding 11 = .ok (.getfield 124, 3) := by decide +kernel
theorem d_R_finding_14 : decode b_R_finding 14 = .ok (.if_icmp .ge 11, 3) := by decide +kernel
theorem d_R_finding_17 : decode b_R_finding 17 = .ok (.iload_n 2, 1) := by decide +kernel
theorem d_R_finding_18 : decode b_R_finding 18 = .ok (.iconst 4, 1) := by decide +kernel
theorem d_R_finding_19 : decode b_R_finding 19 = .ok (.invokestatic 59, 3) := by decide +kernel
theorem d_R_finding_22 : decode b_R_finding 22 = .ok (.ifCond .eq 5, 3) := by decide +kernel
theorem d_R_finding_25 : decode b_R_finding 25 = .ok (.iconst (-1), 1) := by decide +kernel
theorem d_R_finding_26 : decode b_R_finding 26 = .ok (.ireturn, 1) := by decide +kernel
theorem d_R_finding_27 : decode b_R_finding 27 = .ok (.iload_n 2, 1) := by decide +kernel
theorem d_R_finding_28 : decode b_R_finding 28 = .ok (.iconst 3, 1) := by decide +kernel
theorem d_R_finding_29 : decode b_R_finding 29 = .ok (.if_icmp .ge 31, 3) := by decide +kernel
theorem d_R_finding_32 : decode b_R_finding 32 = .ok (.iload_n 2, 1) := by decide +kernel
theorem d_R_finding_33 : decode b_R_finding 33 = .ok (.ifCond .ne 10, 3) := by decide +kernel
theorem d_R_finding_36 : decode b_R_finding 36 = .ok (.aload_n 0, 1) := by decide +kernel
theorem d_R_finding_37 : decode b_R_finding 37 = .ok (.getfield 131, 3) := by decide +kernel
theorem d_R_finding_40 : decode b_R_finding 40 = .ok (.goto 19, 3) := by decide +kernel
theorem d_R_finding_43 : decode b_R_finding 43 = .ok (.iload_n 2, 1) := by decide +kernel
theorem d_R_finding_44 : decode b_R_finding 44 = .ok (.iconst 1, 1) := by decide +kernel
theorem d_R_finding_45 : decode b_R_finding 45 = .ok (.if_icmp .ne 10, 3) := by decide +kernel
theorem d_R_finding_48 : decode b_R_finding 48 = .ok (.aload_n 0, 1) := by decide +kernel
theorem d_R_finding_49 : decode b_R_finding 49 = .ok (.getfield 134, 3) := by decide +kernel
theorem d_R_finding_52 : decode b_R_finding 52 = .ok (.goto 7, 3) := by decide +kernel
theorem d_R_finding_55 : decode b_R_finding 55 = .ok (.aload_n 0, 1) := by decide +kernel
theorem d_R_finding_56 : decode b_R_finding 56 = .ok (.getfield 137, 3) := by decide +kernel
theorem d_R_finding_59 : decode b_R_finding 59 = .ok (.ireturn, 1) := by decide +kernel
theorem d_R_finding_60 : decode b_R_finding 60 = .ok (.iload_n 2, 1) := by decide +kernel
theorem d_R_finding_61 : decode b_R_finding 61 = .ok (.iconst 3, 1) := by decide +kernel
theorem d_R_finding_62 : decode b_R_finding 62 = .ok (.if_icmp .ne 13, 3) := by decide +kernel
theorem d_R_finding_65 : decode b_R_finding 65 = .ok (.aload_n 0, 1) := by decide +kernel
theorem d_R_finding_66 : decode b_R_finding 66 = .ok (.getfield 131, 3) := by decide +kernel
theorem d_R_finding_69 : decode b_R_finding 69 = .ok (.invokestatic 140, 3) := by decide +kernel
theorem d_R_finding_72 : decode b_R_finding 72 = .ok (.goto 28, 3) := by decide +kernel
theorem d_R_finding_75 : decode b_R_finding 75 = .ok (.aload_n 0, 1) := by decide +kernel
theorem d_R_finding_76 : decode b_R_finding 76 = .ok (.getfield 47, 3) := by decide +kernel
theorem d_R_finding_79 : decode b_R_finding 79 = .ok (.bipush 12, 2) := by decide +kernel
theorem d_R_finding_81 : decode b_R_finding 81 = .ok (.aload_n 0, 1) := by decide +kernel
theorem d_R_finding_82 : decode b_R_finding 82 = .ok (.getfield 131, 3) := by decide +kernel
theorem d_R_finding_85 : decode b_R_finding 85 = .ok (.imul, 1) := by decide +kernel
theorem d_R_finding_86 : decode b_R_finding 86 = .ok (.aload_n 0, 1) := by decide +kernel
theorem d_R_finding_87 : decode b_R_finding 87 = .ok (.getfield 134, 3) := by decide +kernel
theorem d_R_finding_90 : decode b_R_finding 90 = .ok (.iadd, 1) := by decide +kernel
theorem d_R_finding_91 : decode b_R_finding 91 = .ok (.baload, 1) := by decide +kernel
theorem d_R_finding_92 : decode b_R_finding 92 = .ok (.ifCond .eq 7, 3) := by decide +kernel
theorem d_R_finding_95 : decode b_R_finding 95 = .ok (.iconst 1, 1) := by decide +kernel
theorem d_R_finding_96 : decode b_R_finding 96 = .ok (.goto 4, 3) := by decide +kernel
theorem d_R_finding_99 : decode b_R_finding 99 = .ok (.iconst 0, 1) := by decide +kernel
theorem d_R_finding_100 : decode b_R_finding 100 = .ok (.ireturn, 1) := by decide +kernel
theorem d_R_verdict_0 : decode b_R_verdict 0 = .ok (.aload_n 0, 1) := by decide +kernel
theorem d_R_verdict_1 : decode b_R_verdict 1 = .ok (.iconst (-1), 1) := by decide +kernel
theorem d_R_verdict_2 : decode b_R_verdict 2 = .ok (.invokevirtual 163, 3) := by decide +kernel
theorem d_R_verdict_5 : decode b_R_verdict 5 = .ok (.aload_n 0, 1) := by decide +kernel
theorem d_R_verdict_6 : decode b_R_verdict 6 = .ok (.getfield 143, 3) := by decide +kernel
theorem d_R_verdict_9 : decode b_R_verdict 9 = .ok (.ireturn, 1) := by decide +kernel
theorem d_R_byRule_0 : decode b_R_byRule 0 = .ok (.iload_n 1, 1) := by decide +kernel
theorem d_R_byRule_1 : decode b_R_byRule 1 = .ok (.bipush 13, 2) := by decide +kernel
theorem d_R_byRule_3 : decode b_R_byRule 3 = .ok (.invokestatic 59, 3) := by decide +kernel
theorem d_R_byRule_6 : decode b_R_byRule 6 = .ok (.ifCond .eq 5, 3) := by decide +kernel
theorem d_R_byRule_9 : decode b_R_byRule 9 = .ok (.iconst (-1), 1) := by decide +kernel
theorem d_R_byRule_10 : decode b_R_byRule 10 = .ok (.ireturn, 1) := by decide +kernel
theorem d_R_byRule_11 : decode b_R_byRule 11 = .ok (.aload_n 0, 1) := by decide +kernel
theorem d_R_byRule_12 : decode b_R_byRule 12 = .ok (.iconst (-1), 1) := by decide +kernel
theorem d_R_byRule_13 : decode b_R_byRule 13 = .ok (.invokevirtual 163, 3) := by decide +kernel
theorem d_R_byRule_16 : decode b_R_byRule 16 = .ok (.aload_n 0, 1) := by decide +kernel
theorem d_R_byRule_17 : decode b_R_byRule 17 = .ok (.getfield 56, 3) := by decide +kernel
theorem d_R_byRule_20 : decode b_R_byRule 20 = .ok (.iload_n 1, 1) := by decide +kernel
theorem d_R_byRule_21 : decode b_R_byRule 21 = .ok (.iaload, 1) := by decide +kernel
theorem d_R_byRule_22 : decode b_R_byRule 22 = .ok (.ireturn, 1) := by decide +kernel
theorem d_R_count_0 : decode b_R_count 0 = .ok (.iconst 0, 1) := by decide +kernel
theorem d_R_count_1 : decode b_R_count 1 = .ok (.istore_n 2, 1) := by decide +kernel
theorem d_R_count_2 : decode b_R_count 2 = .ok (.iload_n 1, 1) := by decide +kernel
theorem d_R_count_3 : decode b_R_count 3 = .ok (.iconst 4, 1) := by decide +kernel
theorem d_R_count_4 : decode b_R_count 4 = .ok (.invokestatic 59, 3) := by decide +kernel
theorem d_R_count_7 : decode b_R_count 7 = .ok (.ifCond .eq 5, 3) := by decide +kernel
theorem d_R_count_10 : decode b_R_count 10 = .ok (.iconst (-1), 1) := by decide +kernel
theorem d_R_count_11 : decode b_R_count 11 = .ok (.ireturn, 1) := by decide +kernel
theorem d_R_count_12 : decode b_R_count 12 = .ok (.iconst 0, 1) := by decide +kernel
theorem d_R_count_13 : decode b_R_count 13 = .ok (.istore_n 3, 1) := by decide +kernel
theorem d_R_count_14 : decode b_R_count 14 = .ok (.iload_n 3, 1) := by decide +kernel
theorem d_R_count_15 : decode b_R_count 15 = .ok (.sipush 168, 3) := by decide +kernel
theorem d_R_count_18 : decode b_R_count 18 = .ok (.if_icmp .ge 26, 3) := by decide +kernel
theorem d_R_count_21 : decode b_R_count 21 = .ok (.iload_n 1, 1) := by decide +kernel
theorem d_R_count_22 : decode b_R_count 22 = .ok (.iconst 4, 1) := by decide +kernel
theorem d_R_count_23 : decode b_R_count 23 = .ok (.if_icmp .ne 21, 3) := by decide +kernel
theorem d_R_count_26 : decode b_R_count 26 = .ok (.aload_n 0, 1) := by decide +kernel
theorem d_R_count_27 : decode b_R_count 27 = .ok (.getfield 47, 3) := by decide +kernel
theorem d_R_count_30 : decode b_R_count 30 = .ok (.iload_n 3, 1) := by decide +kernel
theorem d_R_count_31 : decode b_R_count 31 = .ok (.baload, 1) := by decide +kernel
theorem d_R_count_32 : decode b_R_count 32 = .ok (.ifCond .eq 6, 3) := by decide +kernel
theorem d_R_count_35 : decode b_R_count 35 = .ok (.iinc 2 1, 3) := by decide +kernel
theorem d_R_count_38 : decode b_R_count 38 = .ok (.iinc 3 1, 3) := by decide +kernel
theorem d_R_count_41 : decode b_R_count 41 = .ok (.goto (-27), 3) := by decide +kernel
theorem d_R_count_44 : decode b_R_count 44 = .ok (.iload_n 1, 1) := by decide +kernel
theorem d_R_count_45 : decode b_R_count 45 = .ok (.iconst 2, 1) := by decide +kernel
theorem d_R_count_46 : decode b_R_count 46 = .ok (.irem, 1) := by decide +kernel
theorem d_R_count_47 : decode b_R_count 47 = .ok (.istore_n 3, 1) := by decide +kernel
theorem d_R_count_48 : decode b_R_count 48 = .ok (.bipush 12, 2) := by decide +kernel
theorem d_R_count_50 : decode b_R_count 50 = .ok (.iload_n 3, 1) := by decide +kernel
theorem d_R_count_51 : decode b_R_count 51 = .ok (.imul, 1) := by decide +kernel
theorem d_R_count_52 : decode b_R_count 52 = .ok (.istore 4, 2) := by decide +kernel
theorem d_R_count_54 : decode b_R_count 54 = .ok (.iload 4, 2) := by decide +kernel
theorem d_R_count_56 : decode b_R_count 56 = .ok (.bipush 12, 2) := by decide +kernel
theorem d_R_count_58 : decode b_R_count 58 = .ok (.iload_n 3, 1) := by decide +kernel
theorem d_R_count_59 : decode b_R_count 59 = .ok (.imul, 1) := by decide +kernel
theorem d_R_count_60 : decode b_R_count 60 = .ok (.bipush 12, 2) := by decide +kernel
theorem d_R_count_62 : decode b_R_count 62 = .ok (.iadd, 1) := by decide +kernel
theorem d_R_count_63 : decode b_R_count 63 = .ok (.if_icmp .ge 43, 3) := by decide +kernel
theorem d_R_count_66 : decode b_R_count 66 = .ok (.iload_n 1, 1) := by decide +kernel
theorem d_R_count_67 : decode b_R_count 67 = .ok (.iconst 4, 1) := by decide +kernel
theorem d_R_count_68 : decode b_R_count 68 = .ok (.if_icmp .ge 38, 3) := by decide +kernel
theorem d_R_count_71 : decode b_R_count 71 = .ok (.aload_n 0, 1) := by decide +kernel
theorem d_R_count_72 : decode b_R_count 72 = .ok (.getfield 7, 3) := by decide +kernel
theorem d_R_count_75 : decode b_R_count 75 = .ok (.iload 4, 2) := by decide +kernel
theorem d_R_count_77 : decode b_R_count 77 = .ok (.baload, 1) := by decide +kernel
theorem d_R_count_78 : decode b_R_count 78 = .ok (.ifCond .eq 22, 3) := by decide +kernel
theorem d_R_count_81 : decode b_R_count 81 = .ok (.iload_n 2, 1) := by decide +kernel
theorem d_R_count_82 : decode b_R_count 82 = .ok (.iload_n 1, 1) := by decide +kernel
theorem d_R_count_83 : decode b_R_count 83 = .ok (.iconst 2, 1) := by decide +kernel
theorem d_R_count_84 : decode b_R_count 84 = .ok (.if_icmp .ge 7, 3) := by decide +kernel
theorem d_R_count_87 : decode b_R_count 87 = .ok (.iconst 1, 1) := by decide +kernel
theorem d_R_count_88 : decode b_R_count 88 = .ok (.goto 10, 3) := by decide +kernel
theorem d_R_count_91 : decode b_R_count 91 = .ok (.aload_n 0, 1) := by decide +kernel
theorem d_R_count_92 : decode b_R_count 92 = .ok (.getfield 29, 3) := by decide +kernel
theorem d_R_count_95 : decode b_R_count 95 = .ok (.iload 4, 2) := by decide +kernel
theorem d_R_count_97 : decode b_R_count 97 = .ok (.iaload, 1) := by decide +kernel
theorem d_R_count_98 : decode b_R_count 98 = .ok (.iadd, 1) := by decide +kernel
theorem d_R_count_99 : decode b_R_count 99 = .ok (.istore_n 2, 1) := by decide +kernel
theorem d_R_count_100 : decode b_R_count 100 = .ok (.iinc 4 1, 3) := by decide +kernel
theorem d_R_count_103 : decode b_R_count 103 = .ok (.goto (-49), 3) := by decide +kernel
theorem d_R_count_106 : decode b_R_count 106 = .ok (.iload_n 2, 1) := by decide +kernel
theorem d_R_count_107 : decode b_R_count 107 = .ok (.ireturn, 1) := by decide +kernel
theorem d_B_init_0 : decode b_B_init 0 = .ok (.aload_n 0, 1) := by decide +kernel
theorem d_B_init_1 : decode b_B_init 1 = .ok (.invokespecial 3, 3) := by decide +kernel
theorem d_B_init_4 : decode b_B_init 4 = .ok (.aload_n 0, 1) := by decide +kernel
theorem d_B_init_5 : decode b_B_init 5 = .ok (.bipush 12, 2) := by decide +kernel
theorem d_B_init_7 : decode b_B_init 7 = .ok (.anewarray 9, 3) := by decide +kernel
theorem d_B_init_10 : decode b_B_init 10 = .ok (.putfield 11, 3) := by decide +kernel
theorem d_B_init_13 : decode b_B_init 13 = .ok (.iconst 0, 1) := by decide +kernel
theorem d_B_init_14 : decode b_B_init 14 = .ok (.istore_n 1, 1) := by decide +kernel
theorem d_B_init_15 : decode b_B_init 15 = .ok (.iload_n 1, 1) := by decide +kernel
theorem d_B_init_16 : decode b_B_init 16 = .ok (.bipush 12, 2) := by decide +kernel
theorem d_B_init_18 : decode b_B_init 18 = .ok (.if_icmp .ge 22, 3) := by decide +kernel
theorem d_B_init_21 : decode b_B_init 21 = .ok (.aload_n 0, 1) := by decide +kernel
theorem d_B_init_22 : decode b_B_init 22 = .ok (.getfield 11, 3) := by decide +kernel
theorem d_B_init_25 : decode b_B_init 25 = .ok (.iload_n 1, 1) := by decide +kernel
theorem d_B_init_26 : decode b_B_init 26 = .ok (.new 9, 3) := by decide +kernel
theorem d_B_init_29 : decode b_B_init 29 = .ok (.dup, 1) := by decide +kernel
theorem d_B_init_30 : decode b_B_init 30 = .ok (.invokespecial 17, 3) := by decide +kernel
theorem d_B_init_33 : decode b_B_init 33 = .ok (.aastore, 1) := by decide +kernel
theorem d_B_init_34 : decode b_B_init 34 = .ok (.iinc 1 1, 3) := by decide +kernel
theorem d_B_init_37 : decode b_B_init 37 = .ok (.goto (-22), 3) := by decide +kernel
theorem d_B_init_40 : decode b_B_init 40 = .ok (.aload_n 0, 1) := by decide +kernel
theorem d_B_init_41 : decode b_B_init 41 = .ok (.bipush 12, 2) := by decide +kernel
theorem d_B_init_43 : decode b_B_init 43 = .ok (.newarray .int, 2) := by decide +kernel
theorem d_B_init_45 : decode b_B_init 45 = .ok (.putfield 18, 3) := by decide +kernel
theorem d_B_init_48 : decode b_B_init 48 = .ok (.return_, 1) := by decide +kernel
theorem d_B_become_0 : decode b_B_become 0 = .ok (.iconst 0, 1) := by decide +kernel
theorem d_B_become_1 : decode b_B_become 1 = .ok (.istore_n 2, 1) := by decide +kernel
theorem d_B_become_2 : decode b_B_become 2 = .ok (.iload_n 2, 1) := by decide +kernel
theorem d_B_become_3 : decode b_B_become 3 = .ok (.bipush 12, 2) := by decide +kernel
theorem d_B_become_5 : decode b_B_become 5 = .ok (.if_icmp .ge 24, 3) := by decide +kernel
theorem d_B_become_8 : decode b_B_become 8 = .ok (.aload_n 0, 1) := by decide +kernel
theorem d_B_become_9 : decode b_B_become 9 = .ok (.getfield 11, 3) := by decide +kernel
theorem d_B_become_12 : decode b_B_become 12 = .ok (.iload_n 2, 1) := by decide +kernel
theorem d_B_become_13 : decode b_B_become 13 = .ok (.aaload, 1) := by decide +kernel
theorem d_B_become_14 : decode b_B_become 14 = .ok (.aload_n 1, 1) := by decide +kernel
theorem d_B_become_15 : decode b_B_become 15 = .ok (.getfield 11, 3) := by decide +kernel
theorem d_B_become_18 : decode b_B_become 18 = .ok (.iload_n 2, 1) := by decide +kernel
theorem d_B_become_19 : decode b_B_become 19 = .ok (.aaload, 1) := by decide +kernel
theorem d_B_become_20 : decode b_B_become 20 = .ok (.invokevirtual 22, 3) := by decide +kernel
theorem d_B_become_23 : decode b_B_become 23 = .ok (.iinc 2 1, 3) := by decide +kernel
theorem d_B_become_26 : decode b_B_become 26 = .ok (.goto (-24), 3) := by decide +kernel
theorem d_B_become_29 : decode b_B_become 29 = .ok (.return_, 1) := by decide +kernel
theorem d_B_typeCount_0 : decode b_B_typeCount 0 = .ok (.iconst 0, 1) := by decide +kernel
theorem d_B_typeCount_1 : decode b_B_typeCount 1 = .ok (.istore_n 1, 1) := by decide +kernel
theorem d_B_typeCount_2 : decode b_B_typeCount 2 = .ok (.iconst 0, 1) := by decide +kernel
theorem d_B_typeCount_3 : decode b_B_typeCount 3 = .ok (.istore_n 2, 1) := by decide +kernel
theorem d_B_typeCount_4 : decode b_B_typeCount 4 = .ok (.iload_n 2, 1) := by decide +kernel
theorem d_B_typeCount_5 : decode b_B_typeCount 5 = .ok (.bipush 12, 2) := by decide +kernel
theorem d_B_typeCount_7 : decode b_B_typeCount 7 = .ok (.if_icmp .ge 24, 3) := by decide +kernel
theorem d_B_typeCount_10 : decode b_B_typeCount 10 = .ok (.aload_n 0, 1) := by decide +kernel
theorem d_B_typeCount_11 : decode b_B_typeCount 11 = .ok (.getfield 11, 3) := by decide +kernel
theorem d_B_typeCount_14 : decode b_B_typeCount 14 = .ok (.iload_n 2, 1) := by decide +kernel
theorem d_B_typeCount_15 : decode b_B_typeCount 15 = .ok (.aaload, 1) := by decide +kernel
theorem d_B_typeCount_16 : decode b_B_typeCount 16 = .ok (.getfield 26, 3) := by decide +kernel
theorem d_B_typeCount_19 : decode b_B_typeCount 19 = .ok (.ifCond .eq 6, 3) := by decide +kernel
theorem d_B_typeCount_22 : decode b_B_typeCount 22 = .ok (.iinc 1 1, 3) := by decide +kernel
theorem d_B_typeCount_25 : decode b_B_typeCount 25 = .ok (.iinc 2 1, 3) := by decide +kernel
theorem d_B_typeCount_28 : decode b_B_typeCount 28 = .ok (.goto (-24), 3) := by decide +kernel
theorem d_B_typeCount_31 : decode b_B_typeCount 31 = .ok (.iload_n 1, 1) := by decide +kernel
theorem d_B_typeCount_32 : decode b_B_typeCount 32 = .ok (.ireturn, 1) := by decide +kernel
theorem d_B_memberCount_0 : decode b_B_memberCount 0 = .ok (.iconst 0, 1) := by decide +kernel
theorem d_B_memberCount_1 : decode b_B_memberCount 1 = .ok (.istore_n 1, 1) := by decide +kernel
theorem d_B_memberCount_2 : decode b_B_memberCount 2 = .ok (.iconst 0, 1) := by decide +kernel
theorem d_B_memberCount_3 : decode b_B_memberCount 3 = .ok (.istore_n 2, 1) := by decide +kernel
theorem d_B_memberCount_4 : decode b_B_memberCount 4 = .ok (.iload_n 2, 1) := by decide +kernel
theorem d_B_memberCount_5 : decode b_B_memberCount 5 = .ok (.bipush 12, 2) := by decide +kernel
theorem d_B_memberCount_7 : decode b_B_memberCount 7 = .ok (.if_icmp .ge 21, 3) := by decide +kernel
theorem d_B_memberCount_10 : decode b_B_memberCount 10 = .ok (.iload_n 1, 1) := by decide +kernel
theorem d_B_memberCount_11 : decode b_B_memberCount 11 = .ok (.aload_n 0, 1) := by decide +kernel
theorem d_B_memberCount_12 : decode b_B_memberCount 12 = .ok (.getfield 11, 3) := by decide +kernel
theorem d_B_memberCount_15 : decode b_B_memberCount 15 = .ok (.iload_n 2, 1) := by decide +kernel
theorem d_B_memberCount_16 : decode b_B_memberCount 16 = .ok (.aaload, 1) := by decide +kernel
theorem d_B_memberCount_17 : decode b_B_memberCount 17 = .ok (.getfield 30, 3) := by decide +kernel
theorem d_B_memberCount_20 : decode b_B_memberCount 20 = .ok (.iadd, 1) := by decide +kernel
theorem d_B_memberCount_21 : decode b_B_memberCount 21 = .ok (.istore_n 1, 1) := by decide +kernel
theorem d_B_memberCount_22 : decode b_B_memberCount 22 = .ok (.iinc 2 1, 3) := by decide +kernel
theorem d_B_memberCount_25 : decode b_B_memberCount 25 = .ok (.goto (-21), 3) := by decide +kernel
theorem d_B_memberCount_28 : decode b_B_memberCount 28 = .ok (.iload_n 1, 1) := by decide +kernel
theorem d_B_memberCount_29 : decode b_B_memberCount 29 = .ok (.ireturn, 1) := by decide +kernel
theorem d_B_settle_0 : decode b_B_settle 0 = .ok (.iconst 0, 1) := by decide +kernel
theorem d_B_settle_1 : decode b_B_settle 1 = .ok (.istore_n 1, 1) := by decide +kernel
theorem d_B_settle_2 : decode b_B_settle 2 = .ok (.iload_n 1, 1) := by decide +kernel
theorem d_B_settle_3 : decode b_B_settle 3 = .ok (.bipush 12, 2) := by decide +kernel
theorem d_B_settle_5 : decode b_B_settle 5 = .ok (.if_icmp .ge 66, 3) := by decide +kernel
theorem d_B_settle_8 : decode b_B_settle 8 = .ok (.aload_n 0, 1) := by decide +kernel
theorem d_B_settle_9 : decode b_B_settle 9 = .ok (.getfield 11, 3) := by decide +kernel
theorem d_B_settle_12 : decode b_B_settle 12 = .ok (.iload_n 1, 1) := by decide +kernel
theorem d_B_settle_13 : decode b_B_settle 13 = .ok (.aaload, 1) := by decide +kernel
theorem d_B_settle_14 : decode b_B_settle 14 = .ok (.aload_n 0, 1) := by decide +kernel
theorem d_B_settle_15 : decode b_B_settle 15 = .ok (.aload_n 0, 1) := by decide +kernel
theorem d_B_settle_16 : decode b_B_settle 16 = .ok (.getfield 11, 3) := by decide +kernel
theorem d_B_settle_19 : decode b_B_settle 19 = .ok (.iload_n 1, 1) := by decide +kernel
theorem d_B_settle_20 : decode b_B_settle 20 = .ok (.aaload, 1) := by decide +kernel
theorem d_B_settle_21 : decode b_B_settle 21 = .ok (.getfield 34, 3) := by decide +kernel
theorem d_B_settle_24 : decode b_B_settle 24 = .ok (.invokevirtual 37, 3) := by decide +kernel
theorem d_B_settle_27 : decode b_B_settle 27 = .ok (.ifCond .eq 15, 3) := by decide +kernel
theorem d_B_settle_30 : decode b_B_settle 30 = .ok (.aload_n 0, 1) := by decide +kernel
theorem d_B_settle_31 : decode b_B_settle 31 = .ok (.getfield 11, 3) := by decide +kernel
theorem d_B_settle_34 : decode b_B_settle 34 = .ok (.iload_n 1, 1) := by decide +kernel
theorem d_B_settle_35 : decode b_B_settle 35 = .ok (.aaload, 1) := by decide +kernel
theorem d_B_settle_36 : decode b_B_settle 36 = .ok (.getfield 34, 3) := by decide +kernel
theorem d_B_settle_39 : decode b_B_settle 39 = .ok (.goto 4, 3) := by decide +kernel
theorem d_B_settle_42 : decode b_B_settle 42 = .ok (.iconst (-1), 1) := by decide +kernel
theorem d_B_settle_43 : decode b_B_settle 43 = .ok (.putfield 41, 3) := by decide +kernel
theorem d_B_settle_46 : decode b_B_settle 46 = .ok (.aload_n 0, 1) := by decide +kernel
theorem d_B_settle_47 : decode b_B_settle 47 = .ok (.getfield 11, 3) := by decide +kernel
theorem d_B_settle_50 : decode b_B_settle 50 = .ok (.iload_n 1, 1) := by decide +kernel
theorem d_B_settle_51 : decode b_B_settle 51 = .ok (.aaload, 1) := by decide +kernel
theorem d_B_settle_52 : decode b_B_settle 52 = .ok (.aload_n 0, 1) := by decide +kernel
theorem d_B_settle_53 : decode b_B_settle 53 = .ok (.aload_n 0, 1) := by decide +kernel
theorem d_B_settle_54 : decode b_B_settle 54 = .ok (.getfield 11, 3) := by decide +kernel
theorem d_B_settle_57 : decode b_B_settle 57 = .ok (.iload_n 1, 1) := by decide +kernel
theorem d_B_settle_58 : decode b_B_settle 58 = .ok (.aaload, 1) := by decide +kernel
theorem d_B_settle_59 : decode b_B_settle 59 = .ok (.invokevirtual 44, 3) := by decide +kernel
theorem d_B_settle_62 : decode b_B_settle 62 = .ok (.putfield 48, 3) := by decide +kernel
theorem d_B_settle_65 : decode b_B_settle 65 = .ok (.iinc 1 1, 3) := by decide +kernel
theorem d_B_settle_68 : decode b_B_settle 68 = .ok (.goto (-66), 3) := by decide +kernel
theorem d_B_settle_71 : decode b_B_settle 71 = .ok (.return_, 1) := by decide +kernel
theorem d_B_gatherSupertypes_0 : decode b_B_gatherSupertypes 0 = .ok (.iconst 0, 1) := by decide +kernel
theorem d_B_gatherSupertypes_1 : decode b_B_gatherSupertypes 1 = .ok (.istore_n 2, 1) := by decide +kernel
theorem d_B_gatherSupertypes_2 : decode b_B_gatherSupertypes 2 = .ok (.aload_n 1, 1) := by decide +kernel
theorem d_B_gatherSupertypes_3 : decode b_B_gatherSupertypes 3 = .ok (.getfield 41, 3) := by decide +kernel
theorem d_B_gatherSupertypes_6 : decode b_B_gatherSupertypes 6 = .ok (.iconst (-1), 1) := by decide +kernel
theorem d_B_gatherSupertypes_7 : decode b_B_gatherSupertypes 7 = .ok (.if_icmp .eq 23, 3) := by decide +kernel
theorem d_B_gatherSupertypes_10 : decode b_B_gatherSupertypes 10 = .ok (.iconst 1, 1) := by decide +kernel
theorem d_B_gatherSupertypes_11 : decode b_B_gatherSupertypes 11 = .ok (.aload_n 1, 1) := by decide +kernel
theorem d_B_gatherSupertypes_12 : decode b_B_gatherSupertypes 12 = .ok (.getfield 41, 3) := by decide +kernel
theorem d_B_gatherSupertypes_15 : decode b_B_gatherSupertypes 15 = .ok (.ishl, 1) := by decide +kernel
theorem d_B_gatherSupertypes_16 : decode b_B_gatherSupertypes 16 = .ok (.aload_n 0, 1) := by decide +kernel
theorem d_B_gatherSupertypes_17 : decode b_B_gatherSupertypes 17 = .ok (.getfield 11, 3) := by decide +kernel
theorem d_B_gatherSupertypes_20 : decode b_B_gatherSupertypes 20 = .ok (.aload_n 1, 1) := by decide +kernel
theorem d_B_gatherSupertypes_21 : decode b_B_gatherSupertypes 21 = .ok (.getfield 41, 3) := by decide +kernel
theorem d_B_gatherSupertypes_24 : decode b_B_gatherSupertypes 24 = .ok (.aaload, 1) := by decide +kernel
theorem d_B_gatherSupertypes_25 : decode b_B_gatherSupertypes 25 = .ok (.getfield 48, 3) := by decide +kernel
theorem d_B_gatherSupertypes_28 : decode b_B_gatherSupertypes 28 = .ok (.ior, 1) := by decide +kernel
theorem d_B_gatherSupertypes_29 : decode b_B_gatherSupertypes 29 = .ok (.istore_n 2, 1) := by decide +kernel
theorem d_B_gatherSupertypes_30 : decode b_B_gatherSupertypes 30 = .ok (.iconst 0, 1) := by decide +kernel
theorem d_B_gatherSupertypes_31 : decode b_B_gatherSupertypes 31 = .ok (.istore_n 3, 1) := by decide +kernel
theorem d_B_gatherSupertypes_32 : decode b_B_gatherSupertypes 32 = .ok (.iload_n 3, 1) := by decide +kernel
theorem d_B_gatherSupertypes_33 : decode b_B_gatherSupertypes 33 = .ok (.aload_n 1, 1) := by decide +kernel
theorem d_B_gatherSupertypes_34 : decode b_B_gatherSupertypes 34 = .ok (.getfield 51, 3) := by decide +kernel
theorem d_B_gatherSupertypes_37 : decode b_B_gatherSupertypes 37 = .ok (.if_icmp .ge 44, 3) := by decide +kernel
theorem d_B_gatherSupertypes_40 : decode b_B_gatherSupertypes 40 = .ok (.aload_n 1, 1) := by decide +kernel
theorem d_B_gatherSupertypes_41 : decode b_B_gatherSupertypes 41 = .ok (.getfield 54, 3) := by decide +kernel
theorem d_B_gatherSupertypes_44 : decode b_B_gatherSupertypes 44 = .ok (.iload_n 3, 1) := by decide +kernel
theorem d_B_gatherSupertypes_45 : decode b_B_gatherSupertypes 45 = .ok (.iaload, 1) := by decide +kernel
theorem d_B_gatherSupertypes_46 : decode b_B_gatherSupertypes 46 = .ok (.istore 4, 2) := by decide +kernel
theorem d_B_gatherSupertypes_48 : decode b_B_gatherSupertypes 48 = .ok (.aload_n 0, 1) := by decide +kernel
theorem d_B_gatherSupertypes_49 : decode b_B_gatherSupertypes 49 = .ok (.iload 4, 2) := by decide +kernel
theorem d_B_gatherSupertypes_51 : decode b_B_gatherSupertypes 51 = .ok (.invokevirtual 57, 3) := by decide +kernel
theorem d_B_gatherSupertypes_54 : decode b_B_gatherSupertypes 54 = .ok (.ifCond .eq 21, 3) := by decide +kernel
theorem d_B_gatherSupertypes_57 : decode b_B_gatherSupertypes 57 = .ok (.iload_n 2, 1) := by decide +kernel
theorem d_B_gatherSupertypes_58 : decode b_B_gatherSupertypes 58 = .ok (.iconst 1, 1) := by decide +kernel
theorem d_B_gatherSupertypes_59 : decode b_B_gatherSupertypes 59 = .ok (.iload 4, 2) := by decide +kernel
theorem d_B_gatherSupertypes_61 : decode b_B_gatherSupertypes 61 = .ok (.ishl, 1) := by decide +kernel
theorem d_B_gatherSupertypes_62 : decode b_B_gatherSupertypes 62 = .ok (.ior, 1) := by decide +kernel
theorem d_B_gatherSupertypes_63 : decode b_B_gatherSupertypes 63 = .ok (.aload_n 0, 1) := by decide +kernel
theorem d_B_gatherSupertypes_64 : decode b_B_gatherSupertypes 64 = .ok (.getfield 11, 3) := by decide +kernel
theorem d_B_gatherSupertypes_67 : decode b_B_gatherSupertypes 67 = .ok (.iload 4, 2) := by decide +kernel
theorem d_B_gatherSupertypes_69 : decode b_B_gatherSupertypes 69 = .ok (.aaload, 1) := by decide +kernel
theorem d_B_gatherSupertypes_70 : decode b_B_gatherSupertypes 70 = .ok (.getfield 48, 3) := by decide +kernel
theorem d_B_gatherSupertypes_73 : decode b_B_gatherSupertypes 73 = .ok (.ior, 1) := by decide +kernel
theorem d_B_gatherSupertypes_74 : decode b_B_gatherSupertypes 74 = .ok (.istore_n 2, 1) := by decide +kernel
theorem d_B_gatherSupertypes_75 : decode b_B_gatherSupertypes 75 = .ok (.iinc 3 1, 3) := by decide +kernel
theorem d_B_gatherSupertypes_78 : decode b_B_gatherSupertypes 78 = .ok (.goto (-46), 3) := by decide +kernel
theorem d_B_gatherSupertypes_81 : decode b_B_gatherSupertypes 81 = .ok (.iload_n 2, 1) := by decide +kernel
theorem d_B_gatherSupertypes_82 : decode b_B_gatherSupertypes 82 = .ok (.ireturn, 1) := by decide +kernel
theorem d_B_isClass_0 : decode b_B_isClass 0 = .ok (.iload_n 1, 1) := by decide +kernel
theorem d_B_isClass_1 : decode b_B_isClass 1 = .ok (.bipush 12, 2) := by decide +kernel
theorem d_B_isClass_3 : decode b_B_isClass 3 = .ok (.invokestatic 60, 3) := by decide +kernel
theorem d_B_isClass_6 : decode b_B_isClass 6 = .ok (.ifCond .eq 31, 3) := by decide +kernel
theorem d_B_isClass_9 : decode b_B_isClass 9 = .ok (.aload_n 0, 1) := by decide +kernel
theorem d_B_isClass_10 : decode b_B_isClass 10 = .ok (.getfield 11, 3) := by decide +kernel
theorem d_B_isClass_13 : decode b_B_isClass 13 = .ok (.iload_n 1, 1) := by decide +kernel
theorem d_B_isClass_14 : decode b_B_isClass 14 = .ok (.aaload, 1) := by decide +kernel
theorem d_B_isClass_15 : decode b_B_isClass 15 = .ok (.getfield 26, 3) := by decide +kernel
theorem d_B_isClass_18 : decode b_B_isClass 18 = .ok (.ifCond .eq 19, 3) := by decide +kernel
theorem d_B_isClass_21 : decode b_B_isClass 21 = .ok (.aload_n 0, 1) := by decide +kernel
theorem d_B_isClass_22 : decode b_B_isClass 22 = .ok (.getfield 11, 3) := by decide +kernel
theorem d_B_isClass_25 : decode b_B_isClass 25 = .ok (.iload_n 1, 1) := by decide +kernel
theorem d_B_isClass_26 : decode b_B_isClass 26 = .ok (.aaload, 1) := by decide +kernel
theorem d_B_isClass_27 : decode b_B_isClass 27 = .ok (.getfield 64, 3) := by decide +kernel
theorem d_B_isClass_30 : decode b_B_isClass 30 = .ok (.ifCond .ne 7, 3) := by decide +kernel
theorem d_B_isClass_33 : decode b_B_isClass 33 = .ok (.iconst 1, 1) := by decide +kernel
theorem d_B_isClass_34 : decode b_B_isClass 34 = .ok (.goto 4, 3) := by decide +kernel
theorem d_B_isClass_37 : decode b_B_isClass 37 = .ok (.iconst 0, 1) := by decide +kernel
theorem d_B_isClass_38 : decode b_B_isClass 38 = .ok (.ireturn, 1) := by decide +kernel
theorem d_B_isInterface_0 : decode b_B_isInterface 0 = .ok (.aload_n 0, 1) := by decide +kernel
theorem d_B_isInterface_1 : decode b_B_isInterface 1 = .ok (.getfield 11, 3) := by decide +kernel
theorem d_B_isInterface_4 : decode b_B_isInterface 4 = .ok (.iload_n 1, 1) := by decide +kernel
theorem d_B_isInterface_5 : decode b_B_isInterface 5 = .ok (.aaload, 1) := by decide +kernel
theorem d_B_isInterface_6 : decode b_B_isInterface 6 = .ok (.getfield 26, 3) := by decide +kernel
theorem d_B_isInterface_9 : decode b_B_isInterface 9 = .ok (.ifCond .eq 20, 3) := by decide +kernel
theorem d_B_isInterface_12 : decode b_B_isInterface 12 = .ok (.aload_n 0, 1) := by decide +kernel
theorem d_B_isInterface_13 : decode b_B_isInterface 13 = .ok (.getfield 11, 3) := by decide +kernel
theorem d_B_isInterface_16 : decode b_B_isInterface 16 = .ok (.iload_n 1, 1) := by decide +kernel
theorem d_B_isInterface_17 : decode b_B_isInterface 17 = .ok (.aaload, 1) := by decide +kernel
theorem d_B_isInterface_18 : decode b_B_isInterface 18 = .ok (.getfield 64, 3) := by decide +kernel
theorem d_B_isInterface_21 : decode b_B_isInterface 21 = .ok (.iconst 1, 1) := by decide +kernel
theorem d_B_isInterface_22 : decode b_B_isInterface 22 = .ok (.if_icmp .ne 7, 3) := by decide +kernel
theorem d_B_isInterface_25 : decode b_B_isInterface 25 = .ok (.iconst 1, 1) := by decide +kernel
theorem d_B_isInterface_26 : decode b_B_isInterface 26 = .ok (.goto 4, 3) := by decide +kernel
theorem d_B_isInterface_29 : decode b_B_isInterface 29 = .ok (.iconst 0, 1) := by decide +kernel
theorem d_B_isInterface_30 : decode b_B_isInterface 30 = .ok (.ireturn, 1) := by decide +kernel
theorem d_B_whereIs_0 : decode b_B_whereIs 0 = .ok (.aload_n 0, 1) := by decide +kernel
theorem d_B_whereIs_1 : decode b_B_whereIs 1 = .ok (.getfield 11, 3) := by decide +kernel
theorem d_B_whereIs_4 : decode b_B_whereIs 4 = .ok (.iload_n 1, 1) := by decide +kernel
theorem d_B_whereIs_5 : decode b_B_whereIs 5 = .ok (.aaload, 1) := by decide +kernel
theorem d_B_whereIs_6 : decode b_B_whereIs 6 = .ok (.getfield 26, 3) := by decide +kernel
theorem d_B_whereIs_9 : decode b_B_whereIs 9 = .ok (.ifCond .ne 6, 3) := by decide +kernel
theorem d_B_whereIs_12 : decode b_B_whereIs 12 = .ok (.bipush 12, 2) := by decide +kernel
theorem d_B_whereIs_14 : decode b_B_whereIs 14 = .ok (.ireturn, 1) := by decide +kernel
theorem d_B_whereIs_15 : decode b_B_whereIs 15 = .ok (.iload_n 2, 1) := by decide +kernel
theorem d_B_whereIs_16 : decode b_B_whereIs 16 = .ok (.ifCond .ne 10, 3) := by decide +kernel
theorem d_B_whereIs_19 : decode b_B_whereIs 19 = .ok (.aload_n 0, 1) := by decide +kernel
theorem d_B_whereIs_20 : decode b_B_whereIs 20 = .ok (.iload_n 1, 1) := by decide +kernel
theorem d_B_whereIs_21 : decode b_B_whereIs 21 = .ok (.iload_n 3, 1) := by decide +kernel
theorem d_B_whereIs_22 : decode b_B_whereIs 22 = .ok (.invokevirtual 67, 3) := by decide +kernel
theorem d_B_whereIs_25 : decode b_B_whereIs 25 = .ok (.ireturn, 1) := by decide +kernel
theorem d_B_whereIs_26 : decode b_B_whereIs 26 = .ok (.iload_n 2, 1) := by decide +kernel
theorem d_B_whereIs_27 : decode b_B_whereIs 27 = .ok (.iconst 1, 1) := by decide +kernel
theorem d_B_whereIs_28 : decode b_B_whereIs 28 = .ok (.if_icmp .ne 10, 3) := by decide +kernel
theorem d_B_whereIs_31 : decode b_B_whereIs 31 = .ok (.aload_n 0, 1) := by decide +kernel
theorem d_B_whereIs_32 : decode b_B_whereIs 32 = .ok (.iload_n 1, 1) := by decide +kernel
theorem d_B_whereIs_33 : decode b_B_whereIs 33 = .ok (.iload_n 3, 1) := by decide +kernel
theorem d_B_whereIs_34 : decode b_B_whereIs 34 = .ok (.invokevirtual 71, 3) := by decide +kernel
theorem d_B_whereIs_37 : decode b_B_whereIs 37 = .ok (.ireturn, 1) := by decide +kernel
theorem d_B_whereIs_38 : decode b_B_whereIs 38 = .ok (.aload_n 0, 1) := by decide +kernel
theorem d_B_whereIs_39 : decode b_B_whereIs 39 = .ok (.getfield 11, 3) := by decide +kernel
theorem d_B_whereIs_42 : decode b_B_whereIs 42 = .ok (.iload_n 1, 1) := by decide +kernel
theorem d_B_whereIs_43 : decode b_B_whereIs 43 = .ok (.aaload, 1) := by decide +kernel
theorem d_B_whereIs_44 : decode b_B_whereIs 44 = .ok (.iload_n 2, 1) := by decide +kernel
theorem d_B_whereIs_45 : decode b_B_whereIs 45 = .ok (.iload_n 3, 1) := by decide +kernel
theorem d_B_whereIs_46 : decode b_B_whereIs 46 = .ok (.invokevirtual 74, 3) := by decide +kernel
theorem d_B_whereIs_49 : decode b_B_whereIs 49 = .ok (.ifnull 7, 3) := by decide +kernel
theorem d_B_whereIs_52 : decode b_B_whereIs 52 = .ok (.iload_n 1, 1) := by decide +kernel
theorem d_B_whereIs_53 : decode b_B_whereIs 53 = .ok (.goto 5, 3) := by decide +kernel
theorem d_B_whereIs_56 : decode b_B_whereIs 56 = .ok (.bipush 12, 2) := by decide +kernel
theorem d_B_whereIs_58 : decode b_B_whereIs 58 = .ok (.ireturn, 1) := by decide +kernel
theorem d_B_whereIsField_0 : decode b_B_whereIsField 0 = .ok (.aload_n 0, 1) := by decide +kernel
theorem d_B_whereIsField_1 : decode b_B_whereIsField 1 = .ok (.getfield 11, 3) := by decide +kernel
theorem d_B_whereIsField_4 : decode b_B_whereIsField 4 = .ok (.iload_n 1, 1) := by decide +kernel
theorem d_B_whereIsField_5 : decode b_B_whereIsField 5 = .ok (.aaload, 1) := by decide +kernel
theorem d_B_whereIsField_6 : decode b_B_whereIsField 6 = .ok (.getfield 48, 3) := by decide +kernel
theorem d_B_whereIsField_9 : decode b_B_whereIsField 9 = .ok (.iconst 1, 1) := by decide +kernel
theorem d_B_whereIsField_10 : decode b_B_whereIsField 10 = .ok (.iload_n 1, 1) := by decide +kernel
theorem d_B_whereIsField_11 : decode b_B_whereIsField 11 = .ok (.ishl, 1) := by decide +kernel
theorem d_B_whereIsField_12 : decode b_B_whereIsField 12 = .ok (.ior, 1) := by decide +kernel
theorem d_B_whereIsField_13 : decode b_B_whereIsField 13 = .ok (.istore_n 3, 1) := by decide +kernel
theorem d_B_whereIsField_14 : decode b_B_whereIsField 14 = .ok (.iconst 0, 1) := by decide +kernel
theorem d_B_whereIsField_15 : decode b_B_whereIsField 15 = .ok (.istore 4, 2) := by decide +kernel
theorem d_B_whereIsField_17 : decode b_B_whereIsField 17 = .ok (.iload 4, 2) := by decide +kernel
theorem d_B_whereIsField_19 : decode b_B_whereIsField 19 = .ok (.iload_n 1, 1) := by decide +kernel
theorem d_B_whereIsField_20 : decode b_B_whereIsField 20 = .ok (.if_icmp .gt 32, 3) := by decide +kernel
theorem d_B_whereIsField_23 : decode b_B_whereIsField 23 = .ok (.iload_n 3, 1) := by decide +kernel
theorem d_B_whereIsField_24 : decode b_B_whereIsField 24 = .ok (.iload 4, 2) := by decide +kernel
theorem d_B_whereIsField_26 : decode b_B_whereIsField 26 = .ok (.invokestatic 78, 3) := by decide +kernel
theorem d_B_whereIsField_29 : decode b_B_whereIsField 29 = .ok (.ifCond .eq 17, 3) := by decide +kernel
theorem d_B_whereIsField_32 : decode b_B_whereIsField 32 = .ok (.aload_n 0, 1) := by decide +kernel
theorem d_B_whereIsField_33 : decode b_B_whereIsField 33 = .ok (.getfield 18, 3) := by decide +kernel
theorem d_B_whereIsField_36 : decode b_B_whereIsField 36 = .ok (.iload 4, 2) := by decide +kernel
theorem d_B_whereIsField_38 : decode b_B_whereIsField 38 = .ok (.aload_n 0, 1) := by decide +kernel
theorem d_B_whereIsField_39 : decode b_B_whereIsField 39 = .ok (.iload 4, 2) := by decide +kernel
theorem d_B_whereIsField_41 : decode b_B_whereIsField 41 = .ok (.iload_n 2, 1) := by decide +kernel
theorem d_B_whereIsField_42 : decode b_B_whereIsField 42 = .ok (.invokevirtual 81, 3) := by decide +kernel
theorem d_B_whereIsField_45 : decode b_B_whereIsField 45 = .ok (.iastore, 1) := by decide +kernel
theorem d_B_whereIsField_46 : decode b_B_whereIsField 46 = .ok (.iinc 4 1, 3) := by decide +kernel
theorem d_B_whereIsField_49 : decode b_B_whereIsField 49 = .ok (.goto (-32), 3) := by decide +kernel
theorem d_B_whereIsField_52 : decode b_B_whereIsField 52 = .ok (.aload_n 0, 1) := by decide +kernel
theorem d_B_whereIsField_53 : decode b_B_whereIsField 53 = .ok (.getfield 18, 3) := by decide +kernel
theorem d_B_whereIsField_56 : decode b_B_whereIsField 56 = .ok (.iload_n 1, 1) := by decide +kernel
theorem d_B_whereIsField_57 : decode b_B_whereIsField 57 = .ok (.iaload, 1) := by decide +kernel
theorem d_B_whereIsField_58 : decode b_B_whereIsField 58 = .ok (.ireturn, 1) := by decide +kernel
theorem d_B_fieldOwnerFor_0 : decode b_B_fieldOwnerFor 0 = .ok (.aload_n 0, 1) := by decide +kernel
theorem d_B_fieldOwnerFor_1 : decode b_B_fieldOwnerFor 1 = .ok (.getfield 11, 3) := by decide +kernel
theorem d_B_fieldOwnerFor_4 : decode b_B_fieldOwnerFor 4 = .ok (.iload_n 1, 1) := by decide +kernel
theorem d_B_fieldOwnerFor_5 : decode b_B_fieldOwnerFor 5 = .ok (.aaload, 1) := by decide +kernel
theorem d_B_fieldOwnerFor_6 : decode b_B_fieldOwnerFor 6 = .ok (.astore_n 3, 1) := by decide +kernel
theorem d_B_fieldOwnerFor_7 : decode b_B_fieldOwnerFor 7 = .ok (.aload_n 3, 1) := by decide +kernel
theorem d_B_fieldOwnerFor_8 : decode b_B_fieldOwnerFor 8 = .ok (.iconst 0, 1) := by decide +kernel
theorem d_B_fieldOwnerFor_9 : decode b_B_fieldOwnerFor 9 = .ok (.iload_n 2, 1) := by decide +kernel
theorem d_B_fieldOwnerFor_10 : decode b_B_fieldOwnerFor 10 = .ok (.invokevirtual 74, 3) := by decide +kernel
theorem d_B_fieldOwnerFor_13 : decode b_B_fieldOwnerFor 13 = .ok (.ifnull 5, 3) := by decide +kernel
theorem d_B_fieldOwnerFor_16 : decode b_B_fieldOwnerFor 16 = .ok (.iload_n 1, 1) := by decide +kernel
theorem d_B_fieldOwnerFor_17 : decode b_B_fieldOwnerFor 17 = .ok (.ireturn, 1) := by decide +kernel
theorem d_B_fieldOwnerFor_18 : decode b_B_fieldOwnerFor 18 = .ok (.iconst 0, 1) := by decide +kernel
theorem d_B_fieldOwnerFor_19 : decode b_B_fieldOwnerFor 19 = .ok (.istore 4, 2) := by decide +kernel
theorem d_B_fieldOwnerFor_21 : decode b_B_fieldOwnerFor 21 = .ok (.iload 4, 2) := by decide +kernel
theorem d_B_fieldOwnerFor_23 : decode b_B_fieldOwnerFor 23 = .ok (.aload_n 3, 1) := by decide +kernel
theorem d_B_fieldOwnerFor_24 : decode b_B_fieldOwnerFor 24 = .ok (.getfield 51, 3) := by decide +kernel
theorem d_B_fieldOwnerFor_27 : decode b_B_fieldOwnerFor 27 = .ok (.if_icmp .ge 47, 3) := by decide +kernel
theorem d_B_fieldOwnerFor_30 : decode b_B_fieldOwnerFor 30 = .ok (.aload_n 3, 1) := by decide +kernel
theorem d_B_fieldOwnerFor_31 : decode b_B_fieldOwnerFor 31 = .ok (.getfield 54, 3) := by decide +kernel
theorem d_B_fieldOwnerFor_34 : decode b_B_fieldOwnerFor 34 = .ok (.iload 4, 2) := by decide +kernel
theorem d_B_fieldOwnerFor_36 : decode b_B_fieldOwnerFor 36 = .ok (.iaload, 1) := by decide +kernel
theorem d_B_fieldOwnerFor_37 : decode b_B_fieldOwnerFor 37 = .ok (.istore 5, 2) := by decide +kernel
theorem d_B_fieldOwnerFor_39 : decode b_B_fieldOwnerFor 39 = .ok (.aload_n 0, 1) := by decide +kernel
theorem d_B_fieldOwnerFor_40 : decode b_B_fieldOwnerFor 40 = .ok (.iload 5, 2) := by decide +kernel
theorem d_B_fieldOwnerFor_42 : decode b_B_fieldOwnerFor 42 = .ok (.invokevirtual 57, 3) := by decide +kernel
theorem d_B_fieldOwnerFor_45 : decode b_B_fieldOwnerFor 45 = .ok (.ifCond .eq 23, 3) := by decide +kernel
theorem d_B_fieldOwnerFor_48 : decode b_B_fieldOwnerFor 48 = .ok (.aload_n 0, 1) := by decide +kernel
theorem d_B_fieldOwnerFor_49 : decode b_B_fieldOwnerFor 49 = .ok (.getfield 18, 3) := by decide +kernel
theorem d_B_fieldOwnerFor_52 : decode b_B_fieldOwnerFor 52 = .ok (.iload 5, 2) := by decide +kernel
theorem d_B_fieldOwnerFor_54 : decode b_B_fieldOwnerFor 54 = .ok (.iaload, 1) := by decide +kernel
theorem d_B_fieldOwnerFor_55 : decode b_B_fieldOwnerFor 55 = .ok (.bipush 12, 2) := by decide +kernel
theorem d_B_fieldOwnerFor_57 : decode b_B_fieldOwnerFor 57 = .ok (.if_icmp .eq 11, 3) := by decide +kernel
theorem d_B_fieldOwnerFor_60 : decode b_B_fieldOwnerFor 60 = .ok (.aload_n 0, 1) := by decide +kernel
theorem d_B_fieldOwnerFor_61 : decode b_B_fieldOwnerFor 61 = .ok (.getfield 18, 3) := by decide +kernel
theorem d_B_fieldOwnerFor_64 : decode b_B_fieldOwnerFor 64 = .ok (.iload 5, 2) := by decide +kernel
theorem d_B_fieldOwnerFor_66 : decode b_B_fieldOwnerFor 66 = .ok (.iaload, 1) := by decide +kernel
theorem d_B_fieldOwnerFor_67 : decode b_B_fieldOwnerFor 67 = .ok (.ireturn, 1) := by decide +kernel
theorem d_B_fieldOwnerFor_68 : decode b_B_fieldOwnerFor 68 = .ok (.iinc 4 1, 3) := by decide +kernel
theorem d_B_fieldOwnerFor_71 : decode b_B_fieldOwnerFor 71 = .ok (.goto (-50), 3) := by decide +kernel
theorem d_B_fieldOwnerFor_74 : decode b_B_fieldOwnerFor 74 = .ok (.aload_n 3, 1) := by decide +kernel
theorem d_B_fieldOwnerFor_75 : decode b_B_fieldOwnerFor 75 = .ok (.getfield 41, 3) := by decide +kernel
theorem d_B_fieldOwnerFor_78 : decode b_B_fieldOwnerFor 78 = .ok (.iconst (-1), 1) := by decide +kernel
theorem d_B_fieldOwnerFor_79 : decode b_B_fieldOwnerFor 79 = .ok (.if_icmp .ne 8, 3) := by decide +kernel
theorem d_B_fieldOwnerFor_82 : decode b_B_fieldOwnerFor 82 = .ok (.bipush 12, 2) := by decide +kernel
theorem d_B_fieldOwnerFor_84 : decode b_B_fieldOwnerFor 84 = .ok (.goto 12, 3) := by decide +kernel
theorem d_B_fieldOwnerFor_87 : decode b_B_fieldOwnerFor 87 = .ok (.aload_n 0, 1) := by decide +kernel
theorem d_B_fieldOwnerFor_88 : decode b_B_fieldOwnerFor 88 = .ok (.getfield 18, 3) := by decide +kernel
theorem d_B_fieldOwnerFor_91 : decode b_B_fieldOwnerFor 91 = .ok (.aload_n 3, 1) := by decide +kernel
theorem d_B_fieldOwnerFor_92 : decode b_B_fieldOwnerFor 92 = .ok (.getfield 41, 3) := by decide +kernel
theorem d_B_fieldOwnerFor_95 : decode b_B_fieldOwnerFor 95 = .ok (.iaload, 1) := by decide +kernel
theorem d_B_fieldOwnerFor_96 : decode b_B_fieldOwnerFor 96 = .ok (.ireturn, 1) := by decide +kernel
theorem d_B_whereIsMethod_0 : decode b_B_whereIsMethod 0 = .ok (.iload_n 1, 1) := by decide +kernel
theorem d_B_whereIsMethod_1 : decode b_B_whereIsMethod 1 = .ok (.istore_n 3, 1) := by decide +kernel
theorem d_B_whereIsMethod_2 : decode b_B_whereIsMethod 2 = .ok (.iconst 0, 1) := by decide +kernel
theorem d_B_whereIsMethod_3 : decode b_B_whereIsMethod 3 = .ok (.istore 4, 2) := by decide +kernel
theorem d_B_whereIsMethod_5 : decode b_B_whereIsMethod 5 = .ok (.iload 4, 2) := by decide +kernel
theorem d_B_whereIsMethod_7 : decode b_B_whereIsMethod 7 = .ok (.bipush 12, 2) := by decide +kernel
theorem d_B_whereIsMethod_9 : decode b_B_whereIsMethod 9 = .ok (.if_icmp .ge 40, 3) := by decide +kernel
theorem d_B_whereIsMethod_12 : decode b_B_whereIsMethod 12 = .ok (.iload_n 3, 1) := by decide +kernel
theorem d_B_whereIsMethod_13 : decode b_B_whereIsMethod 13 = .ok (.iconst (-1), 1) := by decide +kernel
theorem d_B_whereIsMethod_14 : decode b_B_whereIsMethod 14 = .ok (.if_icmp .eq 35, 3) := by decide +kernel
theorem d_B_whereIsMethod_17 : decode b_B_whereIsMethod 17 = .ok (.aload_n 0, 1) := by decide +kernel
theorem d_B_whereIsMethod_18 : decode b_B_whereIsMethod 18 = .ok (.getfield 11, 3) := by decide +kernel
theorem d_B_whereIsMethod_21 : decode b_B_whereIsMethod 21 = .ok (.iload_n 3, 1) := by decide +kernel
theorem d_B_whereIsMethod_22 : decode b_B_whereIsMethod 22 = .ok (.aaload, 1) := by decide +kernel
theorem d_B_whereIsMethod_23 : decode b_B_whereIsMethod 23 = .ok (.iconst 1, 1) := by decide +kernel
theorem d_B_whereIsMethod_24 : decode b_B_whereIsMethod 24 = .ok (.iload_n 2, 1) := by decide +kernel
theorem d_B_whereIsMethod_25 : decode b_B_whereIsMethod 25 = .ok (.invokevirtual 74, 3) := by decide +kernel
theorem d_B_whereIsMethod_28 : decode b_B_whereIsMethod 28 = .ok (.ifnull 5, 3) := by decide +kernel
theorem d_B_whereIsMethod_31 : decode b_B_whereIsMethod 31 = .ok (.iload_n 3, 1) := by decide +kernel
theorem d_B_whereIsMethod_32 : decode b_B_whereIsMethod 32 = .ok (.ireturn, 1) := by decide +kernel
theorem d_B_whereIsMethod_33 : decode b_B_whereIsMethod 33 = .ok (.aload_n 0, 1) := by decide +kernel
theorem d_B_whereIsMethod_34 : decode b_B_whereIsMethod 34 = .ok (.getfield 11, 3) := by decide +kernel
theorem d_B_whereIsMethod_37 : decode b_B_whereIsMethod 37 = .ok (.iload_n 3, 1) := by decide +kernel
theorem d_B_whereIsMethod_38 : decode b_B_whereIsMethod 38 = .ok (.aaload, 1) := by decide +kernel
theorem d_B_whereIsMethod_39 : decode b_B_whereIsMethod 39 = .ok (.getfield 41, 3) := by decide +kernel
theorem d_B_whereIsMethod_42 : decode b_B_whereIsMethod 42 = .ok (.istore_n 3, 1) := by decide +kernel
theorem d_B_whereIsMethod_43 : decode b_B_whereIsMethod 43 = .ok (.iinc 4 1, 3) := by decide +kernel
theorem d_B_whereIsMethod_46 : decode b_B_whereIsMethod 46 = .ok (.goto (-41), 3) := by decide +kernel
theorem d_B_whereIsMethod_49 : decode b_B_whereIsMethod 49 = .ok (.aload_n 0, 1) := by decide +kernel
theorem d_B_whereIsMethod_50 : decode b_B_whereIsMethod 50 = .ok (.aload_n 0, 1) := by decide +kernel
theorem d_B_whereIsMethod_51 : decode b_B_whereIsMethod 51 = .ok (.getfield 11, 3) := by decide +kernel
theorem d_B_whereIsMethod_54 : decode b_B_whereIsMethod 54 = .ok (.iload_n 1, 1) := by decide +kernel
theorem d_B_whereIsMethod_55 : decode b_B_whereIsMethod 55 = .ok (.aaload, 1) := by decide +kernel
theorem d_B_whereIsMethod_56 : decode b_B_whereIsMethod 56 = .ok (.getfield 48, 3) := by decide +kernel
theorem d_B_whereIsMethod_59 : decode b_B_whereIsMethod 59 = .ok (.iload_n 2, 1) := by decide +kernel
theorem d_B_whereIsMethod_60 : decode b_B_whereIsMethod 60 = .ok (.invokevirtual 84, 3) := by decide +kernel
theorem d_B_whereIsMethod_63 : decode b_B_whereIsMethod 63 = .ok (.ireturn, 1) := by decide +kernel
theorem d_B_whereIsInterfaceMethod_0 : decode b_B_whereIsInterfaceMethod 0 = .ok (.bipush 12, 2) := by decide +kernel
theorem d_B_whereIsInterfaceMethod_2 : decode b_B_whereIsInterfaceMethod 2 = .ok (.istore_n 3, 1) := by decide +kernel
theorem d_B_whereIsInterfaceMethod_3 : decode b_B_whereIsInterfaceMethod 3 = .ok (.iconst 0, 1) := by decide +kernel
theorem d_B_whereIsInterfaceMethod_4 : decode b_B_whereIsInterfaceMethod 4 = .ok (.istore 4, 2) := by decide +kernel
theorem d_B_whereIsInterfaceMethod_6 : decode b_B_whereIsInterfaceMethod 6 = .ok (.iload 4, 2) := by decide +kernel
theorem d_B_whereIsInterfaceMethod_8 : decode b_B_whereIsInterfaceMethod 8 = .ok (.bipush 12, 2) := by decide +kernel
theorem d_B_whereIsInterfaceMethod_10 : decode b_B_whereIsInterfaceMethod 10 = .ok (.if_icmp .ge 96, 3) := by decide +kernel
theorem d_B_whereIsInterfaceMethod_13 : decode b_B_whereIsInterfaceMethod 13 = .ok (.iload_n 1, 1) := by decide +kernel
theorem d_B_whereIsInterfaceMethod_14 : decode b_B_whereIsInterfaceMethod 14 = .ok (.iload 4, 2) := by decide +kernel
theorem d_B_whereIsInterfaceMethod_16 : decode b_B_whereIsInterfaceMethod 16 = .ok (.invokestatic 78, 3) := by decide +kernel
theorem d_B_whereIsInterfaceMethod_19 : decode b_B_whereIsInterfaceMethod 19 = .ok (.ifCond .eq 81, 3) := by decide +kernel
theorem d_B_whereIsInterfaceMethod_22 : decode b_B_whereIsInterfaceMethod 22 = .ok (.aload_n 0, 1) := by decide +kernel
theorem d_B_whereIsInterfaceMethod_23 : decode b_B_whereIsInterfaceMethod 23 = .ok (.getfield 11, 3) := by decide +kernel
theorem d_B_whereIsInterfaceMethod_26 : decode b_B_whereIsInterfaceMethod 26 = .ok (.iload 4, 2) := by decide +kernel
theorem d_B_whereIsInterfaceMethod_28 : decode b_B_whereIsInterfaceMethod 28 = .ok (.aaload, 1) := by decide +kernel
theorem d_B_whereIsInterfaceMethod_29 : decode b_B_whereIsInterfaceMethod 29 = .ok (.getfield 64, 3) := by decide +kernel
theorem d_B_whereIsInterfaceMethod_32 : decode b_B_whereIsInterfaceMethod 32 = .ok (.iconst 1, 1) := by decide +kernel
theorem d_B_whereIsInterfaceMethod_33 : decode b_B_whereIsInterfaceMethod 33 = .ok (.if_icmp .eq 6, 3) := by decide +kernel
theorem d_B_whereIsInterfaceMethod_36 : decode b_B_whereIsInterfaceMethod 36 = .ok (.goto 64, 3) := by decide +kernel
theorem d_B_whereIsInterfaceMethod_39 : decode b_B_whereIsInterfaceMethod 39 = .ok (.aload_n 0, 1) := by decide +kernel
theorem d_B_whereIsInterfaceMethod_40 : decode b_B_whereIsInterfaceMethod 40 = .ok (.getfield 11, 3) := by decide +kernel
theorem d_B_whereIsInterfaceMethod_43 : decode b_B_whereIsInterfaceMethod 43 = .ok (.iload 4, 2) := by decide +kernel
theorem d_B_whereIsInterfaceMethod_45 : decode b_B_whereIsInterfaceMethod 45 = .ok (.aaload, 1) := by decide +kernel
theorem d_B_whereIsInterfaceMethod_46 : decode b_B_whereIsInterfaceMethod 46 = .ok (.iconst 1, 1) := by decide +kernel
theorem d_B_whereIsInterfaceMethod_47 : decode b_B_whereIsInterfaceMethod 47 = .ok (.iload_n 2, 1) := by decide +kernel
theorem d_B_whereIsInterfaceMethod_48 : decode b_B_whereIsInterfaceMethod 48 = .ok (.invokevirtual 74, 3) := by decide +kernel
theorem d_B_whereIsInterfaceMethod_51 : decode b_B_whereIsInterfaceMethod 51 = .ok (.astore 5, 2) := by decide +kernel
theorem d_B_whereIsInterfaceMethod_53 : decode b_B_whereIsInterfaceMethod 53 = .ok (.aload 5, 2) := by decide +kernel
theorem d_B_whereIsInterfaceMethod_55 : decode b_B_whereIsInterfaceMethod 55 = .ok (.ifnull 45, 3) := by decide +kernel
theorem d_B_whereIsInterfaceMethod_58 : decode b_B_whereIsInterfaceMethod 58 = .ok (.aload 5, 2) := by decide +kernel
theorem d_B_whereIsInterfaceMethod_60 : decode b_B_whereIsInterfaceMethod 60 = .ok (.iconst 4, 1) := by decide +kernel
theorem d_B_whereIsInterfaceMethod_61 : decode b_B_whereIsInterfaceMethod 61 = .ok (.invokevirtual 87, 3) := by decide +kernel
theorem d_B_whereIsInterfaceMethod_64 : decode b_B_whereIsInterfaceMethod 64 = .ok (.ifCond .ne 36, 3) := by decide +kernel
theorem d_B_whereIsInterfaceMethod_67 : decode b_B_whereIsInterfaceMethod 67 = .ok (.aload 5, 2) := by decide +kernel
theorem d_B_whereIsInterfaceMethod_69 : decode b_B_whereIsInterfaceMethod 69 = .ok (.invokevirtual 92, 3) := by decide +kernel
theorem d_B_whereIsInterfaceMethod_72 : decode b_B_whereIsInterfaceMethod 72 = .ok (.ifCond .ne 6, 3) := by decide +kernel
theorem d_B_whereIsInterfaceMethod_75 : decode b_B_whereIsInterfaceMethod 75 = .ok (.goto 25, 3) := by decide +kernel
theorem d_B_whereIsInterfaceMethod_78 : decode b_B_whereIsInterfaceMethod 78 = .ok (.aload 5, 2) := by decide +kernel
theorem d_B_whereIsInterfaceMethod_80 : decode b_B_whereIsInterfaceMethod 80 = .ok (.bipush 16, 2) := by decide +kernel
theorem d_B_whereIsInterfaceMethod_82 : decode b_B_whereIsInterfaceMethod 82 = .ok (.invokevirtual 87, 3) := by decide +kernel
theorem d_B_whereIsInterfaceMethod_85 : decode b_B_whereIsInterfaceMethod 85 = .ok (.ifCond .ne 6, 3) := by decide +kernel
theorem d_B_whereIsInterfaceMethod_88 : decode b_B_whereIsInterfaceMethod 88 = .ok (.iload 4, 2) := by decide +kernel
theorem d_B_whereIsInterfaceMethod_90 : decode b_B_whereIsInterfaceMethod 90 = .ok (.ireturn, 1) := by decide +kernel
theorem d_B_whereIsInterfaceMethod_91 : decode b_B_whereIsInterfaceMethod 91 = .ok (.iload_n 3, 1) := by decide +kernel
theorem d_B_whereIsInterfaceMethod_92 : decode b_B_whereIsInterfaceMethod 92 = .ok (.bipush 12, 2) := by decide +kernel
theorem d_B_whereIsInterfaceMethod_94 : decode b_B_whereIsInterfaceMethod 94 = .ok (.if_icmp .ne 6, 3) := by decide +kernel
theorem d_B_whereIsInterfaceMethod_97 : decode b_B_whereIsInterfaceMethod 97 = .ok (.iload 4, 2) := by decide +kernel
theorem d_B_whereIsInterfaceMethod_99 : decode b_B_whereIsInterfaceMethod 99 = .ok (.istore_n 3, 1) := by decide +kernel
theorem d_B_whereIsInterfaceMethod_100 : decode b_B_whereIsInterfaceMethod 100 = .ok (.iinc 4 1, 3) := by decide +kernel
theorem d_B_whereIsInterfaceMethod_103 : decode b_B_whereIsInterfaceMethod 103 = .ok (.goto (-97), 3) := by decide +kernel
theorem d_B_whereIsInterfaceMethod_106 : decode b_B_whereIsInterfaceMethod 106 = .ok (.iload_n 3, 1) := by decide +kernel
theorem d_B_whereIsInterfaceMethod_107 : decode b_B_whereIsInterfaceMethod 107 = .ok (.ireturn, 1) := by decide +kernel
theorem d_C_init_0 : decode b_C_init 0 = .ok (.aload_n 0, 1) := by decide +kernel
theorem d_C_init_1 : decode b_C_init 1 = .ok (.invokespecial 3, 3) := by decide +kernel
theorem d_C_init_4 : decode b_C_init 4 = .ok (.aload_n 0, 1) := by decide +kernel
theorem d_C_init_5 : decode b_C_init 5 = .ok (.sipush 636, 3) := by decide +kernel
theorem d_C_init_8 : decode b_C_init 8 = .ok (.newarray .int, 2) := by decide +kernel
theorem d_C_init_10 : decode b_C_init 10 = .ok (.putfield 9, 3) := by decide +kernel
theorem d_C_init_13 : decode b_C_init 13 = .ok (.aload_n 0, 1) := by decide +kernel
theorem d_C_init_14 : decode b_C_init 14 = .ok (.sipush 636, 3) := by decide +kernel
theorem d_C_init_17 : decode b_C_init 17 = .ok (.newarray .int, 2) := by decide +kernel
theorem d_C_init_19 : decode b_C_init 19 = .ok (.putfield 15, 3) := by decide +kernel
theorem d_C_init_22 : decode b_C_init 22 = .ok (.aload_n 0, 1) := by decide +kernel
theorem d_C_init_23 : decode b_C_init 23 = .ok (.sipush 636, 3) := by decide +kernel
theorem d_C_init_26 : decode b_C_init 26 = .ok (.newarray .int, 2) := by decide +kernel
theorem d_C_init_28 : decode b_C_init 28 = .ok (.putfield 18, 3) := by decide +kernel
theorem d_C_init_31 : decode b_C_init 31 = .ok (.aload_n 0, 1) := by decide +kernel
theorem d_C_init_32 : decode b_C_init 32 = .ok (.bipush 8, 2) := by decide +kernel
theorem d_C_init_34 : decode b_C_init 34 = .ok (.anewarray 21, 3) := by decide +kernel
theorem d_C_init_37 : decode b_C_init 37 = .ok (.putfield 23, 3) := by decide +kernel
theorem d_C_init_40 : decode b_C_init 40 = .ok (.return_, 1) := by decide +kernel
theorem d_C_bringUpToDate_0 : decode b_C_bringUpToDate 0 = .ok (.aload_n 0, 1) := by decide +kernel
theorem d_C_bringUpToDate_1 : decode b_C_bringUpToDate 1 = .ok (.getfield 27, 3) := by decide +kernel
theorem d_C_bringUpToDate_4 : decode b_C_bringUpToDate 4 = .ok (.ifCond .ne 4, 3) := by decide +kernel
theorem d_C_bringUpToDate_7 : decode b_C_bringUpToDate 7 = .ok (.return_, 1) := by decide +kernel
theorem d_C_bringUpToDate_8 : decode b_C_bringUpToDate 8 = .ok (.aload_n 0, 1) := by decide +kernel
theorem d_C_bringUpToDate_9 : decode b_C_bringUpToDate 9 = .ok (.iconst 0, 1) := by decide +kernel
theorem d_C_bringUpToDate_10 : decode b_C_bringUpToDate 10 = .ok (.putfield 27, 3) := by decide +kernel
theorem d_C_bringUpToDate_13 : decode b_C_bringUpToDate 13 = .ok (.aload_n 0, 1) := by decide +kernel
theorem d_C_bringUpToDate_14 : decode b_C_bringUpToDate 14 = .ok (.iconst 0, 1) := by decide +kernel
theorem d_C_bringUpToDate_15 : decode b_C_bringUpToDate 15 = .ok (.putfield 31, 3) := by decide +kernel
theorem d_C_bringUpToDate_18 : decode b_C_bringUpToDate 18 = .ok (.iconst 0, 1) := by decide +kernel
theorem d_C_bringUpToDate_19 : decode b_C_bringUpToDate 19 = .ok (.istore_n 3, 1) := by decide +kernel
theorem d_C_bringUpToDate_20 : decode b_C_bringUpToDate 20 = .ok (.iload_n 3, 1) := by decide +kernel
theorem d_C_bringUpToDate_21 : decode b_C_bringUpToDate 21 = .ok (.bipush 12, 2) := by decide +kernel
theorem d_C_bringUpToDate_23 : decode b_C_bringUpToDate 23 = .ok (.if_icmp .ge 28, 3) := by decide +kernel
theorem d_C_bringUpToDate_26 : decode b_C_bringUpToDate 26 = .ok (.aload_n 1, 1) := by decide +kernel
theorem d_C_bringUpToDate_27 : decode b_C_bringUpToDate 27 = .ok (.getfield 35, 3) := by decide +kernel
theorem d_C_bringUpToDate_30 : decode b_C_bringUpToDate 30 = .ok (.iload_n 3, 1) := by decide +kernel
theorem d_C_bringUpToDate_31 : decode b_C_bringUpToDate 31 = .ok (.aaload, 1) := by decide +kernel
theorem d_C_bringUpToDate_32 : decode b_C_bringUpToDate 32 = .ok (.invokevirtual 40, 3) := by decide +kernel
theorem d_C_bringUpToDate_35 : decode b_C_bringUpToDate 35 = .ok (.ifCond .eq 10, 3) := by decide +kernel
theorem d_C_bringUpToDate_38 : decode b_C_bringUpToDate 38 = .ok (.aload_n 0, 1) := by decide +kernel
theorem d_C_bringUpToDate_39 : decode b_C_bringUpToDate 39 = .ok (.aload_n 1, 1) := by decide +kernel
theorem d_C_bringUpToDate_40 : decode b_C_bringUpToDate 40 = .ok (.aload_n 2, 1) := by decide +kernel
theorem d_C_bringUpToDate_41 : decode b_C_bringUpToDate 41 = .ok (.iload_n 3, 1) := by decide +kernel
theorem d_C_bringUpToDate_42 : decode b_C_bringUpToDate 42 = .ok (.invokevirtual 46, 3) := by decide +kernel
theorem d_C_bringUpToDate_45 : decode b_C_bringUpToDate 45 = .ok (.iinc 3 1, 3) := by decide +kernel
theorem d_C_bringUpToDate_48 : decode b_C_bringUpToDate 48 = .ok (.goto (-28), 3) := by decide +kernel
theorem d_C_bringUpToDate_51 : decode b_C_bringUpToDate 51 = .ok (.return_, 1) := by decide +kernel
theorem d_C_add_0 : decode b_C_add 0 = .ok (.aload_n 0, 1) := by decide +kernel
theorem d_C_add_1 : decode b_C_add 1 = .ok (.getfield 31, 3) := by decide +kernel
theorem d_C_add_4 : decode b_C_add 4 = .ok (.sipush 636, 3) := by decide +kernel
theorem d_C_add_7 : decode b_C_add 7 = .ok (.if_icmp .ge 43, 3) := by decide +kernel
theorem d_C_add_10 : decode b_C_add 10 = .ok (.aload_n 0, 1) := by decide +kernel
theorem d_C_add_11 : decode b_C_add 11 = .ok (.getfield 9, 3) := by decide +kernel
theorem d_C_add_14 : decode b_C_add 14 = .ok (.aload_n 0, 1) := by decide +kernel
theorem d_C_add_15 : decode b_C_add 15 = .ok (.getfield 31, 3) := by decide +kernel
theorem d_C_add_18 : decode b_C_add 18 = .ok (.iload_n 1, 1) := by decide +kernel
theorem d_C_add_19 : decode b_C_add 19 = .ok (.iastore, 1) := by decide +kernel
theorem d_C_add_20 : decode b_C_add 20 = .ok (.aload_n 0, 1) := by decide +kernel
theorem d_C_add_21 : decode b_C_add 21 = .ok (.getfield 15, 3) := by decide +kernel
theorem d_C_add_24 : decode b_C_add 24 = .ok (.aload_n 0, 1) := by decide +kernel
theorem d_C_add_25 : decode b_C_add 25 = .ok (.getfield 31, 3) := by decide +kernel
theorem d_C_add_28 : decode b_C_add 28 = .ok (.iload_n 2, 1) := by decide +kernel
theorem d_C_add_29 : decode b_C_add 29 = .ok (.iastore, 1) := by decide +kernel
theorem d_C_add_30 : decode b_C_add 30 = .ok (.aload_n 0, 1) := by decide +kernel
theorem d_C_add_31 : decode b_C_add 31 = .ok (.getfield 18, 3) := by decide +kernel
theorem d_C_add_34 : decode b_C_add 34 = .ok (.aload_n 0, 1) := by decide +kernel
theorem d_C_add_35 : decode b_C_add 35 = .ok (.getfield 31, 3) := by decide +kernel
theorem d_C_add_38 : decode b_C_add 38 = .ok (.iload_n 3, 1) := by decide +kernel
theorem d_C_add_39 : decode b_C_add 39 = .ok (.iastore, 1) := by decide +kernel
theorem d_C_add_40 : decode b_C_add 40 = .ok (.aload_n 0, 1) := by decide +kernel
theorem d_C_add_41 : decode b_C_add 41 = .ok (.dup, 1) := by decide +kernel
theorem d_C_add_42 : decode b_C_add 42 = .ok (.getfield 31, 3) := by decide +kernel
theorem d_C_add_45 : decode b_C_add 45 = .ok (.iconst 1, 1) := by decide +kernel
theorem d_C_add_46 : decode b_C_add 46 = .ok (.iadd, 1) := by decide +kernel
theorem d_C_add_47 : decode b_C_add 47 = .ok (.putfield 31, 3) := by decide +kernel
theorem d_C_add_50 : decode b_C_add 50 = .ok (.return_, 1) := by decide +kernel
theorem d_C_judgeType_0 : decode b_C_judgeType 0 = .ok (.aload_n 1, 1) := by decide +kernel
theorem d_C_judgeType_1 : decode b_C_judgeType 1 = .ok (.getfield 35, 3) := by decide +kernel
theorem d_C_judgeType_4 : decode b_C_judgeType 4 = .ok (.iload_n 3, 1) := by decide +kernel
theorem d_C_judgeType_5 : decode b_C_judgeType 5 = .ok (.aaload, 1) := by decide +kernel
theorem d_C_judgeType_6 : decode b_C_judgeType 6 = .ok (.astore 4, 2) := by decide +kernel
theorem d_C_judgeType_8 : decode b_C_judgeType 8 = .ok (.aload_n 2, 1) := by decide +kernel
theorem d_C_judgeType_9 : decode b_C_judgeType 9 = .ok (.getfield 35, 3) := by decide +kernel
theorem d_C_judgeType_12 : decode b_C_judgeType 12 = .ok (.iload_n 3, 1) := by decide +kernel
theorem d_C_judgeType_13 : decode b_C_judgeType 13 = .ok (.aaload, 1) := by decide +kernel
theorem d_C_judgeType_14 : decode b_C_judgeType 14 = .ok (.astore 5, 2) := by decide +kernel
theorem d_C_judgeType_16 : decode b_C_judgeType 16 = .ok (.aload 5, 2) := by decide +kernel
theorem d_C_judgeType_18 : decode b_C_judgeType 18 = .ok (.invokevirtual 40, 3) := by decide +kernel
theorem d_C_judgeType_21 : decode b_C_judgeType 21 = .ok (.ifCond .ne 13, 3) := by decide +kernel
theorem d_C_judgeType_24 : decode b_C_judgeType 24 = .ok (.aload_n 0, 1) := by decide +kernel
theorem d_C_judgeType_25 : decode b_C_judgeType 25 = .ok (.iconst 0, 1) := by decide +kernel
theorem d_C_judgeType_26 : decode b_C_judgeType 26 = .ok (.iload_n 3, 1) := by decide +kernel
theorem d_C_judgeType_27 : decode b_C_judgeType 27 = .ok (.iconst (-1), 1) := by decide +kernel
theorem d_C_judgeType_28 : decode b_C_judgeType 28 = .ok (.invokevirtual 50, 3) := by decide +kernel
theorem d_C_judgeType_31 : decode b_C_judgeType 31 = .ok (.goto 67, 3) := by decide +kernel
theorem d_C_judgeType_34 : decode b_C_judgeType 34 = .ok (.aload 5, 2) := by decide +kernel
theorem d_C_judgeType_36 : decode b_C_judgeType 36 = .ok (.getfield 54, 3) := by decide +kernel
theorem d_C_judgeType_39 : decode b_C_judgeType 39 = .ok (.aload 4, 2) := by decide +kernel
theorem d_C_judgeType_41 : decode b_C_judgeType 41 = .ok (.getfield 54, 3) := by decide +kernel
theorem d_C_judgeType_44 : decode b_C_judgeType 44 = .ok (.if_icmp .eq 13, 3) := by decide +kernel
theorem d_C_judgeType_47 : decode b_C_judgeType 47 = .ok (.aload_n 0, 1) := by decide +kernel
theorem d_C_judgeType_48 : decode b_C_judgeType 48 = .ok (.iconst 1, 1) := by decide +kernel
theorem d_C_judgeType_49 : decode b_C_judgeType 49 = .ok (.iload_n 3, 1) := by decide +kernel
theorem d_C_judgeType_50 : decode b_C_judgeType 50 = .ok (.iconst (-1), 1) := by decide +kernel
theorem d_C_judgeType_51 : decode b_C_judgeType 51 = .ok (.invokevirtual 50, 3) := by decide +kernel
theorem d_C_judgeType_54 : decode b_C_judgeType 54 = .ok (.goto 44, 3) := by decide +kernel
theorem d_C_judgeType_57 : decode b_C_judgeType 57 = .ok (.aload_n 0, 1) := by decide +kernel
theorem d_C_judgeType_58 : decode b_C_judgeType 58 = .ok (.aload 4, 2) := by decide +kernel
theorem d_C_judgeType_60 : decode b_C_judgeType 60 = .ok (.aload 5, 2) := by decide +kernel
theorem d_C_judgeType_62 : decode b_C_judgeType 62 = .ok (.iload_n 3, 1) := by decide +kernel
theorem d_C_judgeType_63 : decode b_C_judgeType 63 = .ok (.invokevirtual 57, 3) := by decide +kernel
theorem d_C_judgeType_66 : decode b_C_judgeType 66 = .ok (.aload_n 0, 1) := by decide +kernel
theorem d_C_judgeType_67 : decode b_C_judgeType 67 = .ok (.aload 4, 2) := by decide +kernel
theorem d_C_judgeType_69 : decode b_C_judgeType 69 = .ok (.aload_n 2, 1) := by decide +kernel
theorem d_C_judgeType_70 : decode b_C_judgeType 70 = .ok (.iload_n 3, 1) := by decide +kernel
theorem d_C_judgeType_71 : decode b_C_judgeType 71 = .ok (.invokevirtual 61, 3) := by decide +kernel
theorem d_C_judgeType_74 : decode b_C_judgeType 74 = .ok (.aload_n 0, 1) := by decide +kernel
theorem d_C_judgeType_75 : decode b_C_judgeType 75 = .ok (.aload 4, 2) := by decide +kernel
theorem d_C_judgeType_77 : decode b_C_judgeType 77 = .ok (.iload_n 3, 1) := by decide +kernel
theorem d_C_judgeType_78 : decode b_C_judgeType 78 = .ok (.invokevirtual 65, 3) := by decide +kernel
theorem d_C_judgeType_81 : decode b_C_judgeType 81 = .ok (.aload_n 0, 1) := by decide +kernel
theorem d_C_judgeType_82 : decode b_C_judgeType 82 = .ok (.aload 5, 2) := by decide +kernel
theorem d_C_judgeType_84 : decode b_C_judgeType 84 = .ok (.aload_n 1, 1) := by decide +kernel
theorem d_C_judgeType_85 : decode b_C_judgeType 85 = .ok (.iload_n 3, 1) := by decide +kernel
theorem d_C_judgeType_86 : decode b_C_judgeType 86 = .ok (.invokevirtual 61, 3) := by decide +kernel
