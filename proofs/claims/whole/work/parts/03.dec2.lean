theorem dX10_end_14 : decode cX10_end 14 = .ok (.iconst (-1), 1) := by decide +kernel
theorem dX10_end_15 : decode cX10_end 15 = .ok (.ireturn, 1) := by decide +kernel
theorem dX10_end_16 : decode cX10_end 16 = .ok (.aload_n 0, 1) := by decide +kernel
theorem dX10_end_17 : decode cX10_end 17 = .ok (.iload_n 1, 1) := by decide +kernel
theorem dX10_end_18 : decode cX10_end 18 = .ok (.putfield 97, 3) := by decide +kernel
theorem dX10_end_21 : decode cX10_end 21 = .ok (.iload_n 1, 1) := by decide +kernel
theorem dX10_end_22 : decode cX10_end 22 = .ok (.ireturn, 1) := by decide +kernel
theorem dX10_see_0 : decode cX10_see 0 = .ok (.iload_n 1, 1) := by decide +kernel
theorem dX10_see_1 : decode cX10_see 1 = .ok (.aload_n 0, 1) := by decide +kernel
theorem dX10_see_2 : decode cX10_see 2 = .ok (.getfield 100, 3) := by decide +kernel
theorem dX10_see_5 : decode cX10_see 5 = .ok (.if_icmp .ge 16, 3) := by decide +kernel
theorem dX10_see_8 : decode cX10_see 8 = .ok (.aload_n 0, 1) := by decide +kernel
theorem dX10_see_9 : decode cX10_see 9 = .ok (.getfield 20, 3) := by decide +kernel
theorem dX10_see_12 : decode cX10_see 12 = .ok (.iload_n 1, 1) := by decide +kernel
theorem dX10_see_13 : decode cX10_see 13 = .ok (.baload, 1) := by decide +kernel
theorem dX10_see_14 : decode cX10_see 14 = .ok (.sipush 255, 3) := by decide +kernel
theorem dX10_see_17 : decode cX10_see 17 = .ok (.iand, 1) := by decide +kernel
theorem dX10_see_18 : decode cX10_see 18 = .ok (.goto 4, 3) := by decide +kernel
theorem dX10_see_21 : decode cX10_see 21 = .ok (.iconst (-1), 1) := by decide +kernel
theorem dX10_see_22 : decode cX10_see 22 = .ok (.ireturn, 1) := by decide +kernel
theorem dX10_advance_0 : decode cX10_advance 0 = .ok (.aload_n 0, 1) := by decide +kernel
theorem dX10_advance_1 : decode cX10_advance 1 = .ok (.aload_n 0, 1) := by decide +kernel
theorem dX10_advance_2 : decode cX10_advance 2 = .ok (.getfield 103, 3) := by decide +kernel
theorem dX10_advance_5 : decode cX10_advance 5 = .ok (.invokevirtual 106, 3) := by decide +kernel
theorem dX10_advance_8 : decode cX10_advance 8 = .ok (.bipush 32, 2) := by decide +kernel
theorem dX10_advance_10 : decode cX10_advance 10 = .ok (.if_icmp .eq 16, 3) := by decide +kernel
theorem dX10_advance_13 : decode cX10_advance 13 = .ok (.aload_n 0, 1) := by decide +kernel
theorem dX10_advance_14 : decode cX10_advance 14 = .ok (.aload_n 0, 1) := by decide +kernel
theorem dX10_advance_15 : decode cX10_advance 15 = .ok (.getfield 103, 3) := by decide +kernel
theorem dX10_advance_18 : decode cX10_advance 18 = .ok (.invokevirtual 106, 3) := by decide +kernel
theorem dX10_advance_21 : decode cX10_advance 21 = .ok (.bipush 10, 2) := by decide +kernel
theorem dX10_advance_23 : decode cX10_advance 23 = .ok (.if_icmp .ne 16, 3) := by decide +kernel
theorem dX10_advance_26 : decode cX10_advance 26 = .ok (.aload_n 0, 1) := by decide +kernel
theorem dX10_advance_27 : decode cX10_advance 27 = .ok (.dup, 1) := by decide +kernel
theorem dX10_advance_28 : decode cX10_advance 28 = .ok (.getfield 103, 3) := by decide +kernel
theorem dX10_advance_31 : decode cX10_advance 31 = .ok (.iconst 1, 1) := by decide +kernel
theorem dX10_advance_32 : decode cX10_advance 32 = .ok (.iadd, 1) := by decide +kernel
theorem dX10_advance_33 : decode cX10_advance 33 = .ok (.putfield 103, 3) := by decide +kernel
theorem dX10_advance_36 : decode cX10_advance 36 = .ok (.goto (-36), 3) := by decide +kernel
theorem dX10_advance_39 : decode cX10_advance 39 = .ok (.aload_n 0, 1) := by decide +kernel
theorem dX10_advance_40 : decode cX10_advance 40 = .ok (.aload_n 0, 1) := by decide +kernel
theorem dX10_advance_41 : decode cX10_advance 41 = .ok (.getfield 103, 3) := by decide +kernel
theorem dX10_advance_44 : decode cX10_advance 44 = .ok (.putfield 110, 3) := by decide +kernel
theorem dX10_advance_47 : decode cX10_advance 47 = .ok (.aload_n 0, 1) := by decide +kernel
theorem dX10_advance_48 : decode cX10_advance 48 = .ok (.aload_n 0, 1) := by decide +kernel
theorem dX10_advance_49 : decode cX10_advance 49 = .ok (.getfield 103, 3) := by decide +kernel
theorem dX10_advance_52 : decode cX10_advance 52 = .ok (.invokevirtual 106, 3) := by decide +kernel
theorem dX10_advance_55 : decode cX10_advance 55 = .ok (.istore_n 1, 1) := by decide +kernel
theorem dX10_advance_56 : decode cX10_advance 56 = .ok (.iload_n 1, 1) := by decide +kernel
theorem dX10_advance_57 : decode cX10_advance 57 = .ok (.iconst (-1), 1) := by decide +kernel
theorem dX10_advance_58 : decode cX10_advance 58 = .ok (.if_icmp .ne 11, 3) := by decide +kernel
theorem dX10_advance_61 : decode cX10_advance 61 = .ok (.aload_n 0, 1) := by decide +kernel
theorem dX10_advance_62 : decode cX10_advance 62 = .ok (.iconst 0, 1) := by decide +kernel
theorem dX10_advance_63 : decode cX10_advance 63 = .ok (.putfield 113, 3) := by decide +kernel
theorem dX10_advance_66 : decode cX10_advance 66 = .ok (.goto 173, 3) := by decide +kernel
theorem dX10_advance_69 : decode cX10_advance 69 = .ok (.iload_n 1, 1) := by decide +kernel
theorem dX10_advance_70 : decode cX10_advance 70 = .ok (.i2l, 1) := by decide +kernel
theorem dX10_advance_71 : decode cX10_advance 71 = .ok (.ldc2_w 116, 3) := by decide +kernel
theorem dX10_advance_74 : decode cX10_advance 74 = .ok (.ldc2_w 118, 3) := by decide +kernel
theorem dX10_advance_77 : decode cX10_advance 77 = .ok (.invokestatic 85, 3) := by decide +kernel
theorem dX10_advance_80 : decode cX10_advance 80 = .ok (.ifCond .eq 45, 3) := by decide +kernel
theorem dX10_advance_83 : decode cX10_advance 83 = .ok (.aload_n 0, 1) := by decide +kernel
theorem dX10_advance_84 : decode cX10_advance 84 = .ok (.aload_n 0, 1) := by decide +kernel
theorem dX10_advance_85 : decode cX10_advance 85 = .ok (.getfield 103, 3) := by decide +kernel
theorem dX10_advance_88 : decode cX10_advance 88 = .ok (.invokevirtual 106, 3) := by decide +kernel
theorem dX10_advance_91 : decode cX10_advance 91 = .ok (.i2l, 1) := by decide +kernel
theorem dX10_advance_92 : decode cX10_advance 92 = .ok (.ldc2_w 116, 3) := by decide +kernel
theorem dX10_advance_95 : decode cX10_advance 95 = .ok (.ldc2_w 118, 3) := by decide +kernel
theorem dX10_advance_98 : decode cX10_advance 98 = .ok (.invokestatic 85, 3) := by decide +kernel
theorem dX10_advance_101 : decode cX10_advance 101 = .ok (.ifCond .eq 16, 3) := by decide +kernel
theorem dX10_advance_104 : decode cX10_advance 104 = .ok (.aload_n 0, 1) := by decide +kernel
theorem dX10_advance_105 : decode cX10_advance 105 = .ok (.dup, 1) := by decide +kernel
theorem dX10_advance_106 : decode cX10_advance 106 = .ok (.getfield 103, 3) := by decide +kernel
theorem dX10_advance_109 : decode cX10_advance 109 = .ok (.iconst 1, 1) := by decide +kernel
theorem dX10_advance_110 : decode cX10_advance 110 = .ok (.iadd, 1) := by decide +kernel
theorem dX10_advance_111 : decode cX10_advance 111 = .ok (.putfield 103, 3) := by decide +kernel
theorem dX10_advance_114 : decode cX10_advance 114 = .ok (.goto (-31), 3) := by decide +kernel
theorem dX10_advance_117 : decode cX10_advance 117 = .ok (.aload_n 0, 1) := by decide +kernel
theorem dX10_advance_118 : decode cX10_advance 118 = .ok (.iconst 1, 1) := by decide +kernel
theorem dX10_advance_119 : decode cX10_advance 119 = .ok (.putfield 113, 3) := by decide +kernel
theorem dX10_advance_122 : decode cX10_advance 122 = .ok (.goto 117, 3) := by decide +kernel
theorem dX10_advance_125 : decode cX10_advance 125 = .ok (.iload_n 1, 1) := by decide +kernel
theorem dX10_advance_126 : decode cX10_advance 126 = .ok (.i2l, 1) := by decide +kernel
theorem dX10_advance_127 : decode cX10_advance 127 = .ok (.ldc2_w 120, 3) := by decide +kernel
theorem dX10_advance_130 : decode cX10_advance 130 = .ok (.ldc2_w 122, 3) := by decide +kernel
theorem dX10_advance_133 : decode cX10_advance 133 = .ok (.invokestatic 85, 3) := by decide +kernel
theorem dX10_advance_136 : decode cX10_advance 136 = .ok (.ifCond .eq 78, 3) := by decide +kernel
theorem dX10_advance_139 : decode cX10_advance 139 = .ok (.aload_n 0, 1) := by decide +kernel
theorem dX10_advance_140 : decode cX10_advance 140 = .ok (.iconst 0, 1) := by decide +kernel
theorem dX10_advance_141 : decode cX10_advance 141 = .ok (.putfield 124, 3) := by decide +kernel
theorem dX10_advance_144 : decode cX10_advance 144 = .ok (.aload_n 0, 1) := by decide +kernel
theorem dX10_advance_145 : decode cX10_advance 145 = .ok (.aload_n 0, 1) := by decide +kernel
theorem dX10_advance_146 : decode cX10_advance 146 = .ok (.getfield 103, 3) := by decide +kernel
theorem dX10_advance_149 : decode cX10_advance 149 = .ok (.invokevirtual 106, 3) := by decide +kernel
theorem dX10_advance_152 : decode cX10_advance 152 = .ok (.i2l, 1) := by decide +kernel
theorem dX10_advance_153 : decode cX10_advance 153 = .ok (.ldc2_w 120, 3) := by decide +kernel
theorem dX10_advance_156 : decode cX10_advance 156 = .ok (.ldc2_w 122, 3) := by decide +kernel
theorem dX10_advance_159 : decode cX10_advance 159 = .ok (.invokestatic 85, 3) := by decide +kernel
theorem dX10_advance_162 : decode cX10_advance 162 = .ok (.ifCond .eq 44, 3) := by decide +kernel
theorem dX10_advance_165 : decode cX10_advance 165 = .ok (.aload_n 0, 1) := by decide +kernel
theorem dX10_advance_166 : decode cX10_advance 166 = .ok (.ldc 127, 2) := by decide +kernel
theorem dX10_advance_168 : decode cX10_advance 168 = .ok (.bipush 10, 2) := by decide +kernel
theorem dX10_advance_170 : decode cX10_advance 170 = .ok (.aload_n 0, 1) := by decide +kernel
theorem dX10_advance_171 : decode cX10_advance 171 = .ok (.getfield 124, 3) := by decide +kernel
theorem dX10_advance_174 : decode cX10_advance 174 = .ok (.imul, 1) := by decide +kernel
theorem dX10_advance_175 : decode cX10_advance 175 = .ok (.aload_n 0, 1) := by decide +kernel
theorem dX10_advance_176 : decode cX10_advance 176 = .ok (.aload_n 0, 1) := by decide +kernel
theorem dX10_advance_177 : decode cX10_advance 177 = .ok (.getfield 103, 3) := by decide +kernel
theorem dX10_advance_180 : decode cX10_advance 180 = .ok (.invokevirtual 106, 3) := by decide +kernel
theorem dX10_advance_183 : decode cX10_advance 183 = .ok (.iadd, 1) := by decide +kernel
theorem dX10_advance_184 : decode cX10_advance 184 = .ok (.bipush 48, 2) := by decide +kernel
theorem dX10_advance_186 : decode cX10_advance 186 = .ok (.isub, 1) := by decide +kernel
theorem dX10_advance_187 : decode cX10_advance 187 = .ok (.invokestatic 128, 3) := by decide +kernel
theorem dX10_advance_190 : decode cX10_advance 190 = .ok (.putfield 124, 3) := by decide +kernel
theorem dX10_advance_193 : decode cX10_advance 193 = .ok (.aload_n 0, 1) := by decide +kernel
theorem dX10_advance_194 : decode cX10_advance 194 = .ok (.dup, 1) := by decide +kernel
theorem dX10_advance_195 : decode cX10_advance 195 = .ok (.getfield 103, 3) := by decide +kernel
theorem dX10_advance_198 : decode cX10_advance 198 = .ok (.iconst 1, 1) := by decide +kernel
theorem dX10_advance_199 : decode cX10_advance 199 = .ok (.iadd, 1) := by decide +kernel
theorem dX10_advance_200 : decode cX10_advance 200 = .ok (.putfield 103, 3) := by decide +kernel
theorem dX10_advance_203 : decode cX10_advance 203 = .ok (.goto (-59), 3) := by decide +kernel
theorem dX10_advance_206 : decode cX10_advance 206 = .ok (.aload_n 0, 1) := by decide +kernel
theorem dX10_advance_207 : decode cX10_advance 207 = .ok (.iconst 2, 1) := by decide +kernel
theorem dX10_advance_208 : decode cX10_advance 208 = .ok (.putfield 113, 3) := by decide +kernel
theorem dX10_advance_211 : decode cX10_advance 211 = .ok (.goto 28, 3) := by decide +kernel
theorem dX10_advance_214 : decode cX10_advance 214 = .ok (.aload_n 0, 1) := by decide +kernel
theorem dX10_advance_215 : decode cX10_advance 215 = .ok (.iload_n 1, 1) := by decide +kernel
theorem dX10_advance_216 : decode cX10_advance 216 = .ok (.bipush 59, 2) := by decide +kernel
theorem dX10_advance_218 : decode cX10_advance 218 = .ok (.if_icmp .ne 7, 3) := by decide +kernel
theorem dX10_advance_221 : decode cX10_advance 221 = .ok (.iconst 3, 1) := by decide +kernel
theorem dX10_advance_222 : decode cX10_advance 222 = .ok (.goto 4, 3) := by decide +kernel
theorem dX10_advance_225 : decode cX10_advance 225 = .ok (.iconst 4, 1) := by decide +kernel
theorem dX10_advance_226 : decode cX10_advance 226 = .ok (.putfield 113, 3) := by decide +kernel
theorem dX10_advance_229 : decode cX10_advance 229 = .ok (.aload_n 0, 1) := by decide +kernel
theorem dX10_advance_230 : decode cX10_advance 230 = .ok (.dup, 1) := by decide +kernel
theorem dX10_advance_231 : decode cX10_advance 231 = .ok (.getfield 103, 3) := by decide +kernel
theorem dX10_advance_234 : decode cX10_advance 234 = .ok (.iconst 1, 1) := by decide +kernel
theorem dX10_advance_235 : decode cX10_advance 235 = .ok (.iadd, 1) := by decide +kernel
theorem dX10_advance_236 : decode cX10_advance 236 = .ok (.putfield 103, 3) := by decide +kernel
theorem dX10_advance_239 : decode cX10_advance 239 = .ok (.return_, 1) := by decide +kernel
theorem dX10_good_0 : decode cX10_good 0 = .ok (.aload_n 0, 1) := by decide +kernel
theorem dX10_good_1 : decode cX10_good 1 = .ok (.getfield 134, 3) := by decide +kernel
theorem dX10_good_4 : decode cX10_good 4 = .ok (.ifCond .ne 7, 3) := by decide +kernel
theorem dX10_good_7 : decode cX10_good 7 = .ok (.iconst 1, 1) := by decide +kernel
theorem dX10_good_8 : decode cX10_good 8 = .ok (.goto 4, 3) := by decide +kernel
theorem dX10_good_11 : decode cX10_good 11 = .ok (.iconst 0, 1) := by decide +kernel
theorem dX10_good_12 : decode cX10_good 12 = .ok (.ireturn, 1) := by decide +kernel
theorem dX10_errs_0 : decode cX10_errs 0 = .ok (.aload_n 0, 1) := by decide +kernel
theorem dX10_errs_1 : decode cX10_errs 1 = .ok (.invokevirtual 137, 3) := by decide +kernel
theorem dX10_errs_4 : decode cX10_errs 4 = .ok (.ifCond .ne 4, 3) := by decide +kernel
theorem dX10_errs_7 : decode cX10_errs 7 = .ok (.return_, 1) := by decide +kernel
theorem dX10_errs_8 : decode cX10_errs 8 = .ok (.aload_n 0, 1) := by decide +kernel
theorem dX10_errs_9 : decode cX10_errs 9 = .ok (.iload_n 1, 1) := by decide +kernel
theorem dX10_errs_10 : decode cX10_errs 10 = .ok (.putfield 134, 3) := by decide +kernel
theorem dX10_errs_13 : decode cX10_errs 13 = .ok (.aload_n 0, 1) := by decide +kernel
theorem dX10_errs_14 : decode cX10_errs 14 = .ok (.aload_n 0, 1) := by decide +kernel
theorem dX10_errs_15 : decode cX10_errs 15 = .ok (.getfield 110, 3) := by decide +kernel
theorem dX10_errs_18 : decode cX10_errs 18 = .ok (.putfield 27, 3) := by decide +kernel
theorem dX10_errs_21 : decode cX10_errs 21 = .ok (.return_, 1) := by decide +kernel
theorem dX10_is_0 : decode cX10_is 0 = .ok (.aload_n 0, 1) := by decide +kernel
theorem dX10_is_1 : decode cX10_is 1 = .ok (.invokevirtual 137, 3) := by decide +kernel
theorem dX10_is_4 : decode cX10_is 4 = .ok (.ifCond .eq 31, 3) := by decide +kernel
theorem dX10_is_7 : decode cX10_is 7 = .ok (.aload_n 0, 1) := by decide +kernel
theorem dX10_is_8 : decode cX10_is 8 = .ok (.getfield 113, 3) := by decide +kernel
theorem dX10_is_11 : decode cX10_is 11 = .ok (.iconst 1, 1) := by decide +kernel
theorem dX10_is_12 : decode cX10_is 12 = .ok (.if_icmp .ne 23, 3) := by decide +kernel
theorem dX10_is_15 : decode cX10_is 15 = .ok (.aload_n 0, 1) := by decide +kernel
theorem dX10_is_16 : decode cX10_is 16 = .ok (.getfield 103, 3) := by decide +kernel
theorem dX10_is_19 : decode cX10_is 19 = .ok (.aload_n 0, 1) := by decide +kernel
theorem dX10_is_20 : decode cX10_is 20 = .ok (.getfield 110, 3) := by decide +kernel
theorem dX10_is_23 : decode cX10_is 23 = .ok (.isub, 1) := by decide +kernel
theorem dX10_is_24 : decode cX10_is 24 = .ok (.aload_n 1, 1) := by decide +kernel
theorem dX10_is_25 : decode cX10_is 25 = .ok (.invokevirtual 141, 3) := by decide +kernel
theorem dX10_is_28 : decode cX10_is 28 = .ok (.if_icmp .ne 7, 3) := by decide +kernel
theorem dX10_is_31 : decode cX10_is 31 = .ok (.iconst 1, 1) := by decide +kernel
theorem dX10_is_32 : decode cX10_is 32 = .ok (.goto 4, 3) := by decide +kernel
theorem dX10_is_35 : decode cX10_is 35 = .ok (.iconst 0, 1) := by decide +kernel
theorem dX10_is_36 : decode cX10_is 36 = .ok (.istore_n 2, 1) := by decide +kernel
theorem dX10_is_37 : decode cX10_is 37 = .ok (.iconst 0, 1) := by decide +kernel
theorem dX10_is_38 : decode cX10_is 38 = .ok (.istore_n 3, 1) := by decide +kernel
theorem dX10_is_39 : decode cX10_is 39 = .ok (.iload_n 3, 1) := by decide +kernel
theorem dX10_is_40 : decode cX10_is 40 = .ok (.aload_n 1, 1) := by decide +kernel
theorem dX10_is_41 : decode cX10_is 41 = .ok (.invokevirtual 141, 3) := by decide +kernel
theorem dX10_is_44 : decode cX10_is 44 = .ok (.if_icmp .ge 38, 3) := by decide +kernel
theorem dX10_is_47 : decode cX10_is 47 = .ok (.iload_n 2, 1) := by decide +kernel
theorem dX10_is_48 : decode cX10_is 48 = .ok (.ifCond .eq 34, 3) := by decide +kernel
theorem dX10_is_51 : decode cX10_is 51 = .ok (.aload_n 0, 1) := by decide +kernel
theorem dX10_is_52 : decode cX10_is 52 = .ok (.getfield 20, 3) := by decide +kernel
theorem dX10_is_55 : decode cX10_is 55 = .ok (.aload_n 0, 1) := by decide +kernel
theorem dX10_is_56 : decode cX10_is 56 = .ok (.getfield 110, 3) := by decide +kernel
theorem dX10_is_59 : decode cX10_is 59 = .ok (.iload_n 3, 1) := by decide +kernel
theorem dX10_is_60 : decode cX10_is 60 = .ok (.iadd, 1) := by decide +kernel
theorem dX10_is_61 : decode cX10_is 61 = .ok (.baload, 1) := by decide +kernel
theorem dX10_is_62 : decode cX10_is 62 = .ok (.aload_n 1, 1) := by decide +kernel
theorem dX10_is_63 : decode cX10_is 63 = .ok (.iload_n 3, 1) := by decide +kernel
theorem dX10_is_64 : decode cX10_is 64 = .ok (.invokevirtual 146, 3) := by decide +kernel
theorem dX10_is_67 : decode cX10_is 67 = .ok (.if_icmp .ne 7, 3) := by decide +kernel
theorem dX10_is_70 : decode cX10_is 70 = .ok (.iconst 1, 1) := by decide +kernel
theorem dX10_is_71 : decode cX10_is 71 = .ok (.goto 4, 3) := by decide +kernel
theorem dX10_is_74 : decode cX10_is 74 = .ok (.iconst 0, 1) := by decide +kernel
theorem dX10_is_75 : decode cX10_is 75 = .ok (.istore_n 2, 1) := by decide +kernel
theorem dX10_is_76 : decode cX10_is 76 = .ok (.iinc 3 1, 3) := by decide +kernel
theorem dX10_is_79 : decode cX10_is 79 = .ok (.goto (-40), 3) := by decide +kernel
theorem dX10_is_82 : decode cX10_is 82 = .ok (.iload_n 2, 1) := by decide +kernel
theorem dX10_is_83 : decode cX10_is 83 = .ok (.ireturn, 1) := by decide +kernel
theorem dX10_takes_0 : decode cX10_takes 0 = .ok (.aload_n 0, 1) := by decide +kernel
theorem dX10_takes_1 : decode cX10_takes 1 = .ok (.aload_n 1, 1) := by decide +kernel
theorem dX10_takes_2 : decode cX10_takes 2 = .ok (.invokevirtual 150, 3) := by decide +kernel
theorem dX10_takes_5 : decode cX10_takes 5 = .ok (.istore_n 2, 1) := by decide +kernel
theorem dX10_takes_6 : decode cX10_takes 6 = .ok (.iload_n 2, 1) := by decide +kernel
theorem dX10_takes_7 : decode cX10_takes 7 = .ok (.ifCond .eq 7, 3) := by decide +kernel
theorem dX10_takes_10 : decode cX10_takes 10 = .ok (.aload_n 0, 1) := by decide +kernel
theorem dX10_takes_11 : decode cX10_takes 11 = .ok (.invokevirtual 154, 3) := by decide +kernel
theorem dX10_takes_14 : decode cX10_takes 14 = .ok (.iload_n 2, 1) := by decide +kernel
theorem dX10_takes_15 : decode cX10_takes 15 = .ok (.ireturn, 1) := by decide +kernel
theorem dX10_needs_0 : decode cX10_needs 0 = .ok (.aload_n 0, 1) := by decide +kernel
theorem dX10_needs_1 : decode cX10_needs 1 = .ok (.aload_n 1, 1) := by decide +kernel
theorem dX10_needs_2 : decode cX10_needs 2 = .ok (.invokevirtual 157, 3) := by decide +kernel
theorem dX10_needs_5 : decode cX10_needs 5 = .ok (.ifCond .ne 8, 3) := by decide +kernel
theorem dX10_needs_8 : decode cX10_needs 8 = .ok (.aload_n 0, 1) := by decide +kernel
theorem dX10_needs_9 : decode cX10_needs 9 = .ok (.iconst 1, 1) := by decide +kernel
theorem dX10_needs_10 : decode cX10_needs 10 = .ok (.invokevirtual 160, 3) := by decide +kernel
theorem dX10_needs_13 : decode cX10_needs 13 = .ok (.return_, 1) := by decide +kernel
theorem dX10_number_0 : decode cX10_number 0 = .ok (.aload_n 0, 1) := by decide +kernel
theorem dX10_number_1 : decode cX10_number 1 = .ok (.invokevirtual 137, 3) := by decide +kernel
theorem dX10_number_4 : decode cX10_number 4 = .ok (.ifCond .eq 16, 3) := by decide +kernel
theorem dX10_number_7 : decode cX10_number 7 = .ok (.aload_n 0, 1) := by decide +kernel
theorem dX10_number_8 : decode cX10_number 8 = .ok (.getfield 113, 3) := by decide +kernel
theorem dX10_number_11 : decode cX10_number 11 = .ok (.iconst 2, 1) := by decide +kernel
theorem dX10_number_12 : decode cX10_number 12 = .ok (.if_icmp .eq 8, 3) := by decide +kernel
theorem dX10_number_15 : decode cX10_number 15 = .ok (.aload_n 0, 1) := by decide +kernel
theorem dX10_number_16 : decode cX10_number 16 = .ok (.iconst 1, 1) := by decide +kernel
theorem dX10_number_17 : decode cX10_number 17 = .ok (.invokevirtual 160, 3) := by decide +kernel
theorem dX10_number_20 : decode cX10_number 20 = .ok (.aload_n 0, 1) := by decide +kernel
theorem dX10_number_21 : decode cX10_number 21 = .ok (.invokevirtual 137, 3) := by decide +kernel
theorem dX10_number_24 : decode cX10_number 24 = .ok (.ifCond .eq 23, 3) := by decide +kernel
theorem dX10_number_27 : decode cX10_number 27 = .ok (.aload_n 0, 1) := by decide +kernel
theorem dX10_number_28 : decode cX10_number 28 = .ok (.getfield 124, 3) := by decide +kernel
theorem dX10_number_31 : decode cX10_number 31 = .ok (.i2l, 1) := by decide +kernel
theorem dX10_number_32 : decode cX10_number 32 = .ok (.iload_n 1, 1) := by decide +kernel
theorem dX10_number_33 : decode cX10_number 33 = .ok (.i2l, 1) := by decide +kernel
theorem dX10_number_34 : decode cX10_number 34 = .ok (.iload_n 2, 1) := by decide +kernel
theorem dX10_number_35 : decode cX10_number 35 = .ok (.i2l, 1) := by decide +kernel
theorem dX10_number_36 : decode cX10_number 36 = .ok (.invokestatic 85, 3) := by decide +kernel
theorem dX10_number_39 : decode cX10_number 39 = .ok (.ifCond .ne 8, 3) := by decide +kernel
theorem dX10_number_42 : decode cX10_number 42 = .ok (.aload_n 0, 1) := by decide +kernel
theorem dX10_number_43 : decode cX10_number 43 = .ok (.iconst 2, 1) := by decide +kernel
theorem dX10_number_44 : decode cX10_number 44 = .ok (.invokevirtual 160, 3) := by decide +kernel
theorem dX10_number_47 : decode cX10_number 47 = .ok (.aload_n 0, 1) := by decide +kernel
theorem dX10_number_48 : decode cX10_number 48 = .ok (.invokevirtual 137, 3) := by decide +kernel
theorem dX10_number_51 : decode cX10_number 51 = .ok (.ifCond .ne 5, 3) := by decide +kernel
theorem dX10_number_54 : decode cX10_number 54 = .ok (.iconst 0, 1) := by decide +kernel
theorem dX10_number_55 : decode cX10_number 55 = .ok (.ireturn, 1) := by decide +kernel
theorem dX10_number_56 : decode cX10_number 56 = .ok (.aload_n 0, 1) := by decide +kernel
theorem dX10_number_57 : decode cX10_number 57 = .ok (.getfield 124, 3) := by decide +kernel
theorem dX10_number_60 : decode cX10_number 60 = .ok (.istore_n 3, 1) := by decide +kernel
theorem dX10_number_61 : decode cX10_number 61 = .ok (.aload_n 0, 1) := by decide +kernel
theorem dX10_number_62 : decode cX10_number 62 = .ok (.invokevirtual 154, 3) := by decide +kernel
theorem dX10_number_65 : decode cX10_number 65 = .ok (.iload_n 3, 1) := by decide +kernel
theorem dX10_number_66 : decode cX10_number 66 = .ok (.ireturn, 1) := by decide +kernel
theorem dX10_told_0 : decode cX10_told 0 = .ok (.aload_n 0, 1) := by decide +kernel
theorem dX10_told_1 : decode cX10_told 1 = .ok (.aload_n 1, 1) := by decide +kernel
theorem dX10_told_2 : decode cX10_told 2 = .ok (.invokevirtual 164, 3) := by decide +kernel
theorem dX10_told_5 : decode cX10_told 5 = .ok (.aload_n 0, 1) := by decide +kernel
theorem dX10_told_6 : decode cX10_told 6 = .ok (.iload_n 2, 1) := by decide +kernel
theorem dX10_told_7 : decode cX10_told 7 = .ok (.iload_n 3, 1) := by decide +kernel
theorem dX10_told_8 : decode cX10_told 8 = .ok (.invokevirtual 168, 3) := by decide +kernel
theorem dX10_told_11 : decode cX10_told 11 = .ok (.ireturn, 1) := by decide +kernel
theorem dX10_fault_0 : decode cX10_fault 0 = .ok (.iload_n 1, 1) := by decide +kernel
theorem dX10_fault_1 : decode cX10_fault 1 = .ok (.ifCond .ne 10, 3) := by decide +kernel
theorem dX10_fault_4 : decode cX10_fault 4 = .ok (.aload_n 0, 1) := by decide +kernel
theorem dX10_fault_5 : decode cX10_fault 5 = .ok (.getfield 134, 3) := by decide +kernel
theorem dX10_fault_8 : decode cX10_fault 8 = .ok (.goto 16, 3) := by decide +kernel
theorem dX10_fault_11 : decode cX10_fault 11 = .ok (.iload_n 1, 1) := by decide +kernel
theorem dX10_fault_12 : decode cX10_fault 12 = .ok (.iconst 1, 1) := by decide +kernel
theorem dX10_fault_13 : decode cX10_fault 13 = .ok (.if_icmp .ne 10, 3) := by decide +kernel
theorem dX10_fault_16 : decode cX10_fault 16 = .ok (.aload_n 0, 1) := by decide +kernel
theorem dX10_fault_17 : decode cX10_fault 17 = .ok (.getfield 27, 3) := by decide +kernel
theorem dX10_fault_20 : decode cX10_fault 20 = .ok (.goto 4, 3) := by decide +kernel
theorem dX10_fault_23 : decode cX10_fault 23 = .ok (.iconst (-1), 1) := by decide +kernel
theorem dX10_fault_24 : decode cX10_fault 24 = .ok (.ireturn, 1) := by decide +kernel
theorem dX10_freshVillage_0 : decode cX10_freshVillage 0 = .ok (.aload_n 0, 1) := by decide +kernel
theorem dX10_freshVillage_1 : decode cX10_freshVillage 1 = .ok (.iconst 0, 1) := by decide +kernel
theorem dX10_freshVillage_2 : decode cX10_freshVillage 2 = .ok (.aload_n 0, 1) := by decide +kernel
theorem dX10_freshVillage_3 : decode cX10_freshVillage 3 = .ok (.getfield 31, 3) := by decide +kernel
theorem dX10_freshVillage_6 : decode cX10_freshVillage 6 = .ok (.iconst 0, 1) := by decide +kernel
theorem dX10_freshVillage_7 : decode cX10_freshVillage 7 = .ok (.iaload, 1) := by decide +kernel
theorem dX10_freshVillage_8 : decode cX10_freshVillage 8 = .ok (.iconst 1, 1) := by decide +kernel
theorem dX10_freshVillage_9 : decode cX10_freshVillage 9 = .ok (.isub, 1) := by decide +kernel
theorem dX10_freshVillage_10 : decode cX10_freshVillage 10 = .ok (.invokevirtual 168, 3) := by decide +kernel
theorem dX10_freshVillage_13 : decode cX10_freshVillage 13 = .ok (.ireturn, 1) := by decide +kernel
theorem dX10_readVillage_0 : decode cX10_readVillage 0 = .ok (.bipush 8, 2) := by decide +kernel
theorem dX10_readVillage_2 : decode cX10_readVillage 2 = .ok (.iconst 5, 1) := by decide +kernel
theorem dX10_readVillage_3 : decode cX10_readVillage 3 = .ok (.aload_n 0, 1) := by decide +kernel
theorem dX10_readVillage_4 : decode cX10_readVillage 4 = .ok (.getfield 31, 3) := by decide +kernel
theorem dX10_readVillage_7 : decode cX10_readVillage 7 = .ok (.iconst 0, 1) := by decide +kernel
theorem dX10_readVillage_8 : decode cX10_readVillage 8 = .ok (.iaload, 1) := by decide +kernel
theorem dX10_readVillage_9 : decode cX10_readVillage 9 = .ok (.imul, 1) := by decide +kernel
theorem dX10_readVillage_10 : decode cX10_readVillage 10 = .ok (.iadd, 1) := by decide +kernel
theorem dX10_readVillage_11 : decode cX10_readVillage 11 = .ok (.istore_n 1, 1) := by decide +kernel
theorem dX10_readVillage_12 : decode cX10_readVillage 12 = .ok (.aload_n 0, 1) := by decide +kernel
theorem dX10_readVillage_13 : decode cX10_readVillage 13 = .ok (.getfield 31, 3) := by decide +kernel
theorem dX10_readVillage_16 : decode cX10_readVillage 16 = .ok (.iload_n 1, 1) := by decide +kernel
theorem dX10_readVillage_17 : decode cX10_readVillage 17 = .ok (.iconst 0, 1) := by decide +kernel
theorem dX10_readVillage_18 : decode cX10_readVillage 18 = .ok (.iadd, 1) := by decide +kernel
theorem dX10_readVillage_19 : decode cX10_readVillage 19 = .ok (.aload_n 0, 1) := by decide +kernel
theorem dX10_readVillage_20 : decode cX10_readVillage 20 = .ok (.ldc 171, 2) := by decide +kernel
theorem dX10_readVillage_22 : decode cX10_readVillage 22 = .ok (.iconst 0, 1) := by decide +kernel
theorem dX10_readVillage_23 : decode cX10_readVillage 23 = .ok (.sipush 9999, 3) := by decide +kernel
theorem dX10_readVillage_26 : decode cX10_readVillage 26 = .ok (.invokevirtual 173, 3) := by decide +kernel
theorem dX10_readVillage_29 : decode cX10_readVillage 29 = .ok (.iastore, 1) := by decide +kernel
theorem dX10_readVillage_30 : decode cX10_readVillage 30 = .ok (.aload_n 0, 1) := by decide +kernel
theorem dX10_readVillage_31 : decode cX10_readVillage 31 = .ok (.getfield 31, 3) := by decide +kernel
theorem dX10_readVillage_34 : decode cX10_readVillage 34 = .ok (.iload_n 1, 1) := by decide +kernel
theorem dX10_readVillage_35 : decode cX10_readVillage 35 = .ok (.iconst 1, 1) := by decide +kernel
theorem dX10_readVillage_36 : decode cX10_readVillage 36 = .ok (.iadd, 1) := by decide +kernel
theorem dX10_readVillage_37 : decode cX10_readVillage 37 = .ok (.aload_n 0, 1) := by decide +kernel
theorem dX10_readVillage_38 : decode cX10_readVillage 38 = .ok (.ldc 177, 2) := by decide +kernel
theorem dX10_readVillage_40 : decode cX10_readVillage 40 = .ok (.iconst 0, 1) := by decide +kernel
theorem dX10_readVillage_41 : decode cX10_readVillage 41 = .ok (.aload_n 0, 1) := by decide +kernel
theorem dX10_readVillage_42 : decode cX10_readVillage 42 = .ok (.getfield 31, 3) := by decide +kernel
theorem dX10_readVillage_45 : decode cX10_readVillage 45 = .ok (.iload_n 1, 1) := by decide +kernel
theorem dX10_readVillage_46 : decode cX10_readVillage 46 = .ok (.iconst 0, 1) := by decide +kernel
theorem dX10_readVillage_47 : decode cX10_readVillage 47 = .ok (.iadd, 1) := by decide +kernel
theorem dX10_readVillage_48 : decode cX10_readVillage 48 = .ok (.iaload, 1) := by decide +kernel
theorem dX10_readVillage_49 : decode cX10_readVillage 49 = .ok (.invokevirtual 173, 3) := by decide +kernel
theorem dX10_readVillage_52 : decode cX10_readVillage 52 = .ok (.iastore, 1) := by decide +kernel
theorem dX10_readVillage_53 : decode cX10_readVillage 53 = .ok (.aload_n 0, 1) := by decide +kernel
theorem dX10_readVillage_54 : decode cX10_readVillage 54 = .ok (.getfield 31, 3) := by decide +kernel
theorem dX10_readVillage_57 : decode cX10_readVillage 57 = .ok (.iload_n 1, 1) := by decide +kernel
theorem dX10_readVillage_58 : decode cX10_readVillage 58 = .ok (.iconst 2, 1) := by decide +kernel
theorem dX10_readVillage_59 : decode cX10_readVillage 59 = .ok (.iadd, 1) := by decide +kernel
theorem dX10_readVillage_60 : decode cX10_readVillage 60 = .ok (.aload_n 0, 1) := by decide +kernel
theorem dX10_readVillage_61 : decode cX10_readVillage 61 = .ok (.ldc 178, 2) := by decide +kernel
theorem dX10_readVillage_63 : decode cX10_readVillage 63 = .ok (.iconst 0, 1) := by decide +kernel
theorem dX10_readVillage_64 : decode cX10_readVillage 64 = .ok (.bipush 99, 2) := by decide +kernel
theorem dX10_readVillage_66 : decode cX10_readVillage 66 = .ok (.invokevirtual 173, 3) := by decide +kernel
theorem dX10_readVillage_69 : decode cX10_readVillage 69 = .ok (.iastore, 1) := by decide +kernel
theorem dX10_readVillage_70 : decode cX10_readVillage 70 = .ok (.aload_n 0, 1) := by decide +kernel
theorem dX10_readVillage_71 : decode cX10_readVillage 71 = .ok (.getfield 31, 3) := by decide +kernel
theorem dX10_readVillage_74 : decode cX10_readVillage 74 = .ok (.iload_n 1, 1) := by decide +kernel
theorem dX10_readVillage_75 : decode cX10_readVillage 75 = .ok (.iconst 3, 1) := by decide +kernel
theorem dX10_readVillage_76 : decode cX10_readVillage 76 = .ok (.iadd, 1) := by decide +kernel
theorem dX10_readVillage_77 : decode cX10_readVillage 77 = .ok (.aload_n 0, 1) := by decide +kernel
theorem dX10_readVillage_78 : decode cX10_readVillage 78 = .ok (.ldc 180, 2) := by decide +kernel
theorem dX10_readVillage_80 : decode cX10_readVillage 80 = .ok (.iconst 0, 1) := by decide +kernel
theorem dX10_readVillage_81 : decode cX10_readVillage 81 = .ok (.bipush 99, 2) := by decide +kernel
theorem dX10_readVillage_83 : decode cX10_readVillage 83 = .ok (.invokevirtual 173, 3) := by decide +kernel
theorem dX10_readVillage_86 : decode cX10_readVillage 86 = .ok (.iastore, 1) := by decide +kernel
theorem dX10_readVillage_87 : decode cX10_readVillage 87 = .ok (.aload_n 0, 1) := by decide +kernel
theorem dX10_readVillage_88 : decode cX10_readVillage 88 = .ok (.getfield 31, 3) := by decide +kernel
theorem dX10_readVillage_91 : decode cX10_readVillage 91 = .ok (.iconst 0, 1) := by decide +kernel
theorem dX10_readVillage_92 : decode cX10_readVillage 92 = .ok (.dup2, 1) := by decide +kernel
theorem dX10_readVillage_93 : decode cX10_readVillage 93 = .ok (.iaload, 1) := by decide +kernel
theorem dX10_readVillage_94 : decode cX10_readVillage 94 = .ok (.iconst 1, 1) := by decide +kernel
theorem dX10_readVillage_95 : decode cX10_readVillage 95 = .ok (.iadd, 1) := by decide +kernel
theorem dX10_readVillage_96 : decode cX10_readVillage 96 = .ok (.iastore, 1) := by decide +kernel
theorem dX10_readVillage_97 : decode cX10_readVillage 97 = .ok (.return_, 1) := by decide +kernel
theorem dX10_readCrop_0 : decode cX10_readCrop 0 = .ok (.bipush 38, 2) := by decide +kernel
theorem dX10_readCrop_2 : decode cX10_readCrop 2 = .ok (.iconst 5, 1) := by decide +kernel
theorem dX10_readCrop_3 : decode cX10_readCrop 3 = .ok (.aload_n 0, 1) := by decide +kernel
theorem dX10_readCrop_4 : decode cX10_readCrop 4 = .ok (.getfield 31, 3) := by decide +kernel
theorem dX10_readCrop_7 : decode cX10_readCrop 7 = .ok (.iconst 1, 1) := by decide +kernel
theorem dX10_readCrop_8 : decode cX10_readCrop 8 = .ok (.iaload, 1) := by decide +kernel
theorem dX10_readCrop_9 : decode cX10_readCrop 9 = .ok (.imul, 1) := by decide +kernel
theorem dX10_readCrop_10 : decode cX10_readCrop 10 = .ok (.iadd, 1) := by decide +kernel
theorem dX10_readCrop_11 : decode cX10_readCrop 11 = .ok (.istore_n 1, 1) := by decide +kernel
theorem dX10_readCrop_12 : decode cX10_readCrop 12 = .ok (.aload_n 0, 1) := by decide +kernel
theorem dX10_readCrop_13 : decode cX10_readCrop 13 = .ok (.getfield 31, 3) := by decide +kernel
theorem dX10_readCrop_16 : decode cX10_readCrop 16 = .ok (.iload_n 1, 1) := by decide +kernel
theorem dX10_readCrop_17 : decode cX10_readCrop 17 = .ok (.iconst 0, 1) := by decide +kernel
theorem dX10_readCrop_18 : decode cX10_readCrop 18 = .ok (.iadd, 1) := by decide +kernel
theorem dX10_readCrop_19 : decode cX10_readCrop 19 = .ok (.aload_n 0, 1) := by decide +kernel
theorem dX10_readCrop_20 : decode cX10_readCrop 20 = .ok (.invokevirtual 182, 3) := by decide +kernel
theorem dX10_readCrop_23 : decode cX10_readCrop 23 = .ok (.iastore, 1) := by decide +kernel
theorem dX10_readCrop_24 : decode cX10_readCrop 24 = .ok (.aload_n 0, 1) := by decide +kernel
theorem dX10_readCrop_25 : decode cX10_readCrop 25 = .ok (.getfield 31, 3) := by decide +kernel
theorem dX10_readCrop_28 : decode cX10_readCrop 28 = .ok (.iload_n 1, 1) := by decide +kernel
theorem dX10_readCrop_29 : decode cX10_readCrop 29 = .ok (.iconst 1, 1) := by decide +kernel
theorem dX10_readCrop_30 : decode cX10_readCrop 30 = .ok (.iadd, 1) := by decide +kernel
theorem dX10_readCrop_31 : decode cX10_readCrop 31 = .ok (.aload_n 0, 1) := by decide +kernel
theorem dX10_readCrop_32 : decode cX10_readCrop 32 = .ok (.ldc 185, 2) := by decide +kernel
theorem dX10_readCrop_34 : decode cX10_readCrop 34 = .ok (.iconst 1, 1) := by decide +kernel
theorem dX10_readCrop_35 : decode cX10_readCrop 35 = .ok (.bipush 99, 2) := by decide +kernel
theorem dX10_readCrop_37 : decode cX10_readCrop 37 = .ok (.invokevirtual 173, 3) := by decide +kernel
theorem dX10_readCrop_40 : decode cX10_readCrop 40 = .ok (.iastore, 1) := by decide +kernel
theorem dX10_readCrop_41 : decode cX10_readCrop 41 = .ok (.aload_n 0, 1) := by decide +kernel
theorem dX10_readCrop_42 : decode cX10_readCrop 42 = .ok (.getfield 31, 3) := by decide +kernel
theorem dX10_readCrop_45 : decode cX10_readCrop 45 = .ok (.iload_n 1, 1) := by decide +kernel
theorem dX10_readCrop_46 : decode cX10_readCrop 46 = .ok (.iconst 2, 1) := by decide +kernel
theorem dX10_readCrop_47 : decode cX10_readCrop 47 = .ok (.iadd, 1) := by decide +kernel
theorem dX10_readCrop_48 : decode cX10_readCrop 48 = .ok (.aload_n 0, 1) := by decide +kernel
theorem dX10_readCrop_49 : decode cX10_readCrop 49 = .ok (.ldc 187, 2) := by decide +kernel
theorem dX10_readCrop_51 : decode cX10_readCrop 51 = .ok (.iconst 0, 1) := by decide +kernel
theorem dX10_readCrop_52 : decode cX10_readCrop 52 = .ok (.bipush 99, 2) := by decide +kernel
theorem dX10_readCrop_54 : decode cX10_readCrop 54 = .ok (.invokevirtual 173, 3) := by decide +kernel
theorem dX10_readCrop_57 : decode cX10_readCrop 57 = .ok (.iastore, 1) := by decide +kernel
theorem dX10_readCrop_58 : decode cX10_readCrop 58 = .ok (.aload_n 0, 1) := by decide +kernel
theorem dX10_readCrop_59 : decode cX10_readCrop 59 = .ok (.getfield 31, 3) := by decide +kernel
theorem dX10_readCrop_62 : decode cX10_readCrop 62 = .ok (.iload_n 1, 1) := by decide +kernel
theorem dX10_readCrop_63 : decode cX10_readCrop 63 = .ok (.iconst 3, 1) := by decide +kernel
theorem dX10_readCrop_64 : decode cX10_readCrop 64 = .ok (.iadd, 1) := by decide +kernel
theorem dX10_readCrop_65 : decode cX10_readCrop 65 = .ok (.aload_n 0, 1) := by decide +kernel
theorem dX10_readCrop_66 : decode cX10_readCrop 66 = .ok (.ldc 189, 2) := by decide +kernel
theorem dX10_readCrop_68 : decode cX10_readCrop 68 = .ok (.iconst 0, 1) := by decide +kernel
theorem dX10_readCrop_69 : decode cX10_readCrop 69 = .ok (.aload_n 0, 1) := by decide +kernel
theorem dX10_readCrop_70 : decode cX10_readCrop 70 = .ok (.getfield 31, 3) := by decide +kernel
theorem dX10_readCrop_73 : decode cX10_readCrop 73 = .ok (.iconst 5, 1) := by decide +kernel
theorem dX10_readCrop_74 : decode cX10_readCrop 74 = .ok (.iaload, 1) := by decide +kernel
theorem dX10_readCrop_75 : decode cX10_readCrop 75 = .ok (.iconst 1, 1) := by decide +kernel
theorem dX10_readCrop_76 : decode cX10_readCrop 76 = .ok (.isub, 1) := by decide +kernel
theorem dX10_readCrop_77 : decode cX10_readCrop 77 = .ok (.invokevirtual 173, 3) := by decide +kernel
theorem dX10_readCrop_80 : decode cX10_readCrop 80 = .ok (.iastore, 1) := by decide +kernel
theorem dX10_readCrop_81 : decode cX10_readCrop 81 = .ok (.aload_n 0, 1) := by decide +kernel
theorem dX10_readCrop_82 : decode cX10_readCrop 82 = .ok (.getfield 31, 3) := by decide +kernel
theorem dX10_readCrop_85 : decode cX10_readCrop 85 = .ok (.iload_n 1, 1) := by decide +kernel
theorem dX10_readCrop_86 : decode cX10_readCrop 86 = .ok (.iconst 4, 1) := by decide +kernel
theorem dX10_readCrop_87 : decode cX10_readCrop 87 = .ok (.iadd, 1) := by decide +kernel
theorem dX10_readCrop_88 : decode cX10_readCrop 88 = .ok (.aload_n 0, 1) := by decide +kernel
theorem dX10_readCrop_89 : decode cX10_readCrop 89 = .ok (.ldc 190, 2) := by decide +kernel
theorem dX10_readCrop_91 : decode cX10_readCrop 91 = .ok (.aload_n 0, 1) := by decide +kernel
theorem dX10_readCrop_92 : decode cX10_readCrop 92 = .ok (.getfield 31, 3) := by decide +kernel
theorem dX10_readCrop_95 : decode cX10_readCrop 95 = .ok (.iload_n 1, 1) := by decide +kernel
theorem dX10_readCrop_96 : decode cX10_readCrop 96 = .ok (.iconst 3, 1) := by decide +kernel
theorem dX10_readCrop_97 : decode cX10_readCrop 97 = .ok (.iadd, 1) := by decide +kernel
theorem dX10_readCrop_98 : decode cX10_readCrop 98 = .ok (.iaload, 1) := by decide +kernel
theorem dX10_readCrop_99 : decode cX10_readCrop 99 = .ok (.aload_n 0, 1) := by decide +kernel
theorem dX10_readCrop_100 : decode cX10_readCrop 100 = .ok (.getfield 31, 3) := by decide +kernel
theorem dX10_readCrop_103 : decode cX10_readCrop 103 = .ok (.iconst 5, 1) := by decide +kernel
theorem dX10_readCrop_104 : decode cX10_readCrop 104 = .ok (.iaload, 1) := by decide +kernel
theorem dX10_readCrop_105 : decode cX10_readCrop 105 = .ok (.iconst 1, 1) := by decide +kernel
theorem dX10_readCrop_106 : decode cX10_readCrop 106 = .ok (.isub, 1) := by decide +kernel
theorem dX10_readCrop_107 : decode cX10_readCrop 107 = .ok (.invokevirtual 173, 3) := by decide +kernel
theorem dX10_readCrop_110 : decode cX10_readCrop 110 = .ok (.iastore, 1) := by decide +kernel
theorem dX10_readCrop_111 : decode cX10_readCrop 111 = .ok (.aload_n 0, 1) := by decide +kernel
theorem dX10_readCrop_112 : decode cX10_readCrop 112 = .ok (.getfield 31, 3) := by decide +kernel
theorem dX10_readCrop_115 : decode cX10_readCrop 115 = .ok (.iconst 1, 1) := by decide +kernel
theorem dX10_readCrop_116 : decode cX10_readCrop 116 = .ok (.dup2, 1) := by decide +kernel
theorem dX10_readCrop_117 : decode cX10_readCrop 117 = .ok (.iaload, 1) := by decide +kernel
theorem dX10_readCrop_118 : decode cX10_readCrop 118 = .ok (.iconst 1, 1) := by decide +kernel
theorem dX10_readCrop_119 : decode cX10_readCrop 119 = .ok (.iadd, 1) := by decide +kernel
theorem dX10_readCrop_120 : decode cX10_readCrop 120 = .ok (.iastore, 1) := by decide +kernel
theorem dX10_readCrop_121 : decode cX10_readCrop 121 = .ok (.return_, 1) := by decide +kernel
theorem dX10_readFlood_0 : decode cX10_readFlood 0 = .ok (.bipush 108, 2) := by decide +kernel
theorem dX10_readFlood_2 : decode cX10_readFlood 2 = .ok (.iconst 3, 1) := by decide +kernel
theorem dX10_readFlood_3 : decode cX10_readFlood 3 = .ok (.aload_n 0, 1) := by decide +kernel
theorem dX10_readFlood_4 : decode cX10_readFlood 4 = .ok (.getfield 31, 3) := by decide +kernel
theorem dX10_readFlood_7 : decode cX10_readFlood 7 = .ok (.iconst 2, 1) := by decide +kernel
theorem dX10_readFlood_8 : decode cX10_readFlood 8 = .ok (.iaload, 1) := by decide +kernel
theorem dX10_readFlood_9 : decode cX10_readFlood 9 = .ok (.imul, 1) := by decide +kernel
theorem dX10_readFlood_10 : decode cX10_readFlood 10 = .ok (.iadd, 1) := by decide +kernel
theorem dX10_readFlood_11 : decode cX10_readFlood 11 = .ok (.istore_n 1, 1) := by decide +kernel
theorem dX10_readFlood_12 : decode cX10_readFlood 12 = .ok (.aload_n 0, 1) := by decide +kernel
theorem dX10_readFlood_13 : decode cX10_readFlood 13 = .ok (.getfield 31, 3) := by decide +kernel
theorem dX10_readFlood_16 : decode cX10_readFlood 16 = .ok (.iload_n 1, 1) := by decide +kernel
theorem dX10_readFlood_17 : decode cX10_readFlood 17 = .ok (.iconst 0, 1) := by decide +kernel
theorem dX10_readFlood_18 : decode cX10_readFlood 18 = .ok (.iadd, 1) := by decide +kernel
theorem dX10_readFlood_19 : decode cX10_readFlood 19 = .ok (.aload_n 0, 1) := by decide +kernel
theorem dX10_readFlood_20 : decode cX10_readFlood 20 = .ok (.iconst 0, 1) := by decide +kernel
theorem dX10_readFlood_21 : decode cX10_readFlood 21 = .ok (.aload_n 0, 1) := by decide +kernel
theorem dX10_readFlood_22 : decode cX10_readFlood 22 = .ok (.getfield 31, 3) := by decide +kernel
theorem dX10_readFlood_25 : decode cX10_readFlood 25 = .ok (.iconst 5, 1) := by decide +kernel
theorem dX10_readFlood_26 : decode cX10_readFlood 26 = .ok (.iaload, 1) := by decide +kernel
theorem dX10_readFlood_27 : decode cX10_readFlood 27 = .ok (.iconst 1, 1) := by decide +kernel
theorem dX10_readFlood_28 : decode cX10_readFlood 28 = .ok (.isub, 1) := by decide +kernel
theorem dX10_readFlood_29 : decode cX10_readFlood 29 = .ok (.invokevirtual 168, 3) := by decide +kernel
theorem dX10_readFlood_32 : decode cX10_readFlood 32 = .ok (.iastore, 1) := by decide +kernel
theorem dX10_readFlood_33 : decode cX10_readFlood 33 = .ok (.aload_n 0, 1) := by decide +kernel
theorem dX10_readFlood_34 : decode cX10_readFlood 34 = .ok (.getfield 31, 3) := by decide +kernel
theorem dX10_readFlood_37 : decode cX10_readFlood 37 = .ok (.iload_n 1, 1) := by decide +kernel
theorem dX10_readFlood_38 : decode cX10_readFlood 38 = .ok (.iconst 1, 1) := by decide +kernel
theorem dX10_readFlood_39 : decode cX10_readFlood 39 = .ok (.iadd, 1) := by decide +kernel
theorem dX10_readFlood_40 : decode cX10_readFlood 40 = .ok (.aload_n 0, 1) := by decide +kernel
theorem dX10_readFlood_41 : decode cX10_readFlood 41 = .ok (.ldc 187, 2) := by decide +kernel
theorem dX10_readFlood_43 : decode cX10_readFlood 43 = .ok (.iconst 0, 1) := by decide +kernel
theorem dX10_readFlood_44 : decode cX10_readFlood 44 = .ok (.sipush 9999, 3) := by decide +kernel
theorem dX10_readFlood_47 : decode cX10_readFlood 47 = .ok (.invokevirtual 173, 3) := by decide +kernel
theorem dX10_readFlood_50 : decode cX10_readFlood 50 = .ok (.iastore, 1) := by decide +kernel
theorem dX10_readFlood_51 : decode cX10_readFlood 51 = .ok (.aload_n 0, 1) := by decide +kernel
theorem dX10_readFlood_52 : decode cX10_readFlood 52 = .ok (.getfield 31, 3) := by decide +kernel
theorem dX10_readFlood_55 : decode cX10_readFlood 55 = .ok (.iload_n 1, 1) := by decide +kernel
theorem dX10_readFlood_56 : decode cX10_readFlood 56 = .ok (.iconst 2, 1) := by decide +kernel
theorem dX10_readFlood_57 : decode cX10_readFlood 57 = .ok (.iadd, 1) := by decide +kernel
theorem dX10_readFlood_58 : decode cX10_readFlood 58 = .ok (.aload_n 0, 1) := by decide +kernel
theorem dX10_readFlood_59 : decode cX10_readFlood 59 = .ok (.ldc 192, 2) := by decide +kernel
theorem dX10_readFlood_61 : decode cX10_readFlood 61 = .ok (.iconst 0, 1) := by decide +kernel
theorem dX10_readFlood_62 : decode cX10_readFlood 62 = .ok (.bipush 100, 2) := by decide +kernel
theorem dX10_readFlood_64 : decode cX10_readFlood 64 = .ok (.invokevirtual 173, 3) := by decide +kernel
theorem dX10_readFlood_67 : decode cX10_readFlood 67 = .ok (.iastore, 1) := by decide +kernel
theorem dX10_readFlood_68 : decode cX10_readFlood 68 = .ok (.aload_n 0, 1) := by decide +kernel
theorem dX10_readFlood_69 : decode cX10_readFlood 69 = .ok (.getfield 31, 3) := by decide +kernel
theorem dX10_readFlood_72 : decode cX10_readFlood 72 = .ok (.sipush 157, 3) := by decide +kernel
theorem dX10_readFlood_75 : decode cX10_readFlood 75 = .ok (.aload_n 0, 1) := by decide +kernel
theorem dX10_readFlood_76 : decode cX10_readFlood 76 = .ok (.getfield 31, 3) := by decide +kernel
theorem dX10_readFlood_79 : decode cX10_readFlood 79 = .ok (.iconst 2, 1) := by decide +kernel
theorem dX10_readFlood_80 : decode cX10_readFlood 80 = .ok (.iaload, 1) := by decide +kernel
theorem dX10_readFlood_81 : decode cX10_readFlood 81 = .ok (.iadd, 1) := by decide +kernel
theorem dX10_readFlood_82 : decode cX10_readFlood 82 = .ok (.iconst (-1), 1) := by decide +kernel
theorem dX10_readFlood_83 : decode cX10_readFlood 83 = .ok (.iastore, 1) := by decide +kernel
theorem dX10_readFlood_84 : decode cX10_readFlood 84 = .ok (.aload_n 0, 1) := by decide +kernel
theorem dX10_readFlood_85 : decode cX10_readFlood 85 = .ok (.getfield 31, 3) := by decide +kernel
theorem dX10_readFlood_88 : decode cX10_readFlood 88 = .ok (.iconst 2, 1) := by decide +kernel
theorem dX10_readFlood_89 : decode cX10_readFlood 89 = .ok (.dup2, 1) := by decide +kernel
theorem dX10_readFlood_90 : decode cX10_readFlood 90 = .ok (.iaload, 1) := by decide +kernel
theorem dX10_readFlood_91 : decode cX10_readFlood 91 = .ok (.iconst 1, 1) := by decide +kernel
theorem dX10_readFlood_92 : decode cX10_readFlood 92 = .ok (.iadd, 1) := by decide +kernel
theorem dX10_readFlood_93 : decode cX10_readFlood 93 = .ok (.iastore, 1) := by decide +kernel
theorem dX10_readFlood_94 : decode cX10_readFlood 94 = .ok (.return_, 1) := by decide +kernel
theorem dX10_readLoan_0 : decode cX10_readLoan 0 = .ok (.bipush 117, 2) := by decide +kernel
theorem dX10_readLoan_2 : decode cX10_readLoan 2 = .ok (.iconst 5, 1) := by decide +kernel
theorem dX10_readLoan_3 : decode cX10_readLoan 3 = .ok (.aload_n 0, 1) := by decide +kernel
theorem dX10_readLoan_4 : decode cX10_readLoan 4 = .ok (.getfield 31, 3) := by decide +kernel
theorem dX10_readLoan_7 : decode cX10_readLoan 7 = .ok (.iconst 3, 1) := by decide +kernel
theorem dX10_readLoan_8 : decode cX10_readLoan 8 = .ok (.iaload, 1) := by decide +kernel
theorem dX10_readLoan_9 : decode cX10_readLoan 9 = .ok (.imul, 1) := by decide +kernel
theorem dX10_readLoan_10 : decode cX10_readLoan 10 = .ok (.iadd, 1) := by decide +kernel
theorem dX10_readLoan_11 : decode cX10_readLoan 11 = .ok (.istore_n 1, 1) := by decide +kernel
theorem dX10_readLoan_12 : decode cX10_readLoan 12 = .ok (.aload_n 0, 1) := by decide +kernel
theorem dX10_readLoan_13 : decode cX10_readLoan 13 = .ok (.invokevirtual 182, 3) := by decide +kernel
theorem dX10_readLoan_16 : decode cX10_readLoan 16 = .ok (.istore_n 2, 1) := by decide +kernel
theorem dX10_readLoan_17 : decode cX10_readLoan 17 = .ok (.aload_n 0, 1) := by decide +kernel
theorem dX10_readLoan_18 : decode cX10_readLoan 18 = .ok (.ldc 190, 2) := by decide +kernel
theorem dX10_readLoan_20 : decode cX10_readLoan 20 = .ok (.invokevirtual 164, 3) := by decide +kernel
theorem dX10_readLoan_23 : decode cX10_readLoan 23 = .ok (.aload_n 0, 1) := by decide +kernel
theorem dX10_readLoan_24 : decode cX10_readLoan 24 = .ok (.invokevirtual 137, 3) := by decide +kernel
theorem dX10_readLoan_27 : decode cX10_readLoan 27 = .ok (.ifCond .eq 24, 3) := by decide +kernel
theorem dX10_readLoan_30 : decode cX10_readLoan 30 = .ok (.aload_n 0, 1) := by decide +kernel
theorem dX10_readLoan_31 : decode cX10_readLoan 31 = .ok (.getfield 113, 3) := by decide +kernel
theorem dX10_readLoan_34 : decode cX10_readLoan 34 = .ok (.iconst 2, 1) := by decide +kernel
theorem dX10_readLoan_35 : decode cX10_readLoan 35 = .ok (.if_icmp .ne 16, 3) := by decide +kernel
theorem dX10_readLoan_38 : decode cX10_readLoan 38 = .ok (.aload_n 0, 1) := by decide +kernel
theorem dX10_readLoan_39 : decode cX10_readLoan 39 = .ok (.getfield 124, 3) := by decide +kernel
theorem dX10_readLoan_42 : decode cX10_readLoan 42 = .ok (.iload_n 2, 1) := by decide +kernel
theorem dX10_readLoan_43 : decode cX10_readLoan 43 = .ok (.if_icmp .ne 8, 3) := by decide +kernel
theorem dX10_readLoan_46 : decode cX10_readLoan 46 = .ok (.aload_n 0, 1) := by decide +kernel
theorem dX10_readLoan_47 : decode cX10_readLoan 47 = .ok (.iconst 2, 1) := by decide +kernel
theorem dX10_readLoan_48 : decode cX10_readLoan 48 = .ok (.invokevirtual 160, 3) := by decide +kernel
theorem dX10_readLoan_51 : decode cX10_readLoan 51 = .ok (.aload_n 0, 1) := by decide +kernel
theorem dX10_readLoan_52 : decode cX10_readLoan 52 = .ok (.getfield 31, 3) := by decide +kernel
theorem dX10_readLoan_55 : decode cX10_readLoan 55 = .ok (.iload_n 1, 1) := by decide +kernel
theorem dX10_readLoan_56 : decode cX10_readLoan 56 = .ok (.iconst 0, 1) := by decide +kernel
theorem dX10_readLoan_57 : decode cX10_readLoan 57 = .ok (.iadd, 1) := by decide +kernel
theorem dX10_readLoan_58 : decode cX10_readLoan 58 = .ok (.iload_n 2, 1) := by decide +kernel
theorem dX10_readLoan_59 : decode cX10_readLoan 59 = .ok (.iastore, 1) := by decide +kernel
theorem dX10_readLoan_60 : decode cX10_readLoan 60 = .ok (.aload_n 0, 1) := by decide +kernel
theorem dX10_readLoan_61 : decode cX10_readLoan 61 = .ok (.getfield 31, 3) := by decide +kernel
theorem dX10_readLoan_64 : decode cX10_readLoan 64 = .ok (.iload_n 1, 1) := by decide +kernel
theorem dX10_readLoan_65 : decode cX10_readLoan 65 = .ok (.iconst 1, 1) := by decide +kernel
theorem dX10_readLoan_66 : decode cX10_readLoan 66 = .ok (.iadd, 1) := by decide +kernel
theorem dX10_readLoan_67 : decode cX10_readLoan 67 = .ok (.aload_n 0, 1) := by decide +kernel
theorem dX10_readLoan_68 : decode cX10_readLoan 68 = .ok (.invokevirtual 182, 3) := by decide +kernel
theorem dX10_readLoan_71 : decode cX10_readLoan 71 = .ok (.iastore, 1) := by decide +kernel
theorem dX10_readLoan_72 : decode cX10_readLoan 72 = .ok (.aload_n 0, 1) := by decide +kernel
theorem dX10_readLoan_73 : decode cX10_readLoan 73 = .ok (.getfield 31, 3) := by decide +kernel
theorem dX10_readLoan_76 : decode cX10_readLoan 76 = .ok (.iload_n 1, 1) := by decide +kernel
theorem dX10_readLoan_77 : decode cX10_readLoan 77 = .ok (.iconst 2, 1) := by decide +kernel
theorem dX10_readLoan_78 : decode cX10_readLoan 78 = .ok (.iadd, 1) := by decide +kernel
theorem dX10_readLoan_79 : decode cX10_readLoan 79 = .ok (.aload_n 0, 1) := by decide +kernel
theorem dX10_readLoan_80 : decode cX10_readLoan 80 = .ok (.ldc 194, 2) := by decide +kernel
theorem dX10_readLoan_82 : decode cX10_readLoan 82 = .ok (.iconst 1, 1) := by decide +kernel
theorem dX10_readLoan_83 : decode cX10_readLoan 83 = .ok (.sipush 9999, 3) := by decide +kernel
theorem dX10_readLoan_86 : decode cX10_readLoan 86 = .ok (.invokevirtual 173, 3) := by decide +kernel
theorem dX10_readLoan_89 : decode cX10_readLoan 89 = .ok (.iastore, 1) := by decide +kernel
theorem dX10_readLoan_90 : decode cX10_readLoan 90 = .ok (.aload_n 0, 1) := by decide +kernel
theorem dX10_readLoan_91 : decode cX10_readLoan 91 = .ok (.getfield 31, 3) := by decide +kernel
theorem dX10_readLoan_94 : decode cX10_readLoan 94 = .ok (.iload_n 1, 1) := by decide +kernel
theorem dX10_readLoan_95 : decode cX10_readLoan 95 = .ok (.iconst 3, 1) := by decide +kernel
theorem dX10_readLoan_96 : decode cX10_readLoan 96 = .ok (.iadd, 1) := by decide +kernel
theorem dX10_readLoan_97 : decode cX10_readLoan 97 = .ok (.aload_n 0, 1) := by decide +kernel
theorem dX10_readLoan_98 : decode cX10_readLoan 98 = .ok (.ldc 196, 2) := by decide +kernel
theorem dX10_readLoan_100 : decode cX10_readLoan 100 = .ok (.iconst 0, 1) := by decide +kernel
theorem dX10_readLoan_101 : decode cX10_readLoan 101 = .ok (.aload_n 0, 1) := by decide +kernel
theorem dX10_readLoan_102 : decode cX10_readLoan 102 = .ok (.getfield 31, 3) := by decide +kernel
theorem dX10_readLoan_105 : decode cX10_readLoan 105 = .ok (.iconst 5, 1) := by decide +kernel
theorem dX10_readLoan_106 : decode cX10_readLoan 106 = .ok (.iaload, 1) := by decide +kernel
theorem dX10_readLoan_107 : decode cX10_readLoan 107 = .ok (.iconst 1, 1) := by decide +kernel
theorem dX10_readLoan_108 : decode cX10_readLoan 108 = .ok (.isub, 1) := by decide +kernel
theorem dX10_readLoan_109 : decode cX10_readLoan 109 = .ok (.invokevirtual 173, 3) := by decide +kernel
theorem dX10_readLoan_112 : decode cX10_readLoan 112 = .ok (.iastore, 1) := by decide +kernel
theorem dX10_readLoan_113 : decode cX10_readLoan 113 = .ok (.aload_n 0, 1) := by decide +kernel
theorem dX10_readLoan_114 : decode cX10_readLoan 114 = .ok (.getfield 31, 3) := by decide +kernel
theorem dX10_readLoan_117 : decode cX10_readLoan 117 = .ok (.iload_n 1, 1) := by decide +kernel
theorem dX10_readLoan_118 : decode cX10_readLoan 118 = .ok (.iconst 4, 1) := by decide +kernel
theorem dX10_readLoan_119 : decode cX10_readLoan 119 = .ok (.iadd, 1) := by decide +kernel
theorem dX10_readLoan_120 : decode cX10_readLoan 120 = .ok (.aload_n 0, 1) := by decide +kernel
theorem dX10_readLoan_121 : decode cX10_readLoan 121 = .ok (.ldc 198, 2) := by decide +kernel
theorem dX10_readLoan_123 : decode cX10_readLoan 123 = .ok (.aload_n 0, 1) := by decide +kernel
theorem dX10_readLoan_124 : decode cX10_readLoan 124 = .ok (.getfield 31, 3) := by decide +kernel
theorem dX10_readLoan_127 : decode cX10_readLoan 127 = .ok (.iload_n 1, 1) := by decide +kernel
theorem dX10_readLoan_128 : decode cX10_readLoan 128 = .ok (.iconst 3, 1) := by decide +kernel
theorem dX10_readLoan_129 : decode cX10_readLoan 129 = .ok (.iadd, 1) := by decide +kernel
theorem dX10_readLoan_130 : decode cX10_readLoan 130 = .ok (.iaload, 1) := by decide +kernel
theorem dX10_readLoan_131 : decode cX10_readLoan 131 = .ok (.iconst 1, 1) := by decide +kernel
theorem dX10_readLoan_132 : decode cX10_readLoan 132 = .ok (.iadd, 1) := by decide +kernel
theorem dX10_readLoan_133 : decode cX10_readLoan 133 = .ok (.aload_n 0, 1) := by decide +kernel
theorem dX10_readLoan_134 : decode cX10_readLoan 134 = .ok (.getfield 31, 3) := by decide +kernel
theorem dX10_readLoan_137 : decode cX10_readLoan 137 = .ok (.iconst 5, 1) := by decide +kernel
theorem dX10_readLoan_138 : decode cX10_readLoan 138 = .ok (.iaload, 1) := by decide +kernel
theorem dX10_readLoan_139 : decode cX10_readLoan 139 = .ok (.iconst 1, 1) := by decide +kernel
theorem dX10_readLoan_140 : decode cX10_readLoan 140 = .ok (.isub, 1) := by decide +kernel
theorem dX10_readLoan_141 : decode cX10_readLoan 141 = .ok (.invokevirtual 173, 3) := by decide +kernel
theorem dX10_readLoan_144 : decode cX10_readLoan 144 = .ok (.iastore, 1) := by decide +kernel
theorem dX10_readLoan_145 : decode cX10_readLoan 145 = .ok (.aload_n 0, 1) := by decide +kernel
theorem dX10_readLoan_146 : decode cX10_readLoan 146 = .ok (.getfield 31, 3) := by decide +kernel
theorem dX10_readLoan_149 : decode cX10_readLoan 149 = .ok (.iconst 3, 1) := by decide +kernel
theorem dX10_readLoan_150 : decode cX10_readLoan 150 = .ok (.dup2, 1) := by decide +kernel
theorem dX10_readLoan_151 : decode cX10_readLoan 151 = .ok (.iaload, 1) := by decide +kernel
theorem dX10_readLoan_152 : decode cX10_readLoan 152 = .ok (.iconst 1, 1) := by decide +kernel
theorem dX10_readLoan_153 : decode cX10_readLoan 153 = .ok (.iadd, 1) := by decide +kernel
theorem dX10_readLoan_154 : decode cX10_readLoan 154 = .ok (.iastore, 1) := by decide +kernel
theorem dX10_readLoan_155 : decode cX10_readLoan 155 = .ok (.return_, 1) := by decide +kernel
theorem dX10_readNext_0 : decode cX10_readNext 0 = .ok (.aload_n 0, 1) := by decide +kernel
theorem dX10_readNext_1 : decode cX10_readNext 1 = .ok (.ldc 200, 2) := by decide +kernel
theorem dX10_readNext_3 : decode cX10_readNext 3 = .ok (.invokevirtual 150, 3) := by decide +kernel
theorem dX10_readNext_6 : decode cX10_readNext 6 = .ok (.ifCond .ne 48, 3) := by decide +kernel
theorem dX10_readNext_9 : decode cX10_readNext 9 = .ok (.aload_n 0, 1) := by decide +kernel
theorem dX10_readNext_10 : decode cX10_readNext 10 = .ok (.ldc 202, 2) := by decide +kernel
theorem dX10_readNext_12 : decode cX10_readNext 12 = .ok (.invokevirtual 150, 3) := by decide +kernel
theorem dX10_readNext_15 : decode cX10_readNext 15 = .ok (.ifCond .ne 39, 3) := by decide +kernel
theorem dX10_readNext_18 : decode cX10_readNext 18 = .ok (.aload_n 0, 1) := by decide +kernel
theorem dX10_readNext_19 : decode cX10_readNext 19 = .ok (.ldc 204, 2) := by decide +kernel
theorem dX10_readNext_21 : decode cX10_readNext 21 = .ok (.invokevirtual 150, 3) := by decide +kernel
theorem dX10_readNext_24 : decode cX10_readNext 24 = .ok (.ifCond .ne 30, 3) := by decide +kernel
theorem dX10_readNext_27 : decode cX10_readNext 27 = .ok (.aload_n 0, 1) := by decide +kernel
theorem dX10_readNext_28 : decode cX10_readNext 28 = .ok (.ldc 206, 2) := by decide +kernel
theorem dX10_readNext_30 : decode cX10_readNext 30 = .ok (.invokevirtual 150, 3) := by decide +kernel
theorem dX10_readNext_33 : decode cX10_readNext 33 = .ok (.ifCond .ne 21, 3) := by decide +kernel
theorem dX10_readNext_36 : decode cX10_readNext 36 = .ok (.aload_n 0, 1) := by decide +kernel
theorem dX10_readNext_37 : decode cX10_readNext 37 = .ok (.ldc 208, 2) := by decide +kernel
theorem dX10_readNext_39 : decode cX10_readNext 39 = .ok (.invokevirtual 150, 3) := by decide +kernel
theorem dX10_readNext_42 : decode cX10_readNext 42 = .ok (.ifCond .ne 12, 3) := by decide +kernel
theorem dX10_readNext_45 : decode cX10_readNext 45 = .ok (.aload_n 0, 1) := by decide +kernel
theorem dX10_readNext_46 : decode cX10_readNext 46 = .ok (.ldc 210, 2) := by decide +kernel
theorem dX10_readNext_48 : decode cX10_readNext 48 = .ok (.invokevirtual 150, 3) := by decide +kernel
theorem dX10_readNext_51 : decode cX10_readNext 51 = .ok (.ifCond .eq 7, 3) := by decide +kernel
theorem dX10_readNext_54 : decode cX10_readNext 54 = .ok (.iconst 1, 1) := by decide +kernel
theorem dX10_readNext_55 : decode cX10_readNext 55 = .ok (.goto 4, 3) := by decide +kernel
theorem dX10_readNext_58 : decode cX10_readNext 58 = .ok (.iconst 0, 1) := by decide +kernel
theorem dX10_readNext_59 : decode cX10_readNext 59 = .ok (.istore_n 1, 1) := by decide +kernel
theorem dX10_readNext_60 : decode cX10_readNext 60 = .ok (.iload_n 1, 1) := by decide +kernel
theorem dX10_readNext_61 : decode cX10_readNext 61 = .ok (.ifCond .ne 8, 3) := by decide +kernel
theorem dX10_readNext_64 : decode cX10_readNext 64 = .ok (.aload_n 0, 1) := by decide +kernel
theorem dX10_readNext_65 : decode cX10_readNext 65 = .ok (.iconst 1, 1) := by decide +kernel
theorem dX10_readNext_66 : decode cX10_readNext 66 = .ok (.invokevirtual 160, 3) := by decide +kernel
theorem dX10_readNext_69 : decode cX10_readNext 69 = .ok (.aload_n 0, 1) := by decide +kernel
theorem dX10_readNext_70 : decode cX10_readNext 70 = .ok (.ldc 200, 2) := by decide +kernel
theorem dX10_readNext_72 : decode cX10_readNext 72 = .ok (.invokevirtual 150, 3) := by decide +kernel
theorem dX10_readNext_75 : decode cX10_readNext 75 = .ok (.ifCond .eq 14, 3) := by decide +kernel
theorem dX10_readNext_78 : decode cX10_readNext 78 = .ok (.aload_n 0, 1) := by decide +kernel
theorem dX10_readNext_79 : decode cX10_readNext 79 = .ok (.getfield 31, 3) := by decide +kernel
theorem dX10_readNext_82 : decode cX10_readNext 82 = .ok (.iconst 0, 1) := by decide +kernel
theorem dX10_readNext_83 : decode cX10_readNext 83 = .ok (.iaload, 1) := by decide +kernel
theorem dX10_readNext_84 : decode cX10_readNext 84 = .ok (.bipush 6, 2) := by decide +kernel
theorem dX10_readNext_86 : decode cX10_readNext 86 = .ok (.if_icmp .eq 62, 3) := by decide +kernel
theorem dX10_readNext_89 : decode cX10_readNext 89 = .ok (.aload_n 0, 1) := by decide +kernel
theorem dX10_readNext_90 : decode cX10_readNext 90 = .ok (.ldc 202, 2) := by decide +kernel
theorem dX10_readNext_92 : decode cX10_readNext 92 = .ok (.invokevirtual 150, 3) := by decide +kernel
theorem dX10_readNext_95 : decode cX10_readNext 95 = .ok (.ifCond .eq 14, 3) := by decide +kernel
theorem dX10_readNext_98 : decode cX10_readNext 98 = .ok (.aload_n 0, 1) := by decide +kernel
theorem dX10_readNext_99 : decode cX10_readNext 99 = .ok (.getfield 31, 3) := by decide +kernel
theorem dX10_readNext_102 : decode cX10_readNext 102 = .ok (.iconst 1, 1) := by decide +kernel
theorem dX10_readNext_103 : decode cX10_readNext 103 = .ok (.iaload, 1) := by decide +kernel
theorem dX10_readNext_104 : decode cX10_readNext 104 = .ok (.bipush 8, 2) := by decide +kernel
theorem dX10_readNext_106 : decode cX10_readNext 106 = .ok (.if_icmp .eq 42, 3) := by decide +kernel
theorem dX10_readNext_109 : decode cX10_readNext 109 = .ok (.aload_n 0, 1) := by decide +kernel
theorem dX10_readNext_110 : decode cX10_readNext 110 = .ok (.ldc 206, 2) := by decide +kernel
theorem dX10_readNext_112 : decode cX10_readNext 112 = .ok (.invokevirtual 150, 3) := by decide +kernel
theorem dX10_readNext_115 : decode cX10_readNext 115 = .ok (.ifCond .eq 13, 3) := by decide +kernel
theorem dX10_readNext_118 : decode cX10_readNext 118 = .ok (.aload_n 0, 1) := by decide +kernel
theorem dX10_readNext_119 : decode cX10_readNext 119 = .ok (.getfield 31, 3) := by decide +kernel
theorem dX10_readNext_122 : decode cX10_readNext 122 = .ok (.iconst 2, 1) := by decide +kernel
theorem dX10_readNext_123 : decode cX10_readNext 123 = .ok (.iaload, 1) := by decide +kernel
theorem dX10_readNext_124 : decode cX10_readNext 124 = .ok (.iconst 3, 1) := by decide +kernel
theorem dX10_readNext_125 : decode cX10_readNext 125 = .ok (.if_icmp .eq 23, 3) := by decide +kernel
theorem dX10_readNext_128 : decode cX10_readNext 128 = .ok (.aload_n 0, 1) := by decide +kernel
theorem dX10_readNext_129 : decode cX10_readNext 129 = .ok (.ldc 208, 2) := by decide +kernel
theorem dX10_readNext_131 : decode cX10_readNext 131 = .ok (.invokevirtual 150, 3) := by decide +kernel
theorem dX10_readNext_134 : decode cX10_readNext 134 = .ok (.ifCond .eq 19, 3) := by decide +kernel
theorem dX10_readNext_137 : decode cX10_readNext 137 = .ok (.aload_n 0, 1) := by decide +kernel
theorem dX10_readNext_138 : decode cX10_readNext 138 = .ok (.getfield 31, 3) := by decide +kernel
theorem dX10_readNext_141 : decode cX10_readNext 141 = .ok (.iconst 3, 1) := by decide +kernel
theorem dX10_readNext_142 : decode cX10_readNext 142 = .ok (.iaload, 1) := by decide +kernel
theorem dX10_readNext_143 : decode cX10_readNext 143 = .ok (.bipush 8, 2) := by decide +kernel
theorem dX10_readNext_145 : decode cX10_readNext 145 = .ok (.if_icmp .ne 8, 3) := by decide +kernel
theorem dX10_readNext_148 : decode cX10_readNext 148 = .ok (.aload_n 0, 1) := by decide +kernel
theorem dX10_readNext_149 : decode cX10_readNext 149 = .ok (.iconst 3, 1) := by decide +kernel
theorem dX10_readNext_150 : decode cX10_readNext 150 = .ok (.invokevirtual 160, 3) := by decide +kernel
theorem dX10_readNext_153 : decode cX10_readNext 153 = .ok (.aload_n 0, 1) := by decide +kernel
theorem dX10_readNext_154 : decode cX10_readNext 154 = .ok (.invokevirtual 137, 3) := by decide +kernel
theorem dX10_readNext_157 : decode cX10_readNext 157 = .ok (.ifCond .ne 4, 3) := by decide +kernel
theorem dX10_readNext_160 : decode cX10_readNext 160 = .ok (.return_, 1) := by decide +kernel
theorem dX10_readNext_161 : decode cX10_readNext 161 = .ok (.aload_n 0, 1) := by decide +kernel
theorem dX10_readNext_162 : decode cX10_readNext 162 = .ok (.ldc 200, 2) := by decide +kernel
theorem dX10_readNext_164 : decode cX10_readNext 164 = .ok (.invokevirtual 157, 3) := by decide +kernel
theorem dX10_readNext_167 : decode cX10_readNext 167 = .ok (.ifCond .eq 10, 3) := by decide +kernel
theorem dX10_readNext_170 : decode cX10_readNext 170 = .ok (.aload_n 0, 1) := by decide +kernel
theorem dX10_readNext_171 : decode cX10_readNext 171 = .ok (.invokevirtual 212, 3) := by decide +kernel
theorem dX10_readNext_174 : decode cX10_readNext 174 = .ok (.goto 127, 3) := by decide +kernel
theorem dX10_readNext_177 : decode cX10_readNext 177 = .ok (.aload_n 0, 1) := by decide +kernel
theorem dX10_readNext_178 : decode cX10_readNext 178 = .ok (.ldc 202, 2) := by decide +kernel
theorem dX10_readNext_180 : decode cX10_readNext 180 = .ok (.invokevirtual 157, 3) := by decide +kernel
theorem dX10_readNext_183 : decode cX10_readNext 183 = .ok (.ifCond .eq 10, 3) := by decide +kernel
theorem dX10_readNext_186 : decode cX10_readNext 186 = .ok (.aload_n 0, 1) := by decide +kernel
theorem dX10_readNext_187 : decode cX10_readNext 187 = .ok (.invokevirtual 215, 3) := by decide +kernel
theorem dX10_readNext_190 : decode cX10_readNext 190 = .ok (.goto 111, 3) := by decide +kernel
theorem dX10_readNext_193 : decode cX10_readNext 193 = .ok (.aload_n 0, 1) := by decide +kernel
theorem dX10_readNext_194 : decode cX10_readNext 194 = .ok (.ldc 204, 2) := by decide +kernel
theorem dX10_readNext_196 : decode cX10_readNext 196 = .ok (.invokevirtual 157, 3) := by decide +kernel
theorem dX10_readNext_199 : decode cX10_readNext 199 = .ok (.ifCond .eq 38, 3) := by decide +kernel
theorem dX10_readNext_202 : decode cX10_readNext 202 = .ok (.aload_n 0, 1) := by decide +kernel
theorem dX10_readNext_203 : decode cX10_readNext 203 = .ok (.iconst 0, 1) := by decide +kernel
theorem dX10_readNext_204 : decode cX10_readNext 204 = .ok (.aload_n 0, 1) := by decide +kernel
theorem dX10_readNext_205 : decode cX10_readNext 205 = .ok (.getfield 31, 3) := by decide +kernel
theorem dX10_readNext_208 : decode cX10_readNext 208 = .ok (.iconst 5, 1) := by decide +kernel
theorem dX10_readNext_209 : decode cX10_readNext 209 = .ok (.iaload, 1) := by decide +kernel
theorem dX10_readNext_210 : decode cX10_readNext 210 = .ok (.iconst 1, 1) := by decide +kernel
theorem dX10_readNext_211 : decode cX10_readNext 211 = .ok (.isub, 1) := by decide +kernel
theorem dX10_readNext_212 : decode cX10_readNext 212 = .ok (.invokevirtual 168, 3) := by decide +kernel
theorem dX10_readNext_215 : decode cX10_readNext 215 = .ok (.istore_n 2, 1) := by decide +kernel
theorem dX10_readNext_216 : decode cX10_readNext 216 = .ok (.aload_n 0, 1) := by decide +kernel
theorem dX10_readNext_217 : decode cX10_readNext 217 = .ok (.getfield 31, 3) := by decide +kernel
theorem dX10_readNext_220 : decode cX10_readNext 220 = .ok (.bipush 78, 2) := by decide +kernel
theorem dX10_readNext_222 : decode cX10_readNext 222 = .ok (.iload_n 2, 1) := by decide +kernel
theorem dX10_readNext_223 : decode cX10_readNext 223 = .ok (.iadd, 1) := by decide +kernel
theorem dX10_readNext_224 : decode cX10_readNext 224 = .ok (.aload_n 0, 1) := by decide +kernel
theorem dX10_readNext_225 : decode cX10_readNext 225 = .ok (.ldc 218, 2) := by decide +kernel
theorem dX10_readNext_227 : decode cX10_readNext 227 = .ok (.iconst 0, 1) := by decide +kernel
theorem dX10_readNext_228 : decode cX10_readNext 228 = .ok (.bipush 99, 2) := by decide +kernel
theorem dX10_readNext_230 : decode cX10_readNext 230 = .ok (.invokevirtual 173, 3) := by decide +kernel
theorem dX10_readNext_233 : decode cX10_readNext 233 = .ok (.iastore, 1) := by decide +kernel
theorem dX10_readNext_234 : decode cX10_readNext 234 = .ok (.goto 67, 3) := by decide +kernel
theorem dX10_readNext_237 : decode cX10_readNext 237 = .ok (.aload_n 0, 1) := by decide +kernel
theorem dX10_readNext_238 : decode cX10_readNext 238 = .ok (.ldc 206, 2) := by decide +kernel
theorem dX10_readNext_240 : decode cX10_readNext 240 = .ok (.invokevirtual 157, 3) := by decide +kernel
theorem dX10_readNext_243 : decode cX10_readNext 243 = .ok (.ifCond .eq 10, 3) := by decide +kernel
theorem dX10_readNext_246 : decode cX10_readNext 246 = .ok (.aload_n 0, 1) := by decide +kernel
theorem dX10_readNext_247 : decode cX10_readNext 247 = .ok (.invokevirtual 219, 3) := by decide +kernel
theorem dX10_readNext_250 : decode cX10_readNext 250 = .ok (.goto 51, 3) := by decide +kernel
theorem dX10_readNext_253 : decode cX10_readNext 253 = .ok (.aload_n 0, 1) := by decide +kernel
theorem dX10_readNext_254 : decode cX10_readNext 254 = .ok (.ldc 208, 2) := by decide +kernel
theorem dX10_readNext_256 : decode cX10_readNext 256 = .ok (.invokevirtual 157, 3) := by decide +kernel
theorem dX10_readNext_259 : decode cX10_readNext 259 = .ok (.ifCond .eq 10, 3) := by decide +kernel
theorem dX10_readNext_262 : decode cX10_readNext 262 = .ok (.aload_n 0, 1) := by decide +kernel
theorem dX10_readNext_263 : decode cX10_readNext 263 = .ok (.invokevirtual 222, 3) := by decide +kernel
theorem dX10_readNext_266 : decode cX10_readNext 266 = .ok (.goto 35, 3) := by decide +kernel
theorem dX10_readNext_269 : decode cX10_readNext 269 = .ok (.aload_n 0, 1) := by decide +kernel
theorem dX10_readNext_270 : decode cX10_readNext 270 = .ok (.invokevirtual 154, 3) := by decide +kernel
theorem dX10_readNext_273 : decode cX10_readNext 273 = .ok (.aload_n 0, 1) := by decide +kernel
theorem dX10_readNext_274 : decode cX10_readNext 274 = .ok (.invokevirtual 182, 3) := by decide +kernel
theorem dX10_readNext_277 : decode cX10_readNext 277 = .ok (.istore_n 2, 1) := by decide +kernel
theorem dX10_readNext_278 : decode cX10_readNext 278 = .ok (.aload_n 0, 1) := by decide +kernel
theorem dX10_readNext_279 : decode cX10_readNext 279 = .ok (.getfield 31, 3) := by decide +kernel
theorem dX10_readNext_282 : decode cX10_readNext 282 = .ok (.bipush 8, 2) := by decide +kernel
theorem dX10_readNext_284 : decode cX10_readNext 284 = .ok (.iconst 5, 1) := by decide +kernel
theorem dX10_readNext_285 : decode cX10_readNext 285 = .ok (.iload_n 2, 1) := by decide +kernel
theorem dX10_readNext_286 : decode cX10_readNext 286 = .ok (.imul, 1) := by decide +kernel
theorem dX10_readNext_287 : decode cX10_readNext 287 = .ok (.iadd, 1) := by decide +kernel
theorem dX10_readNext_288 : decode cX10_readNext 288 = .ok (.iconst 4, 1) := by decide +kernel
theorem dX10_readNext_289 : decode cX10_readNext 289 = .ok (.iadd, 1) := by decide +kernel
theorem dX10_readNext_290 : decode cX10_readNext 290 = .ok (.aload_n 0, 1) := by decide +kernel
theorem dX10_readNext_291 : decode cX10_readNext 291 = .ok (.ldc 225, 2) := by decide +kernel
theorem dX10_readNext_293 : decode cX10_readNext 293 = .ok (.iconst 0, 1) := by decide +kernel
theorem dX10_readNext_294 : decode cX10_readNext 294 = .ok (.sipush 9999, 3) := by decide +kernel
theorem dX10_readNext_297 : decode cX10_readNext 297 = .ok (.invokevirtual 173, 3) := by decide +kernel
theorem dX10_readNext_300 : decode cX10_readNext 300 = .ok (.iastore, 1) := by decide +kernel
theorem dX10_readNext_301 : decode cX10_readNext 301 = .ok (.return_, 1) := by decide +kernel
theorem dX10_readLine_0 : decode cX10_readLine 0 = .ok (.aload_n 0, 1) := by decide +kernel
theorem dX10_readLine_1 : decode cX10_readLine 1 = .ok (.getfield 31, 3) := by decide +kernel
theorem dX10_readLine_4 : decode cX10_readLine 4 = .ok (.iconst 4, 1) := by decide +kernel
theorem dX10_readLine_5 : decode cX10_readLine 5 = .ok (.iaload, 1) := by decide +kernel
theorem dX10_readLine_6 : decode cX10_readLine 6 = .ok (.ifCond .ne 65, 3) := by decide +kernel
theorem dX10_readLine_9 : decode cX10_readLine 9 = .ok (.aload_n 0, 1) := by decide +kernel
theorem dX10_readLine_10 : decode cX10_readLine 10 = .ok (.ldc 227, 2) := by decide +kernel
theorem dX10_readLine_12 : decode cX10_readLine 12 = .ok (.invokevirtual 164, 3) := by decide +kernel
theorem dX10_readLine_15 : decode cX10_readLine 15 = .ok (.aload_n 0, 1) := by decide +kernel
theorem dX10_readLine_16 : decode cX10_readLine 16 = .ok (.getfield 31, 3) := by decide +kernel
theorem dX10_readLine_19 : decode cX10_readLine 19 = .ok (.iconst 5, 1) := by decide +kernel
theorem dX10_readLine_20 : decode cX10_readLine 20 = .ok (.aload_n 0, 1) := by decide +kernel
theorem dX10_readLine_21 : decode cX10_readLine 21 = .ok (.ldc 229, 2) := by decide +kernel
theorem dX10_readLine_23 : decode cX10_readLine 23 = .ok (.iconst 4, 1) := by decide +kernel
theorem dX10_readLine_24 : decode cX10_readLine 24 = .ok (.bipush 30, 2) := by decide +kernel
theorem dX10_readLine_26 : decode cX10_readLine 26 = .ok (.invokevirtual 173, 3) := by decide +kernel
theorem dX10_readLine_29 : decode cX10_readLine 29 = .ok (.iastore, 1) := by decide +kernel
theorem dX10_readLine_30 : decode cX10_readLine 30 = .ok (.aload_n 0, 1) := by decide +kernel
theorem dX10_readLine_31 : decode cX10_readLine 31 = .ok (.getfield 31, 3) := by decide +kernel
theorem dX10_readLine_34 : decode cX10_readLine 34 = .ok (.bipush 6, 2) := by decide +kernel
theorem dX10_readLine_36 : decode cX10_readLine 36 = .ok (.aload_n 0, 1) := by decide +kernel
theorem dX10_readLine_37 : decode cX10_readLine 37 = .ok (.ldc 231, 2) := by decide +kernel
theorem dX10_readLine_39 : decode cX10_readLine 39 = .ok (.iconst 0, 1) := by decide +kernel
theorem dX10_readLine_40 : decode cX10_readLine 40 = .ok (.bipush 100, 2) := by decide +kernel
theorem dX10_readLine_42 : decode cX10_readLine 42 = .ok (.invokevirtual 173, 3) := by decide +kernel
theorem dX10_readLine_45 : decode cX10_readLine 45 = .ok (.iastore, 1) := by decide +kernel
theorem dX10_readLine_46 : decode cX10_readLine 46 = .ok (.aload_n 0, 1) := by decide +kernel
theorem dX10_readLine_47 : decode cX10_readLine 47 = .ok (.getfield 31, 3) := by decide +kernel
theorem dX10_readLine_50 : decode cX10_readLine 50 = .ok (.bipush 7, 2) := by decide +kernel
theorem dX10_readLine_52 : decode cX10_readLine 52 = .ok (.aload_n 0, 1) := by decide +kernel
theorem dX10_readLine_53 : decode cX10_readLine 53 = .ok (.ldc 233, 2) := by decide +kernel
theorem dX10_readLine_55 : decode cX10_readLine 55 = .ok (.iconst 0, 1) := by decide +kernel
theorem dX10_readLine_56 : decode cX10_readLine 56 = .ok (.aload_n 0, 1) := by decide +kernel
theorem dX10_readLine_57 : decode cX10_readLine 57 = .ok (.getfield 31, 3) := by decide +kernel
theorem dX10_readLine_60 : decode cX10_readLine 60 = .ok (.iconst 5, 1) := by decide +kernel
theorem dX10_readLine_61 : decode cX10_readLine 61 = .ok (.iaload, 1) := by decide +kernel
theorem dX10_readLine_62 : decode cX10_readLine 62 = .ok (.iconst 1, 1) := by decide +kernel
theorem dX10_readLine_63 : decode cX10_readLine 63 = .ok (.isub, 1) := by decide +kernel
theorem dX10_readLine_64 : decode cX10_readLine 64 = .ok (.invokevirtual 173, 3) := by decide +kernel
theorem dX10_readLine_67 : decode cX10_readLine 67 = .ok (.iastore, 1) := by decide +kernel
theorem dX10_readLine_68 : decode cX10_readLine 68 = .ok (.goto 7, 3) := by decide +kernel
theorem dX10_readLine_71 : decode cX10_readLine 71 = .ok (.aload_n 0, 1) := by decide +kernel
theorem dX10_readLine_72 : decode cX10_readLine 72 = .ok (.invokevirtual 235, 3) := by decide +kernel
theorem dX10_readLine_75 : decode cX10_readLine 75 = .ok (.aload_n 0, 1) := by decide +kernel
theorem dX10_readLine_76 : decode cX10_readLine 76 = .ok (.invokevirtual 137, 3) := by decide +kernel
theorem dX10_readLine_79 : decode cX10_readLine 79 = .ok (.ifCond .eq 16, 3) := by decide +kernel
theorem dX10_readLine_82 : decode cX10_readLine 82 = .ok (.aload_n 0, 1) := by decide +kernel
theorem dX10_readLine_83 : decode cX10_readLine 83 = .ok (.getfield 113, 3) := by decide +kernel
theorem dX10_readLine_86 : decode cX10_readLine 86 = .ok (.iconst 3, 1) := by decide +kernel
theorem dX10_readLine_87 : decode cX10_readLine 87 = .ok (.if_icmp .eq 8, 3) := by decide +kernel
theorem dX10_readLine_90 : decode cX10_readLine 90 = .ok (.aload_n 0, 1) := by decide +kernel
theorem dX10_readLine_91 : decode cX10_readLine 91 = .ok (.iconst 1, 1) := by decide +kernel
theorem dX10_readLine_92 : decode cX10_readLine 92 = .ok (.invokevirtual 160, 3) := by decide +kernel
theorem dX10_readLine_95 : decode cX10_readLine 95 = .ok (.aload_n 0, 1) := by decide +kernel
theorem dX10_readLine_96 : decode cX10_readLine 96 = .ok (.invokevirtual 137, 3) := by decide +kernel
theorem dX10_readLine_99 : decode cX10_readLine 99 = .ok (.ifCond .eq 7, 3) := by decide +kernel
theorem dX10_readLine_102 : decode cX10_readLine 102 = .ok (.aload_n 0, 1) := by decide +kernel
theorem dX10_readLine_103 : decode cX10_readLine 103 = .ok (.invokevirtual 154, 3) := by decide +kernel
theorem dX10_readLine_106 : decode cX10_readLine 106 = .ok (.aload_n 0, 1) := by decide +kernel
theorem dX10_readLine_107 : decode cX10_readLine 107 = .ok (.getfield 31, 3) := by decide +kernel
theorem dX10_readLine_110 : decode cX10_readLine 110 = .ok (.iconst 4, 1) := by decide +kernel
theorem dX10_readLine_111 : decode cX10_readLine 111 = .ok (.dup2, 1) := by decide +kernel
theorem dX10_readLine_112 : decode cX10_readLine 112 = .ok (.iaload, 1) := by decide +kernel
theorem dX10_readLine_113 : decode cX10_readLine 113 = .ok (.iconst 1, 1) := by decide +kernel
theorem dX10_readLine_114 : decode cX10_readLine 114 = .ok (.iadd, 1) := by decide +kernel
theorem dX10_readLine_115 : decode cX10_readLine 115 = .ok (.iastore, 1) := by decide +kernel
theorem dX10_readLine_116 : decode cX10_readLine 116 = .ok (.return_, 1) := by decide +kernel
theorem dX10_plain_0 : decode cX10_plain 0 = .ok (.aload_n 0, 1) := by decide +kernel
theorem dX10_plain_1 : decode cX10_plain 1 = .ok (.aload_n 0, 1) := by decide +kernel
theorem dX10_plain_2 : decode cX10_plain 2 = .ok (.getfield 97, 3) := by decide +kernel
theorem dX10_plain_5 : decode cX10_plain 5 = .ok (.putfield 100, 3) := by decide +kernel
theorem dX10_plain_8 : decode cX10_plain 8 = .ok (.aload_n 0, 1) := by decide +kernel
theorem dX10_plain_9 : decode cX10_plain 9 = .ok (.iconst 0, 1) := by decide +kernel
theorem dX10_plain_10 : decode cX10_plain 10 = .ok (.putfield 97, 3) := by decide +kernel
theorem dX10_plain_13 : decode cX10_plain 13 = .ok (.aload_n 0, 1) := by decide +kernel
theorem dX10_plain_14 : decode cX10_plain 14 = .ok (.iconst 0, 1) := by decide +kernel
theorem dX10_plain_15 : decode cX10_plain 15 = .ok (.putfield 103, 3) := by decide +kernel
theorem dX10_plain_18 : decode cX10_plain 18 = .ok (.aload_n 0, 1) := by decide +kernel
theorem dX10_plain_19 : decode cX10_plain 19 = .ok (.iconst 0, 1) := by decide +kernel
theorem dX10_plain_20 : decode cX10_plain 20 = .ok (.putfield 134, 3) := by decide +kernel
theorem dX10_plain_23 : decode cX10_plain 23 = .ok (.aload_n 0, 1) := by decide +kernel
theorem dX10_plain_24 : decode cX10_plain 24 = .ok (.iconst (-1), 1) := by decide +kernel
theorem dX10_plain_25 : decode cX10_plain 25 = .ok (.putfield 27, 3) := by decide +kernel
theorem dX10_plain_28 : decode cX10_plain 28 = .ok (.iconst 0, 1) := by decide +kernel
theorem dX10_plain_29 : decode cX10_plain 29 = .ok (.istore_n 1, 1) := by decide +kernel
theorem dX10_plain_30 : decode cX10_plain 30 = .ok (.iload_n 1, 1) := by decide +kernel
theorem dX10_plain_31 : decode cX10_plain 31 = .ok (.sipush 160, 3) := by decide +kernel
theorem dX10_plain_34 : decode cX10_plain 34 = .ok (.if_icmp .ge 16, 3) := by decide +kernel
theorem dX10_plain_37 : decode cX10_plain 37 = .ok (.aload_n 0, 1) := by decide +kernel
theorem dX10_plain_38 : decode cX10_plain 38 = .ok (.getfield 31, 3) := by decide +kernel
theorem dX10_plain_41 : decode cX10_plain 41 = .ok (.iload_n 1, 1) := by decide +kernel
theorem dX10_plain_42 : decode cX10_plain 42 = .ok (.iconst 0, 1) := by decide +kernel
theorem dX10_plain_43 : decode cX10_plain 43 = .ok (.iastore, 1) := by decide +kernel
theorem dX10_plain_44 : decode cX10_plain 44 = .ok (.iinc 1 1, 3) := by decide +kernel
theorem dX10_plain_47 : decode cX10_plain 47 = .ok (.goto (-17), 3) := by decide +kernel
theorem dX10_plain_50 : decode cX10_plain 50 = .ok (.aload_n 0, 1) := by decide +kernel
theorem dX10_plain_51 : decode cX10_plain 51 = .ok (.invokevirtual 154, 3) := by decide +kernel
theorem dX10_plain_54 : decode cX10_plain 54 = .ok (.aload_n 0, 1) := by decide +kernel
theorem dX10_plain_55 : decode cX10_plain 55 = .ok (.invokevirtual 137, 3) := by decide +kernel
theorem dX10_plain_58 : decode cX10_plain 58 = .ok (.ifCond .eq 17, 3) := by decide +kernel
theorem dX10_plain_61 : decode cX10_plain 61 = .ok (.aload_n 0, 1) := by decide +kernel
theorem dX10_plain_62 : decode cX10_plain 62 = .ok (.getfield 113, 3) := by decide +kernel
theorem dX10_plain_65 : decode cX10_plain 65 = .ok (.ifCond .eq 10, 3) := by decide +kernel
theorem dX10_plain_68 : decode cX10_plain 68 = .ok (.aload_n 0, 1) := by decide +kernel
theorem dX10_plain_69 : decode cX10_plain 69 = .ok (.invokevirtual 238, 3) := by decide +kernel
theorem dX10_plain_72 : decode cX10_plain 72 = .ok (.goto (-18), 3) := by decide +kernel
theorem dX10_plain_75 : decode cX10_plain 75 = .ok (.aload_n 0, 1) := by decide +kernel
theorem dX10_plain_76 : decode cX10_plain 76 = .ok (.invokevirtual 137, 3) := by decide +kernel
theorem dX10_plain_79 : decode cX10_plain 79 = .ok (.ifCond .ne 6, 3) := by decide +kernel
theorem dX10_plain_82 : decode cX10_plain 82 = .ok (.bipush (-4), 2) := by decide +kernel
theorem dX10_plain_84 : decode cX10_plain 84 = .ok (.ireturn, 1) := by decide +kernel
theorem dX10_plain_85 : decode cX10_plain 85 = .ok (.iconst 0, 1) := by decide +kernel
theorem dX10_plain_86 : decode cX10_plain 86 = .ok (.istore_n 1, 1) := by decide +kernel
theorem dX10_plain_87 : decode cX10_plain 87 = .ok (.iload_n 1, 1) := by decide +kernel
theorem dX10_plain_88 : decode cX10_plain 88 = .ok (.sipush 160, 3) := by decide +kernel
theorem dX10_plain_91 : decode cX10_plain 91 = .ok (.if_icmp .ge 21, 3) := by decide +kernel
theorem dX10_plain_94 : decode cX10_plain 94 = .ok (.aload_n 0, 1) := by decide +kernel
theorem dX10_plain_95 : decode cX10_plain 95 = .ok (.getfield 9, 3) := by decide +kernel
theorem dX10_plain_98 : decode cX10_plain 98 = .ok (.iload_n 1, 1) := by decide +kernel
theorem dX10_plain_99 : decode cX10_plain 99 = .ok (.aload_n 0, 1) := by decide +kernel
theorem dX10_plain_100 : decode cX10_plain 100 = .ok (.getfield 31, 3) := by decide +kernel
theorem dX10_plain_103 : decode cX10_plain 103 = .ok (.iload_n 1, 1) := by decide +kernel
theorem dX10_plain_104 : decode cX10_plain 104 = .ok (.iaload, 1) := by decide +kernel
theorem dX10_plain_105 : decode cX10_plain 105 = .ok (.iastore, 1) := by decide +kernel
theorem dX10_plain_106 : decode cX10_plain 106 = .ok (.iinc 1 1, 3) := by decide +kernel
theorem dX10_plain_109 : decode cX10_plain 109 = .ok (.goto (-22), 3) := by decide +kernel
theorem dX10_plain_112 : decode cX10_plain 112 = .ok (.aload_n 0, 1) := by decide +kernel
theorem dX10_plain_113 : decode cX10_plain 113 = .ok (.getfield 9, 3) := by decide +kernel
theorem dX10_plain_116 : decode cX10_plain 116 = .ok (.iconst 4, 1) := by decide +kernel
theorem dX10_plain_117 : decode cX10_plain 117 = .ok (.iaload, 1) := by decide +kernel
theorem dX10_plain_118 : decode cX10_plain 118 = .ok (.ireturn, 1) := by decide +kernel
theorem dX10_room_0 : decode cX10_room 0 = .ok (.aload_n 0, 1) := by decide +kernel
theorem dX10_room_1 : decode cX10_room 1 = .ok (.iload_n 1, 1) := by decide +kernel
theorem dX10_room_2 : decode cX10_room 2 = .ok (.iconst 0, 1) := by decide +kernel
theorem dX10_room_3 : decode cX10_room 3 = .ok (.invokevirtual 241, 3) := by decide +kernel
theorem dX10_room_6 : decode cX10_room 6 = .ok (.aload_n 0, 1) := by decide +kernel
theorem dX10_room_7 : decode cX10_room 7 = .ok (.getfield 34, 3) := by decide +kernel
theorem dX10_room_10 : decode cX10_room 10 = .ok (.iload_n 1, 1) := by decide +kernel
theorem dX10_room_11 : decode cX10_room 11 = .ok (.iaload, 1) := by decide +kernel
theorem dX10_room_12 : decode cX10_room 12 = .ok (.isub, 1) := by decide +kernel
theorem dX10_room_13 : decode cX10_room 13 = .ok (.ireturn, 1) := by decide +kernel
theorem dX10_owed_0 : decode cX10_owed 0 = .ok (.iload_n 1, 1) := by decide +kernel
theorem dX10_owed_1 : decode cX10_owed 1 = .ok (.iload_n 1, 1) := by decide +kernel
theorem dX10_owed_2 : decode cX10_owed 2 = .ok (.aload_n 0, 1) := by decide +kernel
theorem dX10_owed_3 : decode cX10_owed 3 = .ok (.getfield 9, 3) := by decide +kernel
theorem dX10_owed_6 : decode cX10_owed 6 = .ok (.bipush 6, 2) := by decide +kernel
theorem dX10_owed_8 : decode cX10_owed 8 = .ok (.iaload, 1) := by decide +kernel
theorem dX10_owed_9 : decode cX10_owed 9 = .ok (.imul, 1) := by decide +kernel
theorem dX10_owed_10 : decode cX10_owed 10 = .ok (.bipush 99, 2) := by decide +kernel
theorem dX10_owed_12 : decode cX10_owed 12 = .ok (.iadd, 1) := by decide +kernel
theorem dX10_owed_13 : decode cX10_owed 13 = .ok (.bipush 100, 2) := by decide +kernel
theorem dX10_owed_15 : decode cX10_owed 15 = .ok (.idiv, 1) := by decide +kernel
theorem dX10_owed_16 : decode cX10_owed 16 = .ok (.iadd, 1) := by decide +kernel
theorem dX10_owed_17 : decode cX10_owed 17 = .ok (.ireturn, 1) := by decide +kernel
theorem dX10_takerNow_0 : decode cX10_takerNow 0 = .ok (.aload_n 0, 1) := by decide +kernel
theorem dX10_takerNow_1 : decode cX10_takerNow 1 = .ok (.getfield 243, 3) := by decide +kernel
theorem dX10_takerNow_4 : decode cX10_takerNow 4 = .ok (.iload_n 1, 1) := by decide +kernel
theorem dX10_takerNow_5 : decode cX10_takerNow 5 = .ok (.ishr, 1) := by decide +kernel
theorem dX10_takerNow_6 : decode cX10_takerNow 6 = .ok (.iconst 1, 1) := by decide +kernel
theorem dX10_takerNow_7 : decode cX10_takerNow 7 = .ok (.iand, 1) := by decide +kernel
theorem dX10_takerNow_8 : decode cX10_takerNow 8 = .ok (.ifCond .ne 7, 3) := by decide +kernel
theorem dX10_takerNow_11 : decode cX10_takerNow 11 = .ok (.iconst (-1), 1) := by decide +kernel
theorem dX10_takerNow_12 : decode cX10_takerNow 12 = .ok (.goto 13, 3) := by decide +kernel
theorem dX10_takerNow_15 : decode cX10_takerNow 15 = .ok (.aload_n 0, 1) := by decide +kernel
theorem dX10_takerNow_16 : decode cX10_takerNow 16 = .ok (.getfield 9, 3) := by decide +kernel
theorem dX10_takerNow_19 : decode cX10_takerNow 19 = .ok (.sipush 157, 3) := by decide +kernel
theorem dX10_takerNow_22 : decode cX10_takerNow 22 = .ok (.iload_n 1, 1) := by decide +kernel
theorem dX10_takerNow_23 : decode cX10_takerNow 23 = .ok (.iadd, 1) := by decide +kernel
theorem dX10_takerNow_24 : decode cX10_takerNow 24 = .ok (.iaload, 1) := by decide +kernel
theorem dX10_takerNow_25 : decode cX10_takerNow 25 = .ok (.ireturn, 1) := by decide +kernel
theorem dX10_wrongIn_0 : decode cX10_wrongIn 0 = .ok (.aload_n 0, 1) := by decide +kernel
theorem dX10_wrongIn_1 : decode cX10_wrongIn 1 = .ok (.aload_n 0, 1) := by decide +kernel
theorem dX10_wrongIn_2 : decode cX10_wrongIn 2 = .ok (.getfield 246, 3) := by decide +kernel
theorem dX10_wrongIn_5 : decode cX10_wrongIn 5 = .ok (.iconst (-1), 1) := by decide +kernel
theorem dX10_wrongIn_6 : decode cX10_wrongIn 6 = .ok (.if_icmp .ne 7, 3) := by decide +kernel
theorem dX10_wrongIn_9 : decode cX10_wrongIn 9 = .ok (.iload_n 1, 1) := by decide +kernel
theorem dX10_wrongIn_10 : decode cX10_wrongIn 10 = .ok (.goto 7, 3) := by decide +kernel
theorem dX10_wrongIn_13 : decode cX10_wrongIn 13 = .ok (.aload_n 0, 1) := by decide +kernel
theorem dX10_wrongIn_14 : decode cX10_wrongIn 14 = .ok (.getfield 246, 3) := by decide +kernel
theorem dX10_wrongIn_17 : decode cX10_wrongIn 17 = .ok (.putfield 246, 3) := by decide +kernel
theorem dX10_wrongIn_20 : decode cX10_wrongIn 20 = .ok (.return_, 1) := by decide +kernel
theorem dX10_floodsIn_0 : decode cX10_floodsIn 0 = .ok (.iconst 0, 1) := by decide +kernel
theorem dX10_floodsIn_1 : decode cX10_floodsIn 1 = .ok (.istore_n 2, 1) := by decide +kernel
theorem dX10_floodsIn_2 : decode cX10_floodsIn 2 = .ok (.iload_n 2, 1) := by decide +kernel
theorem dX10_floodsIn_3 : decode cX10_floodsIn 3 = .ok (.aload_n 0, 1) := by decide +kernel
theorem dX10_floodsIn_4 : decode cX10_floodsIn 4 = .ok (.getfield 9, 3) := by decide +kernel
theorem dX10_floodsIn_7 : decode cX10_floodsIn 7 = .ok (.iconst 2, 1) := by decide +kernel
theorem dX10_floodsIn_8 : decode cX10_floodsIn 8 = .ok (.iaload, 1) := by decide +kernel
theorem dX10_floodsIn_9 : decode cX10_floodsIn 9 = .ok (.if_icmp .ge 100, 3) := by decide +kernel
theorem dX10_floodsIn_12 : decode cX10_floodsIn 12 = .ok (.aload_n 0, 1) := by decide +kernel
theorem dX10_floodsIn_13 : decode cX10_floodsIn 13 = .ok (.iload_n 2, 1) := by decide +kernel
theorem dX10_floodsIn_14 : decode cX10_floodsIn 14 = .ok (.invokevirtual 249, 3) := by decide +kernel
theorem dX10_floodsIn_17 : decode cX10_floodsIn 17 = .ok (.istore_n 3, 1) := by decide +kernel
theorem dX10_floodsIn_18 : decode cX10_floodsIn 18 = .ok (.aload_n 0, 1) := by decide +kernel
theorem dX10_floodsIn_19 : decode cX10_floodsIn 19 = .ok (.iload_n 2, 1) := by decide +kernel
theorem dX10_floodsIn_20 : decode cX10_floodsIn 20 = .ok (.iconst 0, 1) := by decide +kernel
theorem dX10_floodsIn_21 : decode cX10_floodsIn 21 = .ok (.invokevirtual 252, 3) := by decide +kernel
theorem dX10_floodsIn_24 : decode cX10_floodsIn 24 = .ok (.iload_n 1, 1) := by decide +kernel
theorem dX10_floodsIn_25 : decode cX10_floodsIn 25 = .ok (.if_icmp .ne 78, 3) := by decide +kernel
theorem dX10_floodsIn_28 : decode cX10_floodsIn 28 = .ok (.iload_n 3, 1) := by decide +kernel
theorem dX10_floodsIn_29 : decode cX10_floodsIn 29 = .ok (.iconst (-1), 1) := by decide +kernel
theorem dX10_floodsIn_30 : decode cX10_floodsIn 30 = .ok (.if_icmp .ne 6, 3) := by decide +kernel
theorem dX10_floodsIn_33 : decode cX10_floodsIn 33 = .ok (.goto 70, 3) := by decide +kernel
theorem dX10_floodsIn_36 : decode cX10_floodsIn 36 = .ok (.aload_n 0, 1) := by decide +kernel
theorem dX10_floodsIn_37 : decode cX10_floodsIn 37 = .ok (.getfield 40, 3) := by decide +kernel
theorem dX10_floodsIn_40 : decode cX10_floodsIn 40 = .ok (.iconst 3, 1) := by decide +kernel
theorem dX10_floodsIn_41 : decode cX10_floodsIn 41 = .ok (.iload_n 2, 1) := by decide +kernel
theorem dX10_floodsIn_42 : decode cX10_floodsIn 42 = .ok (.imul, 1) := by decide +kernel
theorem dX10_floodsIn_43 : decode cX10_floodsIn 43 = .ok (.iconst 0, 1) := by decide +kernel
theorem dX10_floodsIn_44 : decode cX10_floodsIn 44 = .ok (.iadd, 1) := by decide +kernel
theorem dX10_floodsIn_45 : decode cX10_floodsIn 45 = .ok (.aload_n 0, 1) := by decide +kernel
theorem dX10_floodsIn_46 : decode cX10_floodsIn 46 = .ok (.iload_n 2, 1) := by decide +kernel
theorem dX10_floodsIn_47 : decode cX10_floodsIn 47 = .ok (.iconst 1, 1) := by decide +kernel
theorem dX10_floodsIn_48 : decode cX10_floodsIn 48 = .ok (.invokevirtual 252, 3) := by decide +kernel
theorem dX10_floodsIn_51 : decode cX10_floodsIn 51 = .ok (.aload_n 0, 1) := by decide +kernel
theorem dX10_floodsIn_52 : decode cX10_floodsIn 52 = .ok (.iload_n 3, 1) := by decide +kernel
theorem dX10_floodsIn_53 : decode cX10_floodsIn 53 = .ok (.invokevirtual 255, 3) := by decide +kernel
theorem dX10_floodsIn_56 : decode cX10_floodsIn 56 = .ok (.invokestatic 128, 3) := by decide +kernel
theorem dX10_floodsIn_59 : decode cX10_floodsIn 59 = .ok (.iastore, 1) := by decide +kernel
theorem dX10_floodsIn_60 : decode cX10_floodsIn 60 = .ok (.aload_n 0, 1) := by decide +kernel
theorem dX10_floodsIn_61 : decode cX10_floodsIn 61 = .ok (.getfield 40, 3) := by decide +kernel
theorem dX10_floodsIn_64 : decode cX10_floodsIn 64 = .ok (.iconst 3, 1) := by decide +kernel
theorem dX10_floodsIn_65 : decode cX10_floodsIn 65 = .ok (.iload_n 2, 1) := by decide +kernel
theorem dX10_floodsIn_66 : decode cX10_floodsIn 66 = .ok (.imul, 1) := by decide +kernel
theorem dX10_floodsIn_67 : decode cX10_floodsIn 67 = .ok (.iconst 1, 1) := by decide +kernel
theorem dX10_floodsIn_68 : decode cX10_floodsIn 68 = .ok (.iadd, 1) := by decide +kernel
theorem dX10_floodsIn_69 : decode cX10_floodsIn 69 = .ok (.aload_n 0, 1) := by decide +kernel
theorem dX10_floodsIn_70 : decode cX10_floodsIn 70 = .ok (.aload_n 0, 1) := by decide +kernel
theorem dX10_floodsIn_71 : decode cX10_floodsIn 71 = .ok (.getfield 40, 3) := by decide +kernel
theorem dX10_floodsIn_74 : decode cX10_floodsIn 74 = .ok (.iconst 3, 1) := by decide +kernel
theorem dX10_floodsIn_75 : decode cX10_floodsIn 75 = .ok (.iload_n 2, 1) := by decide +kernel
theorem dX10_floodsIn_76 : decode cX10_floodsIn 76 = .ok (.imul, 1) := by decide +kernel
theorem dX10_floodsIn_77 : decode cX10_floodsIn 77 = .ok (.iconst 0, 1) := by decide +kernel
theorem dX10_floodsIn_78 : decode cX10_floodsIn 78 = .ok (.iadd, 1) := by decide +kernel
theorem dX10_floodsIn_79 : decode cX10_floodsIn 79 = .ok (.iaload, 1) := by decide +kernel
theorem dX10_floodsIn_80 : decode cX10_floodsIn 80 = .ok (.invokevirtual 258, 3) := by decide +kernel
theorem dX10_floodsIn_83 : decode cX10_floodsIn 83 = .ok (.iastore, 1) := by decide +kernel
theorem dX10_floodsIn_84 : decode cX10_floodsIn 84 = .ok (.aload_n 0, 1) := by decide +kernel
theorem dX10_floodsIn_85 : decode cX10_floodsIn 85 = .ok (.getfield 34, 3) := by decide +kernel
theorem dX10_floodsIn_88 : decode cX10_floodsIn 88 = .ok (.iload_n 3, 1) := by decide +kernel
theorem dX10_floodsIn_89 : decode cX10_floodsIn 89 = .ok (.dup2, 1) := by decide +kernel
theorem dX10_floodsIn_90 : decode cX10_floodsIn 90 = .ok (.iaload, 1) := by decide +kernel
theorem dX10_floodsIn_91 : decode cX10_floodsIn 91 = .ok (.aload_n 0, 1) := by decide +kernel
theorem dX10_floodsIn_92 : decode cX10_floodsIn 92 = .ok (.getfield 40, 3) := by decide +kernel
theorem dX10_floodsIn_95 : decode cX10_floodsIn 95 = .ok (.iconst 3, 1) := by decide +kernel
theorem dX10_floodsIn_96 : decode cX10_floodsIn 96 = .ok (.iload_n 2, 1) := by decide +kernel
theorem dX10_floodsIn_97 : decode cX10_floodsIn 97 = .ok (.imul, 1) := by decide +kernel
theorem dX10_floodsIn_98 : decode cX10_floodsIn 98 = .ok (.iconst 0, 1) := by decide +kernel
theorem dX10_floodsIn_99 : decode cX10_floodsIn 99 = .ok (.iadd, 1) := by decide +kernel
theorem dX10_floodsIn_100 : decode cX10_floodsIn 100 = .ok (.iaload, 1) := by decide +kernel
theorem dX10_floodsIn_101 : decode cX10_floodsIn 101 = .ok (.iadd, 1) := by decide +kernel
theorem dX10_floodsIn_102 : decode cX10_floodsIn 102 = .ok (.iastore, 1) := by decide +kernel
theorem dX10_floodsIn_103 : decode cX10_floodsIn 103 = .ok (.iinc 2 1, 3) := by decide +kernel
theorem dX10_floodsIn_106 : decode cX10_floodsIn 106 = .ok (.goto (-104), 3) := by decide +kernel
theorem dX10_floodsIn_109 : decode cX10_floodsIn 109 = .ok (.return_, 1) := by decide +kernel
theorem dX10_loansIn_0 : decode cX10_loansIn 0 = .ok (.iconst 0, 1) := by decide +kernel
theorem dX10_loansIn_1 : decode cX10_loansIn 1 = .ok (.istore_n 2, 1) := by decide +kernel
theorem dX10_loansIn_2 : decode cX10_loansIn 2 = .ok (.iload_n 2, 1) := by decide +kernel
theorem dX10_loansIn_3 : decode cX10_loansIn 3 = .ok (.aload_n 0, 1) := by decide +kernel
theorem dX10_loansIn_4 : decode cX10_loansIn 4 = .ok (.getfield 9, 3) := by decide +kernel
theorem dX10_loansIn_7 : decode cX10_loansIn 7 = .ok (.iconst 3, 1) := by decide +kernel
theorem dX10_loansIn_8 : decode cX10_loansIn 8 = .ok (.iaload, 1) := by decide +kernel
theorem dX10_loansIn_9 : decode cX10_loansIn 9 = .ok (.if_icmp .ge 122, 3) := by decide +kernel
theorem dX10_loansIn_12 : decode cX10_loansIn 12 = .ok (.aload_n 0, 1) := by decide +kernel
theorem dX10_loansIn_13 : decode cX10_loansIn 13 = .ok (.iload_n 2, 1) := by decide +kernel
theorem dX10_loansIn_14 : decode cX10_loansIn 14 = .ok (.iconst 0, 1) := by decide +kernel
theorem dX10_loansIn_15 : decode cX10_loansIn 15 = .ok (.invokevirtual 261, 3) := by decide +kernel
theorem dX10_loansIn_18 : decode cX10_loansIn 18 = .ok (.istore_n 3, 1) := by decide +kernel
theorem dX10_loansIn_19 : decode cX10_loansIn 19 = .ok (.aload_n 0, 1) := by decide +kernel
theorem dX10_loansIn_20 : decode cX10_loansIn 20 = .ok (.iload_n 2, 1) := by decide +kernel
theorem dX10_loansIn_21 : decode cX10_loansIn 21 = .ok (.iconst 1, 1) := by decide +kernel
theorem dX10_loansIn_22 : decode cX10_loansIn 22 = .ok (.invokevirtual 261, 3) := by decide +kernel
theorem dX10_loansIn_25 : decode cX10_loansIn 25 = .ok (.istore 4, 2) := by decide +kernel
theorem dX10_loansIn_27 : decode cX10_loansIn 27 = .ok (.aload_n 0, 1) := by decide +kernel
theorem dX10_loansIn_28 : decode cX10_loansIn 28 = .ok (.iload_n 2, 1) := by decide +kernel
theorem dX10_loansIn_29 : decode cX10_loansIn 29 = .ok (.iconst 3, 1) := by decide +kernel
theorem dX10_loansIn_30 : decode cX10_loansIn 30 = .ok (.invokevirtual 261, 3) := by decide +kernel
theorem dX10_loansIn_33 : decode cX10_loansIn 33 = .ok (.iload_n 1, 1) := by decide +kernel
theorem dX10_loansIn_34 : decode cX10_loansIn 34 = .ok (.if_icmp .ne 91, 3) := by decide +kernel
theorem dX10_loansIn_37 : decode cX10_loansIn 37 = .ok (.iload_n 3, 1) := by decide +kernel
theorem dX10_loansIn_38 : decode cX10_loansIn 38 = .ok (.aload_n 0, 1) := by decide +kernel
theorem dX10_loansIn_39 : decode cX10_loansIn 39 = .ok (.getfield 49, 3) := by decide +kernel
theorem dX10_loansIn_42 : decode cX10_loansIn 42 = .ok (.if_icmp .ne 6, 3) := by decide +kernel
theorem dX10_loansIn_45 : decode cX10_loansIn 45 = .ok (.goto 80, 3) := by decide +kernel
theorem dX10_loansIn_48 : decode cX10_loansIn 48 = .ok (.aload_n 0, 1) := by decide +kernel
theorem dX10_loansIn_49 : decode cX10_loansIn 49 = .ok (.iload_n 2, 1) := by decide +kernel
theorem dX10_loansIn_50 : decode cX10_loansIn 50 = .ok (.iconst 2, 1) := by decide +kernel
theorem dX10_loansIn_51 : decode cX10_loansIn 51 = .ok (.invokevirtual 261, 3) := by decide +kernel
theorem dX10_loansIn_54 : decode cX10_loansIn 54 = .ok (.aload_n 0, 1) := by decide +kernel
theorem dX10_loansIn_55 : decode cX10_loansIn 55 = .ok (.getfield 34, 3) := by decide +kernel
theorem dX10_loansIn_58 : decode cX10_loansIn 58 = .ok (.iload_n 3, 1) := by decide +kernel
theorem dX10_loansIn_59 : decode cX10_loansIn 59 = .ok (.iaload, 1) := by decide +kernel
theorem dX10_loansIn_60 : decode cX10_loansIn 60 = .ok (.aload_n 0, 1) := by decide +kernel
theorem dX10_loansIn_61 : decode cX10_loansIn 61 = .ok (.iload 4, 2) := by decide +kernel
theorem dX10_loansIn_63 : decode cX10_loansIn 63 = .ok (.invokevirtual 255, 3) := by decide +kernel
theorem dX10_loansIn_66 : decode cX10_loansIn 66 = .ok (.invokestatic 128, 3) := by decide +kernel
theorem dX10_loansIn_69 : decode cX10_loansIn 69 = .ok (.invokestatic 128, 3) := by decide +kernel
theorem dX10_loansIn_72 : decode cX10_loansIn 72 = .ok (.istore 5, 2) := by decide +kernel
theorem dX10_loansIn_74 : decode cX10_loansIn 74 = .ok (.aload_n 0, 1) := by decide +kernel
theorem dX10_loansIn_75 : decode cX10_loansIn 75 = .ok (.getfield 43, 3) := by decide +kernel
theorem dX10_loansIn_78 : decode cX10_loansIn 78 = .ok (.iconst 3, 1) := by decide +kernel
theorem dX10_loansIn_79 : decode cX10_loansIn 79 = .ok (.iload_n 2, 1) := by decide +kernel
theorem dX10_loansIn_80 : decode cX10_loansIn 80 = .ok (.imul, 1) := by decide +kernel
theorem dX10_loansIn_81 : decode cX10_loansIn 81 = .ok (.iconst 0, 1) := by decide +kernel
theorem dX10_loansIn_82 : decode cX10_loansIn 82 = .ok (.iadd, 1) := by decide +kernel
theorem dX10_loansIn_83 : decode cX10_loansIn 83 = .ok (.iload 5, 2) := by decide +kernel
theorem dX10_loansIn_85 : decode cX10_loansIn 85 = .ok (.iastore, 1) := by decide +kernel
theorem dX10_loansIn_86 : decode cX10_loansIn 86 = .ok (.aload_n 0, 1) := by decide +kernel
theorem dX10_loansIn_87 : decode cX10_loansIn 87 = .ok (.getfield 43, 3) := by decide +kernel
theorem dX10_loansIn_90 : decode cX10_loansIn 90 = .ok (.iconst 3, 1) := by decide +kernel
theorem dX10_loansIn_91 : decode cX10_loansIn 91 = .ok (.iload_n 2, 1) := by decide +kernel
theorem dX10_loansIn_92 : decode cX10_loansIn 92 = .ok (.imul, 1) := by decide +kernel
theorem dX10_loansIn_93 : decode cX10_loansIn 93 = .ok (.iconst 1, 1) := by decide +kernel
theorem dX10_loansIn_94 : decode cX10_loansIn 94 = .ok (.iadd, 1) := by decide +kernel
theorem dX10_loansIn_95 : decode cX10_loansIn 95 = .ok (.aload_n 0, 1) := by decide +kernel
theorem dX10_loansIn_96 : decode cX10_loansIn 96 = .ok (.iload 5, 2) := by decide +kernel
theorem dX10_loansIn_98 : decode cX10_loansIn 98 = .ok (.invokevirtual 258, 3) := by decide +kernel
theorem dX10_loansIn_101 : decode cX10_loansIn 101 = .ok (.iastore, 1) := by decide +kernel
theorem dX10_loansIn_102 : decode cX10_loansIn 102 = .ok (.aload_n 0, 1) := by decide +kernel
theorem dX10_loansIn_103 : decode cX10_loansIn 103 = .ok (.getfield 34, 3) := by decide +kernel
theorem dX10_loansIn_106 : decode cX10_loansIn 106 = .ok (.iload_n 3, 1) := by decide +kernel
theorem dX10_loansIn_107 : decode cX10_loansIn 107 = .ok (.dup2, 1) := by decide +kernel
theorem dX10_loansIn_108 : decode cX10_loansIn 108 = .ok (.iaload, 1) := by decide +kernel
theorem dX10_loansIn_109 : decode cX10_loansIn 109 = .ok (.iload 5, 2) := by decide +kernel
theorem dX10_loansIn_111 : decode cX10_loansIn 111 = .ok (.isub, 1) := by decide +kernel
theorem dX10_loansIn_112 : decode cX10_loansIn 112 = .ok (.iastore, 1) := by decide +kernel
theorem dX10_loansIn_113 : decode cX10_loansIn 113 = .ok (.aload_n 0, 1) := by decide +kernel
theorem dX10_loansIn_114 : decode cX10_loansIn 114 = .ok (.getfield 34, 3) := by decide +kernel
theorem dX10_loansIn_117 : decode cX10_loansIn 117 = .ok (.iload 4, 2) := by decide +kernel
theorem dX10_loansIn_119 : decode cX10_loansIn 119 = .ok (.dup2, 1) := by decide +kernel
theorem dX10_loansIn_120 : decode cX10_loansIn 120 = .ok (.iaload, 1) := by decide +kernel
theorem dX10_loansIn_121 : decode cX10_loansIn 121 = .ok (.iload 5, 2) := by decide +kernel
theorem dX10_loansIn_123 : decode cX10_loansIn 123 = .ok (.iadd, 1) := by decide +kernel
theorem dX10_loansIn_124 : decode cX10_loansIn 124 = .ok (.iastore, 1) := by decide +kernel
theorem dX10_loansIn_125 : decode cX10_loansIn 125 = .ok (.iinc 2 1, 3) := by decide +kernel
theorem dX10_loansIn_128 : decode cX10_loansIn 128 = .ok (.goto (-126), 3) := by decide +kernel
theorem dX10_loansIn_131 : decode cX10_loansIn 131 = .ok (.return_, 1) := by decide +kernel
theorem dX10_dueIn_0 : decode cX10_dueIn 0 = .ok (.iconst 0, 1) := by decide +kernel
theorem dX10_dueIn_1 : decode cX10_dueIn 1 = .ok (.istore_n 2, 1) := by decide +kernel
theorem dX10_dueIn_2 : decode cX10_dueIn 2 = .ok (.iload_n 2, 1) := by decide +kernel
theorem dX10_dueIn_3 : decode cX10_dueIn 3 = .ok (.aload_n 0, 1) := by decide +kernel
theorem dX10_dueIn_4 : decode cX10_dueIn 4 = .ok (.getfield 9, 3) := by decide +kernel
theorem dX10_dueIn_7 : decode cX10_dueIn 7 = .ok (.iconst 3, 1) := by decide +kernel
theorem dX10_dueIn_8 : decode cX10_dueIn 8 = .ok (.iaload, 1) := by decide +kernel
theorem dX10_dueIn_9 : decode cX10_dueIn 9 = .ok (.if_icmp .ge 122, 3) := by decide +kernel
theorem dX10_dueIn_12 : decode cX10_dueIn 12 = .ok (.aload_n 0, 1) := by decide +kernel
theorem dX10_dueIn_13 : decode cX10_dueIn 13 = .ok (.iload_n 2, 1) := by decide +kernel
theorem dX10_dueIn_14 : decode cX10_dueIn 14 = .ok (.iconst 4, 1) := by decide +kernel
theorem dX10_dueIn_15 : decode cX10_dueIn 15 = .ok (.invokevirtual 261, 3) := by decide +kernel
theorem dX10_dueIn_18 : decode cX10_dueIn 18 = .ok (.iload_n 1, 1) := by decide +kernel
theorem dX10_dueIn_19 : decode cX10_dueIn 19 = .ok (.if_icmp .eq 6, 3) := by decide +kernel
theorem dX10_dueIn_22 : decode cX10_dueIn 22 = .ok (.goto 103, 3) := by decide +kernel
theorem dX10_dueIn_25 : decode cX10_dueIn 25 = .ok (.aload_n 0, 1) := by decide +kernel
theorem dX10_dueIn_26 : decode cX10_dueIn 26 = .ok (.iload_n 2, 1) := by decide +kernel
theorem dX10_dueIn_27 : decode cX10_dueIn 27 = .ok (.iconst 0, 1) := by decide +kernel
theorem dX10_dueIn_28 : decode cX10_dueIn 28 = .ok (.invokevirtual 261, 3) := by decide +kernel
theorem dX10_dueIn_31 : decode cX10_dueIn 31 = .ok (.istore_n 3, 1) := by decide +kernel
theorem dX10_dueIn_32 : decode cX10_dueIn 32 = .ok (.aload_n 0, 1) := by decide +kernel
theorem dX10_dueIn_33 : decode cX10_dueIn 33 = .ok (.iload_n 2, 1) := by decide +kernel
theorem dX10_dueIn_34 : decode cX10_dueIn 34 = .ok (.iconst 1, 1) := by decide +kernel
theorem dX10_dueIn_35 : decode cX10_dueIn 35 = .ok (.invokevirtual 261, 3) := by decide +kernel
theorem dX10_dueIn_38 : decode cX10_dueIn 38 = .ok (.istore 4, 2) := by decide +kernel
theorem dX10_dueIn_40 : decode cX10_dueIn 40 = .ok (.aload_n 0, 1) := by decide +kernel
theorem dX10_dueIn_41 : decode cX10_dueIn 41 = .ok (.getfield 43, 3) := by decide +kernel
theorem dX10_dueIn_44 : decode cX10_dueIn 44 = .ok (.iconst 3, 1) := by decide +kernel
theorem dX10_dueIn_45 : decode cX10_dueIn 45 = .ok (.iload_n 2, 1) := by decide +kernel
theorem dX10_dueIn_46 : decode cX10_dueIn 46 = .ok (.imul, 1) := by decide +kernel
theorem dX10_dueIn_47 : decode cX10_dueIn 47 = .ok (.iconst 1, 1) := by decide +kernel
theorem dX10_dueIn_48 : decode cX10_dueIn 48 = .ok (.iadd, 1) := by decide +kernel
theorem dX10_dueIn_49 : decode cX10_dueIn 49 = .ok (.iaload, 1) := by decide +kernel
theorem dX10_dueIn_50 : decode cX10_dueIn 50 = .ok (.aload_n 0, 1) := by decide +kernel
theorem dX10_dueIn_51 : decode cX10_dueIn 51 = .ok (.getfield 34, 3) := by decide +kernel
theorem dX10_dueIn_54 : decode cX10_dueIn 54 = .ok (.iload 4, 2) := by decide +kernel
theorem dX10_dueIn_56 : decode cX10_dueIn 56 = .ok (.iaload, 1) := by decide +kernel
theorem dX10_dueIn_57 : decode cX10_dueIn 57 = .ok (.aload_n 0, 1) := by decide +kernel
theorem dX10_dueIn_58 : decode cX10_dueIn 58 = .ok (.iload_n 3, 1) := by decide +kernel
theorem dX10_dueIn_59 : decode cX10_dueIn 59 = .ok (.invokevirtual 255, 3) := by decide +kernel
theorem dX10_dueIn_62 : decode cX10_dueIn 62 = .ok (.invokestatic 128, 3) := by decide +kernel
theorem dX10_dueIn_65 : decode cX10_dueIn 65 = .ok (.invokestatic 128, 3) := by decide +kernel
theorem dX10_dueIn_68 : decode cX10_dueIn 68 = .ok (.istore 5, 2) := by decide +kernel
theorem dX10_dueIn_70 : decode cX10_dueIn 70 = .ok (.aload_n 0, 1) := by decide +kernel
theorem dX10_dueIn_71 : decode cX10_dueIn 71 = .ok (.getfield 43, 3) := by decide +kernel
theorem dX10_dueIn_74 : decode cX10_dueIn 74 = .ok (.iconst 3, 1) := by decide +kernel
theorem dX10_dueIn_75 : decode cX10_dueIn 75 = .ok (.iload_n 2, 1) := by decide +kernel
theorem dX10_dueIn_76 : decode cX10_dueIn 76 = .ok (.imul, 1) := by decide +kernel
theorem dX10_dueIn_77 : decode cX10_dueIn 77 = .ok (.iconst 2, 1) := by decide +kernel
theorem dX10_dueIn_78 : decode cX10_dueIn 78 = .ok (.iadd, 1) := by decide +kernel
theorem dX10_dueIn_79 : decode cX10_dueIn 79 = .ok (.iload 5, 2) := by decide +kernel
theorem dX10_dueIn_81 : decode cX10_dueIn 81 = .ok (.iastore, 1) := by decide +kernel
theorem dX10_dueIn_82 : decode cX10_dueIn 82 = .ok (.aload_n 0, 1) := by decide +kernel
theorem dX10_dueIn_83 : decode cX10_dueIn 83 = .ok (.getfield 34, 3) := by decide +kernel
theorem dX10_dueIn_86 : decode cX10_dueIn 86 = .ok (.iload 4, 2) := by decide +kernel
theorem dX10_dueIn_88 : decode cX10_dueIn 88 = .ok (.dup2, 1) := by decide +kernel
theorem dX10_dueIn_89 : decode cX10_dueIn 89 = .ok (.iaload, 1) := by decide +kernel
theorem dX10_dueIn_90 : decode cX10_dueIn 90 = .ok (.iload 5, 2) := by decide +kernel
theorem dX10_dueIn_92 : decode cX10_dueIn 92 = .ok (.isub, 1) := by decide +kernel
theorem dX10_dueIn_93 : decode cX10_dueIn 93 = .ok (.iastore, 1) := by decide +kernel
theorem dX10_dueIn_94 : decode cX10_dueIn 94 = .ok (.aload_n 0, 1) := by decide +kernel
theorem dX10_dueIn_95 : decode cX10_dueIn 95 = .ok (.getfield 34, 3) := by decide +kernel
theorem dX10_dueIn_98 : decode cX10_dueIn 98 = .ok (.iload_n 3, 1) := by decide +kernel
theorem dX10_dueIn_99 : decode cX10_dueIn 99 = .ok (.dup2, 1) := by decide +kernel
theorem dX10_dueIn_100 : decode cX10_dueIn 100 = .ok (.iaload, 1) := by decide +kernel
theorem dX10_dueIn_101 : decode cX10_dueIn 101 = .ok (.iload 5, 2) := by decide +kernel
theorem dX10_dueIn_103 : decode cX10_dueIn 103 = .ok (.iadd, 1) := by decide +kernel
theorem dX10_dueIn_104 : decode cX10_dueIn 104 = .ok (.iastore, 1) := by decide +kernel
theorem dX10_dueIn_105 : decode cX10_dueIn 105 = .ok (.iload 5, 2) := by decide +kernel
theorem dX10_dueIn_107 : decode cX10_dueIn 107 = .ok (.aload_n 0, 1) := by decide +kernel
theorem dX10_dueIn_108 : decode cX10_dueIn 108 = .ok (.getfield 43, 3) := by decide +kernel
theorem dX10_dueIn_111 : decode cX10_dueIn 111 = .ok (.iconst 3, 1) := by decide +kernel
theorem dX10_dueIn_112 : decode cX10_dueIn 112 = .ok (.iload_n 2, 1) := by decide +kernel
theorem dX10_dueIn_113 : decode cX10_dueIn 113 = .ok (.imul, 1) := by decide +kernel
theorem dX10_dueIn_114 : decode cX10_dueIn 114 = .ok (.iconst 1, 1) := by decide +kernel
theorem dX10_dueIn_115 : decode cX10_dueIn 115 = .ok (.iadd, 1) := by decide +kernel
theorem dX10_dueIn_116 : decode cX10_dueIn 116 = .ok (.iaload, 1) := by decide +kernel
theorem dX10_dueIn_117 : decode cX10_dueIn 117 = .ok (.if_icmp .ge 8, 3) := by decide +kernel
theorem dX10_dueIn_120 : decode cX10_dueIn 120 = .ok (.aload_n 0, 1) := by decide +kernel
theorem dX10_dueIn_121 : decode cX10_dueIn 121 = .ok (.iload_n 1, 1) := by decide +kernel
theorem dX10_dueIn_122 : decode cX10_dueIn 122 = .ok (.invokevirtual 264, 3) := by decide +kernel
theorem dX10_dueIn_125 : decode cX10_dueIn 125 = .ok (.iinc 2 1, 3) := by decide +kernel
theorem dX10_dueIn_128 : decode cX10_dueIn 128 = .ok (.goto (-126), 3) := by decide +kernel
theorem dX10_dueIn_131 : decode cX10_dueIn 131 = .ok (.iconst 0, 1) := by decide +kernel
theorem dX10_dueIn_132 : decode cX10_dueIn 132 = .ok (.istore_n 2, 1) := by decide +kernel
theorem dX10_dueIn_133 : decode cX10_dueIn 133 = .ok (.iload_n 2, 1) := by decide +kernel
theorem dX10_dueIn_134 : decode cX10_dueIn 134 = .ok (.aload_n 0, 1) := by decide +kernel
theorem dX10_dueIn_135 : decode cX10_dueIn 135 = .ok (.getfield 9, 3) := by decide +kernel
theorem dX10_dueIn_138 : decode cX10_dueIn 138 = .ok (.iconst 2, 1) := by decide +kernel
theorem dX10_dueIn_139 : decode cX10_dueIn 139 = .ok (.iaload, 1) := by decide +kernel
theorem dX10_dueIn_140 : decode cX10_dueIn 140 = .ok (.if_icmp .ge 108, 3) := by decide +kernel
theorem dX10_dueIn_143 : decode cX10_dueIn 143 = .ok (.iload_n 1, 1) := by decide +kernel
theorem dX10_dueIn_144 : decode cX10_dueIn 144 = .ok (.aload_n 0, 1) := by decide +kernel
theorem dX10_dueIn_145 : decode cX10_dueIn 145 = .ok (.getfield 9, 3) := by decide +kernel
theorem dX10_dueIn_148 : decode cX10_dueIn 148 = .ok (.bipush 7, 2) := by decide +kernel
theorem dX10_dueIn_150 : decode cX10_dueIn 150 = .ok (.iaload, 1) := by decide +kernel
theorem dX10_dueIn_151 : decode cX10_dueIn 151 = .ok (.if_icmp .ne 97, 3) := by decide +kernel
theorem dX10_dueIn_154 : decode cX10_dueIn 154 = .ok (.aload_n 0, 1) := by decide +kernel
theorem dX10_dueIn_155 : decode cX10_dueIn 155 = .ok (.iload_n 2, 1) := by decide +kernel
theorem dX10_dueIn_156 : decode cX10_dueIn 156 = .ok (.invokevirtual 249, 3) := by decide +kernel
theorem dX10_dueIn_159 : decode cX10_dueIn 159 = .ok (.istore_n 3, 1) := by decide +kernel
theorem dX10_dueIn_160 : decode cX10_dueIn 160 = .ok (.iload_n 3, 1) := by decide +kernel
theorem dX10_dueIn_161 : decode cX10_dueIn 161 = .ok (.iconst (-1), 1) := by decide +kernel
theorem dX10_dueIn_162 : decode cX10_dueIn 162 = .ok (.if_icmp .eq 80, 3) := by decide +kernel
theorem dX10_dueIn_165 : decode cX10_dueIn 165 = .ok (.aload_n 0, 1) := by decide +kernel
theorem dX10_dueIn_166 : decode cX10_dueIn 166 = .ok (.iload_n 2, 1) := by decide +kernel
theorem dX10_dueIn_167 : decode cX10_dueIn 167 = .ok (.iconst 0, 1) := by decide +kernel
theorem dX10_dueIn_168 : decode cX10_dueIn 168 = .ok (.invokevirtual 252, 3) := by decide +kernel
theorem dX10_dueIn_171 : decode cX10_dueIn 171 = .ok (.iload_n 1, 1) := by decide +kernel
theorem dX10_dueIn_172 : decode cX10_dueIn 172 = .ok (.if_icmp .le 6, 3) := by decide +kernel
theorem dX10_dueIn_175 : decode cX10_dueIn 175 = .ok (.goto 67, 3) := by decide +kernel
theorem dX10_dueIn_178 : decode cX10_dueIn 178 = .ok (.aload_n 0, 1) := by decide +kernel
theorem dX10_dueIn_179 : decode cX10_dueIn 179 = .ok (.getfield 40, 3) := by decide +kernel
theorem dX10_dueIn_182 : decode cX10_dueIn 182 = .ok (.iconst 3, 1) := by decide +kernel
theorem dX10_dueIn_183 : decode cX10_dueIn 183 = .ok (.iload_n 2, 1) := by decide +kernel
theorem dX10_dueIn_184 : decode cX10_dueIn 184 = .ok (.imul, 1) := by decide +kernel
theorem dX10_dueIn_185 : decode cX10_dueIn 185 = .ok (.iconst 1, 1) := by decide +kernel
theorem dX10_dueIn_186 : decode cX10_dueIn 186 = .ok (.iadd, 1) := by decide +kernel
theorem dX10_dueIn_187 : decode cX10_dueIn 187 = .ok (.iaload, 1) := by decide +kernel
theorem dX10_dueIn_188 : decode cX10_dueIn 188 = .ok (.aload_n 0, 1) := by decide +kernel
theorem dX10_dueIn_189 : decode cX10_dueIn 189 = .ok (.getfield 34, 3) := by decide +kernel
theorem dX10_dueIn_192 : decode cX10_dueIn 192 = .ok (.iload_n 3, 1) := by decide +kernel
theorem dX10_dueIn_193 : decode cX10_dueIn 193 = .ok (.iaload, 1) := by decide +kernel
theorem dX10_dueIn_194 : decode cX10_dueIn 194 = .ok (.invokestatic 128, 3) := by decide +kernel
theorem dX10_dueIn_197 : decode cX10_dueIn 197 = .ok (.istore 4, 2) := by decide +kernel
theorem dX10_dueIn_199 : decode cX10_dueIn 199 = .ok (.aload_n 0, 1) := by decide +kernel
theorem dX10_dueIn_200 : decode cX10_dueIn 200 = .ok (.getfield 40, 3) := by decide +kernel
theorem dX10_dueIn_203 : decode cX10_dueIn 203 = .ok (.iconst 3, 1) := by decide +kernel
theorem dX10_dueIn_204 : decode cX10_dueIn 204 = .ok (.iload_n 2, 1) := by decide +kernel
theorem dX10_dueIn_205 : decode cX10_dueIn 205 = .ok (.imul, 1) := by decide +kernel
theorem dX10_dueIn_206 : decode cX10_dueIn 206 = .ok (.iconst 2, 1) := by decide +kernel
theorem dX10_dueIn_207 : decode cX10_dueIn 207 = .ok (.iadd, 1) := by decide +kernel
theorem dX10_dueIn_208 : decode cX10_dueIn 208 = .ok (.iload 4, 2) := by decide +kernel
theorem dX10_dueIn_210 : decode cX10_dueIn 210 = .ok (.iastore, 1) := by decide +kernel
theorem dX10_dueIn_211 : decode cX10_dueIn 211 = .ok (.aload_n 0, 1) := by decide +kernel
theorem dX10_dueIn_212 : decode cX10_dueIn 212 = .ok (.getfield 34, 3) := by decide +kernel
theorem dX10_dueIn_215 : decode cX10_dueIn 215 = .ok (.iload_n 3, 1) := by decide +kernel
theorem dX10_dueIn_216 : decode cX10_dueIn 216 = .ok (.dup2, 1) := by decide +kernel
theorem dX10_dueIn_217 : decode cX10_dueIn 217 = .ok (.iaload, 1) := by decide +kernel
theorem dX10_dueIn_218 : decode cX10_dueIn 218 = .ok (.iload 4, 2) := by decide +kernel
theorem dX10_dueIn_220 : decode cX10_dueIn 220 = .ok (.isub, 1) := by decide +kernel
theorem dX10_dueIn_221 : decode cX10_dueIn 221 = .ok (.iastore, 1) := by decide +kernel
theorem dX10_dueIn_222 : decode cX10_dueIn 222 = .ok (.iload 4, 2) := by decide +kernel
theorem dX10_dueIn_224 : decode cX10_dueIn 224 = .ok (.aload_n 0, 1) := by decide +kernel
theorem dX10_dueIn_225 : decode cX10_dueIn 225 = .ok (.getfield 40, 3) := by decide +kernel
theorem dX10_dueIn_228 : decode cX10_dueIn 228 = .ok (.iconst 3, 1) := by decide +kernel
theorem dX10_dueIn_229 : decode cX10_dueIn 229 = .ok (.iload_n 2, 1) := by decide +kernel
theorem dX10_dueIn_230 : decode cX10_dueIn 230 = .ok (.imul, 1) := by decide +kernel
theorem dX10_dueIn_231 : decode cX10_dueIn 231 = .ok (.iconst 1, 1) := by decide +kernel
theorem dX10_dueIn_232 : decode cX10_dueIn 232 = .ok (.iadd, 1) := by decide +kernel
theorem dX10_dueIn_233 : decode cX10_dueIn 233 = .ok (.iaload, 1) := by decide +kernel
theorem dX10_dueIn_234 : decode cX10_dueIn 234 = .ok (.if_icmp .ge 8, 3) := by decide +kernel
theorem dX10_dueIn_237 : decode cX10_dueIn 237 = .ok (.aload_n 0, 1) := by decide +kernel
theorem dX10_dueIn_238 : decode cX10_dueIn 238 = .ok (.iload_n 1, 1) := by decide +kernel
theorem dX10_dueIn_239 : decode cX10_dueIn 239 = .ok (.invokevirtual 264, 3) := by decide +kernel
theorem dX10_dueIn_242 : decode cX10_dueIn 242 = .ok (.iinc 2 1, 3) := by decide +kernel
theorem dX10_dueIn_245 : decode cX10_dueIn 245 = .ok (.goto (-112), 3) := by decide +kernel
theorem dX10_dueIn_248 : decode cX10_dueIn 248 = .ok (.return_, 1) := by decide +kernel
theorem dX10_cropsIn_0 : decode cX10_cropsIn 0 = .ok (.iconst 0, 1) := by decide +kernel
theorem dX10_cropsIn_1 : decode cX10_cropsIn 1 = .ok (.istore_n 2, 1) := by decide +kernel
theorem dX10_cropsIn_2 : decode cX10_cropsIn 2 = .ok (.iload_n 2, 1) := by decide +kernel
theorem dX10_cropsIn_3 : decode cX10_cropsIn 3 = .ok (.aload_n 0, 1) := by decide +kernel
theorem dX10_cropsIn_4 : decode cX10_cropsIn 4 = .ok (.getfield 9, 3) := by decide +kernel
theorem dX10_cropsIn_7 : decode cX10_cropsIn 7 = .ok (.iconst 1, 1) := by decide +kernel
theorem dX10_cropsIn_8 : decode cX10_cropsIn 8 = .ok (.iaload, 1) := by decide +kernel
theorem dX10_cropsIn_9 : decode cX10_cropsIn 9 = .ok (.if_icmp .ge 165, 3) := by decide +kernel
theorem dX10_cropsIn_12 : decode cX10_cropsIn 12 = .ok (.iload_n 1, 1) := by decide +kernel
theorem dX10_cropsIn_13 : decode cX10_cropsIn 13 = .ok (.i2l, 1) := by decide +kernel
theorem dX10_cropsIn_14 : decode cX10_cropsIn 14 = .ok (.aload_n 0, 1) := by decide +kernel
theorem dX10_cropsIn_15 : decode cX10_cropsIn 15 = .ok (.iload_n 2, 1) := by decide +kernel
theorem dX10_cropsIn_16 : decode cX10_cropsIn 16 = .ok (.iconst 3, 1) := by decide +kernel
theorem dX10_cropsIn_17 : decode cX10_cropsIn 17 = .ok (.invokevirtual 267, 3) := by decide +kernel
theorem dX10_cropsIn_20 : decode cX10_cropsIn 20 = .ok (.i2l, 1) := by decide +kernel
theorem dX10_cropsIn_21 : decode cX10_cropsIn 21 = .ok (.aload_n 0, 1) := by decide +kernel
theorem dX10_cropsIn_22 : decode cX10_cropsIn 22 = .ok (.iload_n 2, 1) := by decide +kernel
theorem dX10_cropsIn_23 : decode cX10_cropsIn 23 = .ok (.iconst 4, 1) := by decide +kernel
theorem dX10_cropsIn_24 : decode cX10_cropsIn 24 = .ok (.invokevirtual 267, 3) := by decide +kernel
theorem dX10_cropsIn_27 : decode cX10_cropsIn 27 = .ok (.i2l, 1) := by decide +kernel
theorem dX10_cropsIn_28 : decode cX10_cropsIn 28 = .ok (.invokestatic 85, 3) := by decide +kernel
theorem dX10_cropsIn_31 : decode cX10_cropsIn 31 = .ok (.ifCond .ne 6, 3) := by decide +kernel
theorem dX10_cropsIn_34 : decode cX10_cropsIn 34 = .ok (.goto 134, 3) := by decide +kernel
theorem dX10_cropsIn_37 : decode cX10_cropsIn 37 = .ok (.aload_n 0, 1) := by decide +kernel
theorem dX10_cropsIn_38 : decode cX10_cropsIn 38 = .ok (.iload_n 2, 1) := by decide +kernel
theorem dX10_cropsIn_39 : decode cX10_cropsIn 39 = .ok (.iconst 0, 1) := by decide +kernel
theorem dX10_cropsIn_40 : decode cX10_cropsIn 40 = .ok (.invokevirtual 267, 3) := by decide +kernel
theorem dX10_cropsIn_43 : decode cX10_cropsIn 43 = .ok (.istore_n 3, 1) := by decide +kernel
theorem dX10_cropsIn_44 : decode cX10_cropsIn 44 = .ok (.aload_n 0, 1) := by decide +kernel
theorem dX10_cropsIn_45 : decode cX10_cropsIn 45 = .ok (.getfield 34, 3) := by decide +kernel
theorem dX10_cropsIn_48 : decode cX10_cropsIn 48 = .ok (.iload_n 3, 1) := by decide +kernel
theorem dX10_cropsIn_49 : decode cX10_cropsIn 49 = .ok (.iaload, 1) := by decide +kernel
theorem dX10_cropsIn_50 : decode cX10_cropsIn 50 = .ok (.aload_n 0, 1) := by decide +kernel
theorem dX10_cropsIn_51 : decode cX10_cropsIn 51 = .ok (.iload_n 2, 1) := by decide +kernel
theorem dX10_cropsIn_52 : decode cX10_cropsIn 52 = .ok (.iconst 1, 1) := by decide +kernel
theorem dX10_cropsIn_53 : decode cX10_cropsIn 53 = .ok (.invokevirtual 267, 3) := by decide +kernel
theorem dX10_cropsIn_56 : decode cX10_cropsIn 56 = .ok (.if_icmp .lt 55, 3) := by decide +kernel
theorem dX10_cropsIn_59 : decode cX10_cropsIn 59 = .ok (.aload_n 0, 1) := by decide +kernel
theorem dX10_cropsIn_60 : decode cX10_cropsIn 60 = .ok (.getfield 34, 3) := by decide +kernel
theorem dX10_cropsIn_63 : decode cX10_cropsIn 63 = .ok (.iload_n 3, 1) := by decide +kernel
theorem dX10_cropsIn_64 : decode cX10_cropsIn 64 = .ok (.dup2, 1) := by decide +kernel
theorem dX10_cropsIn_65 : decode cX10_cropsIn 65 = .ok (.iaload, 1) := by decide +kernel
theorem dX10_cropsIn_66 : decode cX10_cropsIn 66 = .ok (.aload_n 0, 1) := by decide +kernel
theorem dX10_cropsIn_67 : decode cX10_cropsIn 67 = .ok (.iload_n 2, 1) := by decide +kernel
theorem dX10_cropsIn_68 : decode cX10_cropsIn 68 = .ok (.iconst 1, 1) := by decide +kernel
theorem dX10_cropsIn_69 : decode cX10_cropsIn 69 = .ok (.invokevirtual 267, 3) := by decide +kernel
theorem dX10_cropsIn_72 : decode cX10_cropsIn 72 = .ok (.isub, 1) := by decide +kernel
theorem dX10_cropsIn_73 : decode cX10_cropsIn 73 = .ok (.iastore, 1) := by decide +kernel
theorem dX10_cropsIn_74 : decode cX10_cropsIn 74 = .ok (.aload_n 0, 1) := by decide +kernel
theorem dX10_cropsIn_75 : decode cX10_cropsIn 75 = .ok (.dup, 1) := by decide +kernel
theorem dX10_cropsIn_76 : decode cX10_cropsIn 76 = .ok (.getfield 270, 3) := by decide +kernel
theorem dX10_cropsIn_79 : decode cX10_cropsIn 79 = .ok (.aload_n 0, 1) := by decide +kernel
theorem dX10_cropsIn_80 : decode cX10_cropsIn 80 = .ok (.iload_n 2, 1) := by decide +kernel
theorem dX10_cropsIn_81 : decode cX10_cropsIn 81 = .ok (.iconst 1, 1) := by decide +kernel
theorem dX10_cropsIn_82 : decode cX10_cropsIn 82 = .ok (.invokevirtual 267, 3) := by decide +kernel
theorem dX10_cropsIn_85 : decode cX10_cropsIn 85 = .ok (.iadd, 1) := by decide +kernel
theorem dX10_cropsIn_86 : decode cX10_cropsIn 86 = .ok (.putfield 270, 3) := by decide +kernel
theorem dX10_cropsIn_89 : decode cX10_cropsIn 89 = .ok (.aload_n 0, 1) := by decide +kernel
theorem dX10_cropsIn_90 : decode cX10_cropsIn 90 = .ok (.getfield 46, 3) := by decide +kernel
theorem dX10_cropsIn_93 : decode cX10_cropsIn 93 = .ok (.iconst 3, 1) := by decide +kernel
theorem dX10_cropsIn_94 : decode cX10_cropsIn 94 = .ok (.iload_n 2, 1) := by decide +kernel
theorem dX10_cropsIn_95 : decode cX10_cropsIn 95 = .ok (.imul, 1) := by decide +kernel
theorem dX10_cropsIn_96 : decode cX10_cropsIn 96 = .ok (.iconst 0, 1) := by decide +kernel
theorem dX10_cropsIn_97 : decode cX10_cropsIn 97 = .ok (.iadd, 1) := by decide +kernel
theorem dX10_cropsIn_98 : decode cX10_cropsIn 98 = .ok (.dup2, 1) := by decide +kernel
theorem dX10_cropsIn_99 : decode cX10_cropsIn 99 = .ok (.iaload, 1) := by decide +kernel
theorem dX10_cropsIn_100 : decode cX10_cropsIn 100 = .ok (.aload_n 0, 1) := by decide +kernel
theorem dX10_cropsIn_101 : decode cX10_cropsIn 101 = .ok (.iload_n 2, 1) := by decide +kernel
theorem dX10_cropsIn_102 : decode cX10_cropsIn 102 = .ok (.iconst 2, 1) := by decide +kernel
theorem dX10_cropsIn_103 : decode cX10_cropsIn 103 = .ok (.invokevirtual 267, 3) := by decide +kernel
theorem dX10_cropsIn_106 : decode cX10_cropsIn 106 = .ok (.iadd, 1) := by decide +kernel
theorem dX10_cropsIn_107 : decode cX10_cropsIn 107 = .ok (.iastore, 1) := by decide +kernel
theorem dX10_cropsIn_108 : decode cX10_cropsIn 108 = .ok (.goto 60, 3) := by decide +kernel
theorem dX10_cropsIn_111 : decode cX10_cropsIn 111 = .ok (.aload_n 0, 1) := by decide +kernel
theorem dX10_cropsIn_112 : decode cX10_cropsIn 112 = .ok (.getfield 46, 3) := by decide +kernel
theorem dX10_cropsIn_115 : decode cX10_cropsIn 115 = .ok (.iconst 3, 1) := by decide +kernel
theorem dX10_cropsIn_116 : decode cX10_cropsIn 116 = .ok (.iload_n 2, 1) := by decide +kernel
theorem dX10_cropsIn_117 : decode cX10_cropsIn 117 = .ok (.imul, 1) := by decide +kernel
theorem dX10_cropsIn_118 : decode cX10_cropsIn 118 = .ok (.iconst 1, 1) := by decide +kernel
theorem dX10_cropsIn_119 : decode cX10_cropsIn 119 = .ok (.iadd, 1) := by decide +kernel
theorem dX10_cropsIn_120 : decode cX10_cropsIn 120 = .ok (.dup2, 1) := by decide +kernel
theorem dX10_cropsIn_121 : decode cX10_cropsIn 121 = .ok (.iaload, 1) := by decide +kernel
theorem dX10_cropsIn_122 : decode cX10_cropsIn 122 = .ok (.iconst 1, 1) := by decide +kernel
theorem dX10_cropsIn_123 : decode cX10_cropsIn 123 = .ok (.iadd, 1) := by decide +kernel
theorem dX10_cropsIn_124 : decode cX10_cropsIn 124 = .ok (.iastore, 1) := by decide +kernel
theorem dX10_cropsIn_125 : decode cX10_cropsIn 125 = .ok (.aload_n 0, 1) := by decide +kernel
theorem dX10_cropsIn_126 : decode cX10_cropsIn 126 = .ok (.getfield 46, 3) := by decide +kernel
theorem dX10_cropsIn_129 : decode cX10_cropsIn 129 = .ok (.iconst 3, 1) := by decide +kernel
theorem dX10_cropsIn_130 : decode cX10_cropsIn 130 = .ok (.iload_n 2, 1) := by decide +kernel
theorem dX10_cropsIn_131 : decode cX10_cropsIn 131 = .ok (.imul, 1) := by decide +kernel
theorem dX10_cropsIn_132 : decode cX10_cropsIn 132 = .ok (.iconst 2, 1) := by decide +kernel
theorem dX10_cropsIn_133 : decode cX10_cropsIn 133 = .ok (.iadd, 1) := by decide +kernel
theorem dX10_cropsIn_134 : decode cX10_cropsIn 134 = .ok (.aload_n 0, 1) := by decide +kernel
theorem dX10_cropsIn_135 : decode cX10_cropsIn 135 = .ok (.getfield 46, 3) := by decide +kernel
theorem dX10_cropsIn_138 : decode cX10_cropsIn 138 = .ok (.iconst 3, 1) := by decide +kernel
theorem dX10_cropsIn_139 : decode cX10_cropsIn 139 = .ok (.iload_n 2, 1) := by decide +kernel
theorem dX10_cropsIn_140 : decode cX10_cropsIn 140 = .ok (.imul, 1) := by decide +kernel
theorem dX10_cropsIn_141 : decode cX10_cropsIn 141 = .ok (.iconst 2, 1) := by decide +kernel
theorem dX10_cropsIn_142 : decode cX10_cropsIn 142 = .ok (.iadd, 1) := by decide +kernel
theorem dX10_cropsIn_143 : decode cX10_cropsIn 143 = .ok (.iaload, 1) := by decide +kernel
theorem dX10_cropsIn_144 : decode cX10_cropsIn 144 = .ok (.iconst (-1), 1) := by decide +kernel
theorem dX10_cropsIn_145 : decode cX10_cropsIn 145 = .ok (.if_icmp .ne 7, 3) := by decide +kernel
theorem dX10_cropsIn_148 : decode cX10_cropsIn 148 = .ok (.iload_n 1, 1) := by decide +kernel
theorem dX10_cropsIn_149 : decode cX10_cropsIn 149 = .ok (.goto 13, 3) := by decide +kernel
theorem dX10_cropsIn_152 : decode cX10_cropsIn 152 = .ok (.aload_n 0, 1) := by decide +kernel
theorem dX10_cropsIn_153 : decode cX10_cropsIn 153 = .ok (.getfield 46, 3) := by decide +kernel
theorem dX10_cropsIn_156 : decode cX10_cropsIn 156 = .ok (.iconst 3, 1) := by decide +kernel
theorem dX10_cropsIn_157 : decode cX10_cropsIn 157 = .ok (.iload_n 2, 1) := by decide +kernel
theorem dX10_cropsIn_158 : decode cX10_cropsIn 158 = .ok (.imul, 1) := by decide +kernel
theorem dX10_cropsIn_159 : decode cX10_cropsIn 159 = .ok (.iconst 2, 1) := by decide +kernel
theorem dX10_cropsIn_160 : decode cX10_cropsIn 160 = .ok (.iadd, 1) := by decide +kernel
theorem dX10_cropsIn_161 : decode cX10_cropsIn 161 = .ok (.iaload, 1) := by decide +kernel
theorem dX10_cropsIn_162 : decode cX10_cropsIn 162 = .ok (.iastore, 1) := by decide +kernel
theorem dX10_cropsIn_163 : decode cX10_cropsIn 163 = .ok (.aload_n 0, 1) := by decide +kernel
theorem dX10_cropsIn_164 : decode cX10_cropsIn 164 = .ok (.iload_n 1, 1) := by decide +kernel
theorem dX10_cropsIn_165 : decode cX10_cropsIn 165 = .ok (.invokevirtual 264, 3) := by decide +kernel
theorem dX10_cropsIn_168 : decode cX10_cropsIn 168 = .ok (.iinc 2 1, 3) := by decide +kernel
theorem dX10_cropsIn_171 : decode cX10_cropsIn 171 = .ok (.goto (-169), 3) := by decide +kernel
theorem dX10_cropsIn_174 : decode cX10_cropsIn 174 = .ok (.return_, 1) := by decide +kernel
theorem dX10_losesIn_0 : decode cX10_losesIn 0 = .ok (.iconst 0, 1) := by decide +kernel
theorem dX10_losesIn_1 : decode cX10_losesIn 1 = .ok (.istore_n 2, 1) := by decide +kernel
theorem dX10_losesIn_2 : decode cX10_losesIn 2 = .ok (.iload_n 2, 1) := by decide +kernel
theorem dX10_losesIn_3 : decode cX10_losesIn 3 = .ok (.aload_n 0, 1) := by decide +kernel
theorem dX10_losesIn_4 : decode cX10_losesIn 4 = .ok (.invokevirtual 89, 3) := by decide +kernel
theorem dX10_losesIn_7 : decode cX10_losesIn 7 = .ok (.if_icmp .ge 58, 3) := by decide +kernel
theorem dX10_losesIn_10 : decode cX10_losesIn 10 = .ok (.aload_n 0, 1) := by decide +kernel
theorem dX10_losesIn_11 : decode cX10_losesIn 11 = .ok (.getfield 34, 3) := by decide +kernel
theorem dX10_losesIn_14 : decode cX10_losesIn 14 = .ok (.iload_n 2, 1) := by decide +kernel
theorem dX10_losesIn_15 : decode cX10_losesIn 15 = .ok (.iaload, 1) := by decide +kernel
theorem dX10_losesIn_16 : decode cX10_losesIn 16 = .ok (.aload_n 0, 1) := by decide +kernel
theorem dX10_losesIn_17 : decode cX10_losesIn 17 = .ok (.iload_n 2, 1) := by decide +kernel
theorem dX10_losesIn_18 : decode cX10_losesIn 18 = .ok (.iconst 2, 1) := by decide +kernel
theorem dX10_losesIn_19 : decode cX10_losesIn 19 = .ok (.invokevirtual 241, 3) := by decide +kernel
theorem dX10_losesIn_22 : decode cX10_losesIn 22 = .ok (.aload_n 0, 1) := by decide +kernel
theorem dX10_losesIn_23 : decode cX10_losesIn 23 = .ok (.getfield 9, 3) := by decide +kernel
theorem dX10_losesIn_26 : decode cX10_losesIn 26 = .ok (.bipush 78, 2) := by decide +kernel
theorem dX10_losesIn_28 : decode cX10_losesIn 28 = .ok (.iload_n 1, 1) := by decide +kernel
theorem dX10_losesIn_29 : decode cX10_losesIn 29 = .ok (.iadd, 1) := by decide +kernel
theorem dX10_losesIn_30 : decode cX10_losesIn 30 = .ok (.iaload, 1) := by decide +kernel
theorem dX10_losesIn_31 : decode cX10_losesIn 31 = .ok (.imul, 1) := by decide +kernel
theorem dX10_losesIn_32 : decode cX10_losesIn 32 = .ok (.bipush 100, 2) := by decide +kernel
theorem dX10_losesIn_34 : decode cX10_losesIn 34 = .ok (.idiv, 1) := by decide +kernel
theorem dX10_losesIn_35 : decode cX10_losesIn 35 = .ok (.invokestatic 128, 3) := by decide +kernel
theorem dX10_losesIn_38 : decode cX10_losesIn 38 = .ok (.istore_n 3, 1) := by decide +kernel
theorem dX10_losesIn_39 : decode cX10_losesIn 39 = .ok (.aload_n 0, 1) := by decide +kernel
theorem dX10_losesIn_40 : decode cX10_losesIn 40 = .ok (.getfield 34, 3) := by decide +kernel
theorem dX10_losesIn_43 : decode cX10_losesIn 43 = .ok (.iload_n 2, 1) := by decide +kernel
theorem dX10_losesIn_44 : decode cX10_losesIn 44 = .ok (.dup2, 1) := by decide +kernel
theorem dX10_losesIn_45 : decode cX10_losesIn 45 = .ok (.iaload, 1) := by decide +kernel
theorem dX10_losesIn_46 : decode cX10_losesIn 46 = .ok (.iload_n 3, 1) := by decide +kernel
theorem dX10_losesIn_47 : decode cX10_losesIn 47 = .ok (.isub, 1) := by decide +kernel
theorem dX10_losesIn_48 : decode cX10_losesIn 48 = .ok (.iastore, 1) := by decide +kernel
theorem dX10_losesIn_49 : decode cX10_losesIn 49 = .ok (.aload_n 0, 1) := by decide +kernel
theorem dX10_losesIn_50 : decode cX10_losesIn 50 = .ok (.dup, 1) := by decide +kernel
theorem dX10_losesIn_51 : decode cX10_losesIn 51 = .ok (.getfield 273, 3) := by decide +kernel
theorem dX10_losesIn_54 : decode cX10_losesIn 54 = .ok (.iload_n 3, 1) := by decide +kernel
theorem dX10_losesIn_55 : decode cX10_losesIn 55 = .ok (.iadd, 1) := by decide +kernel
theorem dX10_losesIn_56 : decode cX10_losesIn 56 = .ok (.putfield 273, 3) := by decide +kernel
theorem dX10_losesIn_59 : decode cX10_losesIn 59 = .ok (.iinc 2 1, 3) := by decide +kernel
theorem dX10_losesIn_62 : decode cX10_losesIn 62 = .ok (.goto (-60), 3) := by decide +kernel
theorem dX10_losesIn_65 : decode cX10_losesIn 65 = .ok (.aload_n 0, 1) := by decide +kernel
theorem dX10_losesIn_66 : decode cX10_losesIn 66 = .ok (.invokevirtual 89, 3) := by decide +kernel
theorem dX10_losesIn_69 : decode cX10_losesIn 69 = .ok (.iconst 1, 1) := by decide +kernel
theorem dX10_losesIn_70 : decode cX10_losesIn 70 = .ok (.isub, 1) := by decide +kernel
theorem dX10_losesIn_71 : decode cX10_losesIn 71 = .ok (.istore_n 2, 1) := by decide +kernel
theorem dX10_losesIn_72 : decode cX10_losesIn 72 = .ok (.iload_n 2, 1) := by decide +kernel
theorem dX10_losesIn_73 : decode cX10_losesIn 73 = .ok (.ifCond .lt 93, 3) := by decide +kernel
theorem dX10_losesIn_76 : decode cX10_losesIn 76 = .ok (.aload_n 0, 1) := by decide +kernel
theorem dX10_losesIn_77 : decode cX10_losesIn 77 = .ok (.getfield 34, 3) := by decide +kernel
theorem dX10_losesIn_80 : decode cX10_losesIn 80 = .ok (.iload_n 2, 1) := by decide +kernel
theorem dX10_losesIn_81 : decode cX10_losesIn 81 = .ok (.iaload, 1) := by decide +kernel
theorem dX10_losesIn_82 : decode cX10_losesIn 82 = .ok (.aload_n 0, 1) := by decide +kernel
theorem dX10_losesIn_83 : decode cX10_losesIn 83 = .ok (.iload_n 2, 1) := by decide +kernel
theorem dX10_losesIn_84 : decode cX10_losesIn 84 = .ok (.iconst 3, 1) := by decide +kernel
theorem dX10_losesIn_85 : decode cX10_losesIn 85 = .ok (.invokevirtual 241, 3) := by decide +kernel
theorem dX10_losesIn_88 : decode cX10_losesIn 88 = .ok (.invokestatic 128, 3) := by decide +kernel
theorem dX10_losesIn_91 : decode cX10_losesIn 91 = .ok (.istore_n 3, 1) := by decide +kernel
theorem dX10_losesIn_92 : decode cX10_losesIn 92 = .ok (.aload_n 0, 1) := by decide +kernel
theorem dX10_losesIn_93 : decode cX10_losesIn 93 = .ok (.getfield 34, 3) := by decide +kernel
theorem dX10_losesIn_96 : decode cX10_losesIn 96 = .ok (.iload_n 2, 1) := by decide +kernel
theorem dX10_losesIn_97 : decode cX10_losesIn 97 = .ok (.dup2, 1) := by decide +kernel
theorem dX10_losesIn_98 : decode cX10_losesIn 98 = .ok (.iaload, 1) := by decide +kernel
theorem dX10_losesIn_99 : decode cX10_losesIn 99 = .ok (.iload_n 3, 1) := by decide +kernel
theorem dX10_losesIn_100 : decode cX10_losesIn 100 = .ok (.isub, 1) := by decide +kernel
theorem dX10_losesIn_101 : decode cX10_losesIn 101 = .ok (.iastore, 1) := by decide +kernel
theorem dX10_losesIn_102 : decode cX10_losesIn 102 = .ok (.iload_n 2, 1) := by decide +kernel
theorem dX10_losesIn_103 : decode cX10_losesIn 103 = .ok (.aload_n 0, 1) := by decide +kernel
theorem dX10_losesIn_104 : decode cX10_losesIn 104 = .ok (.invokevirtual 89, 3) := by decide +kernel
theorem dX10_losesIn_107 : decode cX10_losesIn 107 = .ok (.iconst 1, 1) := by decide +kernel
theorem dX10_losesIn_108 : decode cX10_losesIn 108 = .ok (.isub, 1) := by decide +kernel
theorem dX10_losesIn_109 : decode cX10_losesIn 109 = .ok (.if_icmp .ne 7, 3) := by decide +kernel
theorem dX10_losesIn_112 : decode cX10_losesIn 112 = .ok (.iconst 0, 1) := by decide +kernel
theorem dX10_losesIn_113 : decode cX10_losesIn 113 = .ok (.goto 14, 3) := by decide +kernel
theorem dX10_losesIn_116 : decode cX10_losesIn 116 = .ok (.iload_n 3, 1) := by decide +kernel
theorem dX10_losesIn_117 : decode cX10_losesIn 117 = .ok (.aload_n 0, 1) := by decide +kernel
theorem dX10_losesIn_118 : decode cX10_losesIn 118 = .ok (.iload_n 2, 1) := by decide +kernel
theorem dX10_losesIn_119 : decode cX10_losesIn 119 = .ok (.iconst 1, 1) := by decide +kernel
theorem dX10_losesIn_120 : decode cX10_losesIn 120 = .ok (.iadd, 1) := by decide +kernel
theorem dX10_losesIn_121 : decode cX10_losesIn 121 = .ok (.invokevirtual 255, 3) := by decide +kernel
theorem dX10_losesIn_124 : decode cX10_losesIn 124 = .ok (.invokestatic 128, 3) := by decide +kernel
theorem dX10_losesIn_127 : decode cX10_losesIn 127 = .ok (.istore 4, 2) := by decide +kernel
theorem dX10_losesIn_129 : decode cX10_losesIn 129 = .ok (.iload 4, 2) := by decide +kernel
theorem dX10_losesIn_131 : decode cX10_losesIn 131 = .ok (.ifCond .le 16, 3) := by decide +kernel
theorem dX10_losesIn_134 : decode cX10_losesIn 134 = .ok (.aload_n 0, 1) := by decide +kernel
theorem dX10_losesIn_135 : decode cX10_losesIn 135 = .ok (.getfield 34, 3) := by decide +kernel
theorem dX10_losesIn_138 : decode cX10_losesIn 138 = .ok (.iload_n 2, 1) := by decide +kernel
theorem dX10_losesIn_139 : decode cX10_losesIn 139 = .ok (.iconst 1, 1) := by decide +kernel
theorem dX10_losesIn_140 : decode cX10_losesIn 140 = .ok (.iadd, 1) := by decide +kernel
theorem dX10_losesIn_141 : decode cX10_losesIn 141 = .ok (.dup2, 1) := by decide +kernel
theorem dX10_losesIn_142 : decode cX10_losesIn 142 = .ok (.iaload, 1) := by decide +kernel
theorem dX10_losesIn_143 : decode cX10_losesIn 143 = .ok (.iload 4, 2) := by decide +kernel
theorem dX10_losesIn_145 : decode cX10_losesIn 145 = .ok (.iadd, 1) := by decide +kernel
theorem dX10_losesIn_146 : decode cX10_losesIn 146 = .ok (.iastore, 1) := by decide +kernel
theorem dX10_losesIn_147 : decode cX10_losesIn 147 = .ok (.aload_n 0, 1) := by decide +kernel
theorem dX10_losesIn_148 : decode cX10_losesIn 148 = .ok (.dup, 1) := by decide +kernel
theorem dX10_losesIn_149 : decode cX10_losesIn 149 = .ok (.getfield 276, 3) := by decide +kernel
theorem dX10_losesIn_152 : decode cX10_losesIn 152 = .ok (.iload_n 3, 1) := by decide +kernel
theorem dX10_losesIn_153 : decode cX10_losesIn 153 = .ok (.iload 4, 2) := by decide +kernel
theorem dX10_losesIn_155 : decode cX10_losesIn 155 = .ok (.isub, 1) := by decide +kernel
theorem dX10_losesIn_156 : decode cX10_losesIn 156 = .ok (.iadd, 1) := by decide +kernel
theorem dX10_losesIn_157 : decode cX10_losesIn 157 = .ok (.putfield 276, 3) := by decide +kernel
theorem dX10_losesIn_160 : decode cX10_losesIn 160 = .ok (.iinc 2 (-1), 3) := by decide +kernel
theorem dX10_losesIn_163 : decode cX10_losesIn 163 = .ok (.goto (-91), 3) := by decide +kernel
theorem dX10_losesIn_166 : decode cX10_losesIn 166 = .ok (.return_, 1) := by decide +kernel
theorem dX10_runs_0 : decode cX10_runs 0 = .ok (.aload_n 0, 1) := by decide +kernel
theorem dX10_runs_1 : decode cX10_runs 1 = .ok (.iload_n 1, 1) := by decide +kernel
theorem dX10_runs_2 : decode cX10_runs 2 = .ok (.putfield 243, 3) := by decide +kernel
theorem dX10_runs_5 : decode cX10_runs 5 = .ok (.iconst 0, 1) := by decide +kernel
theorem dX10_runs_6 : decode cX10_runs 6 = .ok (.istore_n 2, 1) := by decide +kernel
theorem dX10_runs_7 : decode cX10_runs 7 = .ok (.iload_n 2, 1) := by decide +kernel
theorem dX10_runs_8 : decode cX10_runs 8 = .ok (.aload_n 0, 1) := by decide +kernel
theorem dX10_runs_9 : decode cX10_runs 9 = .ok (.invokevirtual 89, 3) := by decide +kernel
theorem dX10_runs_12 : decode cX10_runs 12 = .ok (.if_icmp .ge 21, 3) := by decide +kernel
theorem dX10_runs_15 : decode cX10_runs 15 = .ok (.aload_n 0, 1) := by decide +kernel
theorem dX10_runs_16 : decode cX10_runs 16 = .ok (.getfield 34, 3) := by decide +kernel
theorem dX10_runs_19 : decode cX10_runs 19 = .ok (.iload_n 2, 1) := by decide +kernel
theorem dX10_runs_20 : decode cX10_runs 20 = .ok (.aload_n 0, 1) := by decide +kernel
theorem dX10_runs_21 : decode cX10_runs 21 = .ok (.iload_n 2, 1) := by decide +kernel
theorem dX10_runs_22 : decode cX10_runs 22 = .ok (.iconst 1, 1) := by decide +kernel
theorem dX10_runs_23 : decode cX10_runs 23 = .ok (.invokevirtual 241, 3) := by decide +kernel
theorem dX10_runs_26 : decode cX10_runs 26 = .ok (.iastore, 1) := by decide +kernel
theorem dX10_runs_27 : decode cX10_runs 27 = .ok (.iinc 2 1, 3) := by decide +kernel
theorem dX10_runs_30 : decode cX10_runs 30 = .ok (.goto (-23), 3) := by decide +kernel
theorem dX10_runs_33 : decode cX10_runs 33 = .ok (.iconst 0, 1) := by decide +kernel
theorem dX10_runs_34 : decode cX10_runs 34 = .ok (.istore_n 2, 1) := by decide +kernel
theorem dX10_runs_35 : decode cX10_runs 35 = .ok (.iload_n 2, 1) := by decide +kernel
theorem dX10_runs_36 : decode cX10_runs 36 = .ok (.bipush 9, 2) := by decide +kernel
theorem dX10_runs_38 : decode cX10_runs 38 = .ok (.if_icmp .ge 16, 3) := by decide +kernel
theorem dX10_runs_41 : decode cX10_runs 41 = .ok (.aload_n 0, 1) := by decide +kernel
theorem dX10_runs_42 : decode cX10_runs 42 = .ok (.getfield 40, 3) := by decide +kernel
theorem dX10_runs_45 : decode cX10_runs 45 = .ok (.iload_n 2, 1) := by decide +kernel
theorem dX10_runs_46 : decode cX10_runs 46 = .ok (.iconst 0, 1) := by decide +kernel
theorem dX10_runs_47 : decode cX10_runs 47 = .ok (.iastore, 1) := by decide +kernel
theorem dX10_runs_48 : decode cX10_runs 48 = .ok (.iinc 2 1, 3) := by decide +kernel
theorem dX10_runs_51 : decode cX10_runs 51 = .ok (.goto (-16), 3) := by decide +kernel
theorem dX10_runs_54 : decode cX10_runs 54 = .ok (.iconst 0, 1) := by decide +kernel
theorem dX10_runs_55 : decode cX10_runs 55 = .ok (.istore_n 2, 1) := by decide +kernel
theorem dX10_runs_56 : decode cX10_runs 56 = .ok (.iload_n 2, 1) := by decide +kernel
theorem dX10_runs_57 : decode cX10_runs 57 = .ok (.bipush 24, 2) := by decide +kernel
theorem dX10_runs_59 : decode cX10_runs 59 = .ok (.if_icmp .ge 16, 3) := by decide +kernel
theorem dX10_runs_62 : decode cX10_runs 62 = .ok (.aload_n 0, 1) := by decide +kernel
theorem dX10_runs_63 : decode cX10_runs 63 = .ok (.getfield 43, 3) := by decide +kernel
theorem dX10_runs_66 : decode cX10_runs 66 = .ok (.iload_n 2, 1) := by decide +kernel
theorem dX10_runs_67 : decode cX10_runs 67 = .ok (.iconst 0, 1) := by decide +kernel
theorem dX10_runs_68 : decode cX10_runs 68 = .ok (.iastore, 1) := by decide +kernel
theorem dX10_runs_69 : decode cX10_runs 69 = .ok (.iinc 2 1, 3) := by decide +kernel
theorem dX10_runs_72 : decode cX10_runs 72 = .ok (.goto (-16), 3) := by decide +kernel
theorem dX10_runs_75 : decode cX10_runs 75 = .ok (.iconst 0, 1) := by decide +kernel
theorem dX10_runs_76 : decode cX10_runs 76 = .ok (.istore_n 2, 1) := by decide +kernel
theorem dX10_runs_77 : decode cX10_runs 77 = .ok (.iload_n 2, 1) := by decide +kernel
theorem dX10_runs_78 : decode cX10_runs 78 = .ok (.bipush 24, 2) := by decide +kernel
theorem dX10_runs_80 : decode cX10_runs 80 = .ok (.if_icmp .ge 27, 3) := by decide +kernel
theorem dX10_runs_83 : decode cX10_runs 83 = .ok (.aload_n 0, 1) := by decide +kernel
theorem dX10_runs_84 : decode cX10_runs 84 = .ok (.getfield 46, 3) := by decide +kernel
theorem dX10_runs_87 : decode cX10_runs 87 = .ok (.iload_n 2, 1) := by decide +kernel
theorem dX10_runs_88 : decode cX10_runs 88 = .ok (.iload_n 2, 1) := by decide +kernel
theorem dX10_runs_89 : decode cX10_runs 89 = .ok (.iconst 3, 1) := by decide +kernel
theorem dX10_runs_90 : decode cX10_runs 90 = .ok (.irem, 1) := by decide +kernel
theorem dX10_runs_91 : decode cX10_runs 91 = .ok (.iconst 2, 1) := by decide +kernel
theorem dX10_runs_92 : decode cX10_runs 92 = .ok (.if_icmp .ne 7, 3) := by decide +kernel
theorem dX10_runs_95 : decode cX10_runs 95 = .ok (.iconst (-1), 1) := by decide +kernel
theorem dX10_runs_96 : decode cX10_runs 96 = .ok (.goto 4, 3) := by decide +kernel
theorem dX10_runs_99 : decode cX10_runs 99 = .ok (.iconst 0, 1) := by decide +kernel
theorem dX10_runs_100 : decode cX10_runs 100 = .ok (.iastore, 1) := by decide +kernel
theorem dX10_runs_101 : decode cX10_runs 101 = .ok (.iinc 2 1, 3) := by decide +kernel
theorem dX10_runs_104 : decode cX10_runs 104 = .ok (.goto (-27), 3) := by decide +kernel
theorem dX10_runs_107 : decode cX10_runs 107 = .ok (.aload_n 0, 1) := by decide +kernel
theorem dX10_runs_108 : decode cX10_runs 108 = .ok (.iconst 0, 1) := by decide +kernel
theorem dX10_runs_109 : decode cX10_runs 109 = .ok (.putfield 273, 3) := by decide +kernel
theorem dX10_runs_112 : decode cX10_runs 112 = .ok (.aload_n 0, 1) := by decide +kernel
theorem dX10_runs_113 : decode cX10_runs 113 = .ok (.iconst 0, 1) := by decide +kernel
theorem dX10_runs_114 : decode cX10_runs 114 = .ok (.putfield 276, 3) := by decide +kernel
theorem dX10_runs_117 : decode cX10_runs 117 = .ok (.aload_n 0, 1) := by decide +kernel
theorem dX10_runs_118 : decode cX10_runs 118 = .ok (.iconst 0, 1) := by decide +kernel
theorem dX10_runs_119 : decode cX10_runs 119 = .ok (.putfield 270, 3) := by decide +kernel
theorem dX10_runs_122 : decode cX10_runs 122 = .ok (.aload_n 0, 1) := by decide +kernel
theorem dX10_runs_123 : decode cX10_runs 123 = .ok (.iconst (-1), 1) := by decide +kernel
theorem dX10_runs_124 : decode cX10_runs 124 = .ok (.putfield 246, 3) := by decide +kernel
theorem dX10_runs_127 : decode cX10_runs 127 = .ok (.iconst 0, 1) := by decide +kernel
theorem dX10_runs_128 : decode cX10_runs 128 = .ok (.istore_n 2, 1) := by decide +kernel
theorem dX10_runs_129 : decode cX10_runs 129 = .ok (.iload_n 2, 1) := by decide +kernel
theorem dX10_runs_130 : decode cX10_runs 130 = .ok (.aload_n 0, 1) := by decide +kernel
theorem dX10_runs_131 : decode cX10_runs 131 = .ok (.getfield 9, 3) := by decide +kernel
theorem dX10_runs_134 : decode cX10_runs 134 = .ok (.iconst 5, 1) := by decide +kernel
theorem dX10_runs_135 : decode cX10_runs 135 = .ok (.iaload, 1) := by decide +kernel
theorem dX10_runs_136 : decode cX10_runs 136 = .ok (.if_icmp .ge 67, 3) := by decide +kernel
theorem dX10_runs_139 : decode cX10_runs 139 = .ok (.aload_n 0, 1) := by decide +kernel
theorem dX10_runs_140 : decode cX10_runs 140 = .ok (.iload_n 2, 1) := by decide +kernel
theorem dX10_runs_141 : decode cX10_runs 141 = .ok (.invokevirtual 279, 3) := by decide +kernel
theorem dX10_runs_144 : decode cX10_runs 144 = .ok (.aload_n 0, 1) := by decide +kernel
theorem dX10_runs_145 : decode cX10_runs 145 = .ok (.iload_n 2, 1) := by decide +kernel
theorem dX10_runs_146 : decode cX10_runs 146 = .ok (.invokevirtual 282, 3) := by decide +kernel
theorem dX10_runs_149 : decode cX10_runs 149 = .ok (.aload_n 0, 1) := by decide +kernel
theorem dX10_runs_150 : decode cX10_runs 150 = .ok (.iload_n 2, 1) := by decide +kernel
theorem dX10_runs_151 : decode cX10_runs 151 = .ok (.invokevirtual 285, 3) := by decide +kernel
theorem dX10_runs_154 : decode cX10_runs 154 = .ok (.aload_n 0, 1) := by decide +kernel
theorem dX10_runs_155 : decode cX10_runs 155 = .ok (.iload_n 2, 1) := by decide +kernel
theorem dX10_runs_156 : decode cX10_runs 156 = .ok (.invokevirtual 288, 3) := by decide +kernel
theorem dX10_runs_159 : decode cX10_runs 159 = .ok (.aload_n 0, 1) := by decide +kernel
theorem dX10_runs_160 : decode cX10_runs 160 = .ok (.iload_n 2, 1) := by decide +kernel
theorem dX10_runs_161 : decode cX10_runs 161 = .ok (.invokevirtual 291, 3) := by decide +kernel
theorem dX10_runs_164 : decode cX10_runs 164 = .ok (.iconst 0, 1) := by decide +kernel
theorem dX10_runs_165 : decode cX10_runs 165 = .ok (.istore_n 3, 1) := by decide +kernel
theorem dX10_runs_166 : decode cX10_runs 166 = .ok (.iload_n 3, 1) := by decide +kernel
theorem dX10_runs_167 : decode cX10_runs 167 = .ok (.aload_n 0, 1) := by decide +kernel
theorem dX10_runs_168 : decode cX10_runs 168 = .ok (.invokevirtual 89, 3) := by decide +kernel
theorem dX10_runs_171 : decode cX10_runs 171 = .ok (.if_icmp .ge 26, 3) := by decide +kernel
theorem dX10_runs_174 : decode cX10_runs 174 = .ok (.aload_n 0, 1) := by decide +kernel
theorem dX10_runs_175 : decode cX10_runs 175 = .ok (.getfield 37, 3) := by decide +kernel
theorem dX10_runs_178 : decode cX10_runs 178 = .ok (.bipush 30, 2) := by decide +kernel
theorem dX10_runs_180 : decode cX10_runs 180 = .ok (.iload_n 3, 1) := by decide +kernel
theorem dX10_runs_181 : decode cX10_runs 181 = .ok (.imul, 1) := by decide +kernel
theorem dX10_runs_182 : decode cX10_runs 182 = .ok (.iload_n 2, 1) := by decide +kernel
theorem dX10_runs_183 : decode cX10_runs 183 = .ok (.iadd, 1) := by decide +kernel
theorem dX10_runs_184 : decode cX10_runs 184 = .ok (.aload_n 0, 1) := by decide +kernel
theorem dX10_runs_185 : decode cX10_runs 185 = .ok (.getfield 34, 3) := by decide +kernel
theorem dX10_runs_188 : decode cX10_runs 188 = .ok (.iload_n 3, 1) := by decide +kernel
theorem dX10_runs_189 : decode cX10_runs 189 = .ok (.iaload, 1) := by decide +kernel
theorem dX10_runs_190 : decode cX10_runs 190 = .ok (.iastore, 1) := by decide +kernel
theorem dX10_runs_191 : decode cX10_runs 191 = .ok (.iinc 3 1, 3) := by decide +kernel
theorem dX10_runs_194 : decode cX10_runs 194 = .ok (.goto (-28), 3) := by decide +kernel
theorem dX10_runs_197 : decode cX10_runs 197 = .ok (.iinc 2 1, 3) := by decide +kernel
theorem dX10_runs_200 : decode cX10_runs 200 = .ok (.goto (-71), 3) := by decide +kernel
theorem dX10_runs_203 : decode cX10_runs 203 = .ok (.return_, 1) := by decide +kernel
theorem dX10_year_0 : decode cX10_year 0 = .ok (.aload_n 0, 1) := by decide +kernel
theorem dX10_year_1 : decode cX10_year 1 = .ok (.bipush 7, 2) := by decide +kernel
theorem dX10_year_3 : decode cX10_year 3 = .ok (.invokevirtual 294, 3) := by decide +kernel
theorem dX10_year_6 : decode cX10_year 6 = .ok (.return_, 1) := by decide +kernel
theorem dX10_brought_0 : decode cX10_brought 0 = .ok (.iconst 0, 1) := by decide +kernel
theorem dX10_brought_1 : decode cX10_brought 1 = .ok (.istore_n 1, 1) := by decide +kernel
theorem dX10_brought_2 : decode cX10_brought 2 = .ok (.iconst 0, 1) := by decide +kernel
theorem dX10_brought_3 : decode cX10_brought 3 = .ok (.istore_n 2, 1) := by decide +kernel
theorem dX10_brought_4 : decode cX10_brought 4 = .ok (.iload_n 2, 1) := by decide +kernel
theorem dX10_brought_5 : decode cX10_brought 5 = .ok (.aload_n 0, 1) := by decide +kernel
theorem dX10_brought_6 : decode cX10_brought 6 = .ok (.getfield 9, 3) := by decide +kernel
theorem dX10_brought_9 : decode cX10_brought 9 = .ok (.iconst 1, 1) := by decide +kernel
theorem dX10_brought_10 : decode cX10_brought 10 = .ok (.iaload, 1) := by decide +kernel
theorem dX10_brought_11 : decode cX10_brought 11 = .ok (.if_icmp .ge 22, 3) := by decide +kernel
theorem dX10_brought_14 : decode cX10_brought 14 = .ok (.iload_n 1, 1) := by decide +kernel
theorem dX10_brought_15 : decode cX10_brought 15 = .ok (.aload_n 0, 1) := by decide +kernel
theorem dX10_brought_16 : decode cX10_brought 16 = .ok (.getfield 46, 3) := by decide +kernel
theorem dX10_brought_19 : decode cX10_brought 19 = .ok (.iconst 3, 1) := by decide +kernel
theorem dX10_brought_20 : decode cX10_brought 20 = .ok (.iload_n 2, 1) := by decide +kernel
theorem dX10_brought_21 : decode cX10_brought 21 = .ok (.imul, 1) := by decide +kernel
theorem dX10_brought_22 : decode cX10_brought 22 = .ok (.iconst 0, 1) := by decide +kernel
theorem dX10_brought_23 : decode cX10_brought 23 = .ok (.iadd, 1) := by decide +kernel
theorem dX10_brought_24 : decode cX10_brought 24 = .ok (.iaload, 1) := by decide +kernel
theorem dX10_brought_25 : decode cX10_brought 25 = .ok (.iadd, 1) := by decide +kernel
theorem dX10_brought_26 : decode cX10_brought 26 = .ok (.istore_n 1, 1) := by decide +kernel
theorem dX10_brought_27 : decode cX10_brought 27 = .ok (.iinc 2 1, 3) := by decide +kernel
theorem dX10_brought_30 : decode cX10_brought 30 = .ok (.goto (-26), 3) := by decide +kernel
theorem dX10_brought_33 : decode cX10_brought 33 = .ok (.iload_n 1, 1) := by decide +kernel
theorem dX10_brought_34 : decode cX10_brought 34 = .ok (.ireturn, 1) := by decide +kernel
theorem dX10_shortOfFlood_0 : decode cX10_shortOfFlood 0 = .ok (.aload_n 0, 1) := by decide +kernel
theorem dX10_shortOfFlood_1 : decode cX10_shortOfFlood 1 = .ok (.getfield 40, 3) := by decide +kernel
theorem dX10_shortOfFlood_4 : decode cX10_shortOfFlood 4 = .ok (.iconst 3, 1) := by decide +kernel
theorem dX10_shortOfFlood_5 : decode cX10_shortOfFlood 5 = .ok (.iload_n 1, 1) := by decide +kernel
theorem dX10_shortOfFlood_6 : decode cX10_shortOfFlood 6 = .ok (.imul, 1) := by decide +kernel
theorem dX10_shortOfFlood_7 : decode cX10_shortOfFlood 7 = .ok (.iconst 1, 1) := by decide +kernel
theorem dX10_shortOfFlood_8 : decode cX10_shortOfFlood 8 = .ok (.iadd, 1) := by decide +kernel
theorem dX10_shortOfFlood_9 : decode cX10_shortOfFlood 9 = .ok (.iaload, 1) := by decide +kernel
theorem dX10_shortOfFlood_10 : decode cX10_shortOfFlood 10 = .ok (.aload_n 0, 1) := by decide +kernel
theorem dX10_shortOfFlood_11 : decode cX10_shortOfFlood 11 = .ok (.getfield 40, 3) := by decide +kernel
theorem dX10_shortOfFlood_14 : decode cX10_shortOfFlood 14 = .ok (.iconst 3, 1) := by decide +kernel
theorem dX10_shortOfFlood_15 : decode cX10_shortOfFlood 15 = .ok (.iload_n 1, 1) := by decide +kernel
theorem dX10_shortOfFlood_16 : decode cX10_shortOfFlood 16 = .ok (.imul, 1) := by decide +kernel
theorem dX10_shortOfFlood_17 : decode cX10_shortOfFlood 17 = .ok (.iconst 2, 1) := by decide +kernel
theorem dX10_shortOfFlood_18 : decode cX10_shortOfFlood 18 = .ok (.iadd, 1) := by decide +kernel
theorem dX10_shortOfFlood_19 : decode cX10_shortOfFlood 19 = .ok (.iaload, 1) := by decide +kernel
theorem dX10_shortOfFlood_20 : decode cX10_shortOfFlood 20 = .ok (.isub, 1) := by decide +kernel
theorem dX10_shortOfFlood_21 : decode cX10_shortOfFlood 21 = .ok (.ireturn, 1) := by decide +kernel
theorem dX10_shortOfLoan_0 : decode cX10_shortOfLoan 0 = .ok (.aload_n 0, 1) := by decide +kernel
theorem dX10_shortOfLoan_1 : decode cX10_shortOfLoan 1 = .ok (.getfield 43, 3) := by decide +kernel
theorem dX10_shortOfLoan_4 : decode cX10_shortOfLoan 4 = .ok (.iconst 3, 1) := by decide +kernel
theorem dX10_shortOfLoan_5 : decode cX10_shortOfLoan 5 = .ok (.iload_n 1, 1) := by decide +kernel
theorem dX10_shortOfLoan_6 : decode cX10_shortOfLoan 6 = .ok (.imul, 1) := by decide +kernel
theorem dX10_shortOfLoan_7 : decode cX10_shortOfLoan 7 = .ok (.iconst 1, 1) := by decide +kernel
theorem dX10_shortOfLoan_8 : decode cX10_shortOfLoan 8 = .ok (.iadd, 1) := by decide +kernel
theorem dX10_shortOfLoan_9 : decode cX10_shortOfLoan 9 = .ok (.iaload, 1) := by decide +kernel
theorem dX10_shortOfLoan_10 : decode cX10_shortOfLoan 10 = .ok (.aload_n 0, 1) := by decide +kernel
theorem dX10_shortOfLoan_11 : decode cX10_shortOfLoan 11 = .ok (.getfield 43, 3) := by decide +kernel
theorem dX10_shortOfLoan_14 : decode cX10_shortOfLoan 14 = .ok (.iconst 3, 1) := by decide +kernel
theorem dX10_shortOfLoan_15 : decode cX10_shortOfLoan 15 = .ok (.iload_n 1, 1) := by decide +kernel
theorem dX10_shortOfLoan_16 : decode cX10_shortOfLoan 16 = .ok (.imul, 1) := by decide +kernel
theorem dX10_shortOfLoan_17 : decode cX10_shortOfLoan 17 = .ok (.iconst 2, 1) := by decide +kernel
theorem dX10_shortOfLoan_18 : decode cX10_shortOfLoan 18 = .ok (.iadd, 1) := by decide +kernel
theorem dX10_shortOfLoan_19 : decode cX10_shortOfLoan 19 = .ok (.iaload, 1) := by decide +kernel
theorem dX10_shortOfLoan_20 : decode cX10_shortOfLoan 20 = .ok (.isub, 1) := by decide +kernel
theorem dX10_shortOfLoan_21 : decode cX10_shortOfLoan 21 = .ok (.ireturn, 1) := by decide +kernel
theorem dX10_shortOfFloods_0 : decode cX10_shortOfFloods 0 = .ok (.iconst 0, 1) := by decide +kernel
theorem dX10_shortOfFloods_1 : decode cX10_shortOfFloods 1 = .ok (.istore_n 1, 1) := by decide +kernel
theorem dX10_shortOfFloods_2 : decode cX10_shortOfFloods 2 = .ok (.iconst 0, 1) := by decide +kernel
theorem dX10_shortOfFloods_3 : decode cX10_shortOfFloods 3 = .ok (.istore_n 2, 1) := by decide +kernel
theorem dX10_shortOfFloods_4 : decode cX10_shortOfFloods 4 = .ok (.iload_n 2, 1) := by decide +kernel
theorem dX10_shortOfFloods_5 : decode cX10_shortOfFloods 5 = .ok (.aload_n 0, 1) := by decide +kernel
theorem dX10_shortOfFloods_6 : decode cX10_shortOfFloods 6 = .ok (.getfield 9, 3) := by decide +kernel
theorem dX10_shortOfFloods_9 : decode cX10_shortOfFloods 9 = .ok (.iconst 2, 1) := by decide +kernel
theorem dX10_shortOfFloods_10 : decode cX10_shortOfFloods 10 = .ok (.iaload, 1) := by decide +kernel
theorem dX10_shortOfFloods_11 : decode cX10_shortOfFloods 11 = .ok (.if_icmp .ge 17, 3) := by decide +kernel
theorem dX10_shortOfFloods_14 : decode cX10_shortOfFloods 14 = .ok (.iload_n 1, 1) := by decide +kernel
theorem dX10_shortOfFloods_15 : decode cX10_shortOfFloods 15 = .ok (.aload_n 0, 1) := by decide +kernel
theorem dX10_shortOfFloods_16 : decode cX10_shortOfFloods 16 = .ok (.iload_n 2, 1) := by decide +kernel
theorem dX10_shortOfFloods_17 : decode cX10_shortOfFloods 17 = .ok (.invokevirtual 297, 3) := by decide +kernel
theorem dX10_shortOfFloods_20 : decode cX10_shortOfFloods 20 = .ok (.iadd, 1) := by decide +kernel
theorem dX10_shortOfFloods_21 : decode cX10_shortOfFloods 21 = .ok (.istore_n 1, 1) := by decide +kernel
theorem dX10_shortOfFloods_22 : decode cX10_shortOfFloods 22 = .ok (.iinc 2 1, 3) := by decide +kernel
theorem dX10_shortOfFloods_25 : decode cX10_shortOfFloods 25 = .ok (.goto (-21), 3) := by decide +kernel
theorem dX10_shortOfFloods_28 : decode cX10_shortOfFloods 28 = .ok (.iload_n 1, 1) := by decide +kernel
theorem dX10_shortOfFloods_29 : decode cX10_shortOfFloods 29 = .ok (.ireturn, 1) := by decide +kernel
theorem dX10_shortOfLoans_0 : decode cX10_shortOfLoans 0 = .ok (.iconst 0, 1) := by decide +kernel
theorem dX10_shortOfLoans_1 : decode cX10_shortOfLoans 1 = .ok (.istore_n 1, 1) := by decide +kernel
theorem dX10_shortOfLoans_2 : decode cX10_shortOfLoans 2 = .ok (.iconst 0, 1) := by decide +kernel
theorem dX10_shortOfLoans_3 : decode cX10_shortOfLoans 3 = .ok (.istore_n 2, 1) := by decide +kernel
theorem dX10_shortOfLoans_4 : decode cX10_shortOfLoans 4 = .ok (.iload_n 2, 1) := by decide +kernel
theorem dX10_shortOfLoans_5 : decode cX10_shortOfLoans 5 = .ok (.aload_n 0, 1) := by decide +kernel
theorem dX10_shortOfLoans_6 : decode cX10_shortOfLoans 6 = .ok (.getfield 9, 3) := by decide +kernel
theorem dX10_shortOfLoans_9 : decode cX10_shortOfLoans 9 = .ok (.iconst 3, 1) := by decide +kernel
theorem dX10_shortOfLoans_10 : decode cX10_shortOfLoans 10 = .ok (.iaload, 1) := by decide +kernel
theorem dX10_shortOfLoans_11 : decode cX10_shortOfLoans 11 = .ok (.if_icmp .ge 17, 3) := by decide +kernel
theorem dX10_shortOfLoans_14 : decode cX10_shortOfLoans 14 = .ok (.iload_n 1, 1) := by decide +kernel
theorem dX10_shortOfLoans_15 : decode cX10_shortOfLoans 15 = .ok (.aload_n 0, 1) := by decide +kernel
theorem dX10_shortOfLoans_16 : decode cX10_shortOfLoans 16 = .ok (.iload_n 2, 1) := by decide +kernel
theorem dX10_shortOfLoans_17 : decode cX10_shortOfLoans 17 = .ok (.invokevirtual 300, 3) := by decide +kernel
theorem dX10_shortOfLoans_20 : decode cX10_shortOfLoans 20 = .ok (.iadd, 1) := by decide +kernel
theorem dX10_shortOfLoans_21 : decode cX10_shortOfLoans 21 = .ok (.istore_n 1, 1) := by decide +kernel
theorem dX10_shortOfLoans_22 : decode cX10_shortOfLoans 22 = .ok (.iinc 2 1, 3) := by decide +kernel
theorem dX10_shortOfLoans_25 : decode cX10_shortOfLoans 25 = .ok (.goto (-21), 3) := by decide +kernel
theorem dX10_shortOfLoans_28 : decode cX10_shortOfLoans 28 = .ok (.iload_n 1, 1) := by decide +kernel
theorem dX10_shortOfLoans_29 : decode cX10_shortOfLoans 29 = .ok (.ireturn, 1) := by decide +kernel
theorem dX10_shortOfAll_0 : decode cX10_shortOfAll 0 = .ok (.aload_n 0, 1) := by decide +kernel
theorem dX10_shortOfAll_1 : decode cX10_shortOfAll 1 = .ok (.invokevirtual 303, 3) := by decide +kernel
theorem dX10_shortOfAll_4 : decode cX10_shortOfAll 4 = .ok (.aload_n 0, 1) := by decide +kernel
theorem dX10_shortOfAll_5 : decode cX10_shortOfAll 5 = .ok (.invokevirtual 306, 3) := by decide +kernel
theorem dX10_shortOfAll_8 : decode cX10_shortOfAll 8 = .ok (.iadd, 1) := by decide +kernel
theorem dX10_shortOfAll_9 : decode cX10_shortOfAll 9 = .ok (.ireturn, 1) := by decide +kernel
theorem dX10_village_0 : decode cX10_village 0 = .ok (.aload_n 0, 1) := by decide +kernel
theorem dX10_village_1 : decode cX10_village 1 = .ok (.iload_n 1, 1) := by decide +kernel
theorem dX10_village_2 : decode cX10_village 2 = .ok (.invokevirtual 93, 3) := by decide +kernel
theorem dX10_village_5 : decode cX10_village 5 = .ok (.ifCond .eq 24, 3) := by decide +kernel
theorem dX10_village_8 : decode cX10_village 8 = .ok (.iload_n 2, 1) := by decide +kernel
theorem dX10_village_9 : decode cX10_village 9 = .ok (.i2l, 1) := by decide +kernel
theorem dX10_village_10 : decode cX10_village 10 = .ok (.lconst 0, 1) := by decide +kernel
theorem dX10_village_11 : decode cX10_village 11 = .ok (.ldc2_w 309, 3) := by decide +kernel
theorem dX10_village_14 : decode cX10_village 14 = .ok (.invokestatic 85, 3) := by decide +kernel
theorem dX10_village_17 : decode cX10_village 17 = .ok (.ifCond .eq 12, 3) := by decide +kernel
theorem dX10_village_20 : decode cX10_village 20 = .ok (.aload_n 0, 1) := by decide +kernel
theorem dX10_village_21 : decode cX10_village 21 = .ok (.iload_n 1, 1) := by decide +kernel
theorem dX10_village_22 : decode cX10_village 22 = .ok (.iload_n 2, 1) := by decide +kernel
theorem dX10_village_23 : decode cX10_village 23 = .ok (.invokevirtual 241, 3) := by decide +kernel
theorem dX10_village_26 : decode cX10_village 26 = .ok (.goto 5, 3) := by decide +kernel
theorem dX10_village_29 : decode cX10_village 29 = .ok (.bipush (-2), 2) := by decide +kernel
theorem dX10_village_31 : decode cX10_village 31 = .ok (.ireturn, 1) := by decide +kernel
theorem dX10_takes__0 : decode cX10_takes_ 0 = .ok (.aload_n 0, 1) := by decide +kernel
theorem dX10_takes__1 : decode cX10_takes_ 1 = .ok (.iload_n 1, 1) := by decide +kernel
theorem dX10_takes__2 : decode cX10_takes_ 2 = .ok (.invokevirtual 311, 3) := by decide +kernel
theorem dX10_takes__5 : decode cX10_takes_ 5 = .ok (.ifCond .eq 16, 3) := by decide +kernel
theorem dX10_takes__8 : decode cX10_takes_ 8 = .ok (.iload_n 2, 1) := by decide +kernel
theorem dX10_takes__9 : decode cX10_takes_ 9 = .ok (.iconst (-1), 1) := by decide +kernel
theorem dX10_takes__10 : decode cX10_takes_ 10 = .ok (.if_icmp .eq 14, 3) := by decide +kernel
theorem dX10_takes__13 : decode cX10_takes_ 13 = .ok (.aload_n 0, 1) := by decide +kernel
theorem dX10_takes__14 : decode cX10_takes_ 14 = .ok (.iload_n 2, 1) := by decide +kernel
theorem dX10_takes__15 : decode cX10_takes_ 15 = .ok (.invokevirtual 93, 3) := by decide +kernel
theorem dX10_takes__18 : decode cX10_takes_ 18 = .ok (.ifCond .ne 6, 3) := by decide +kernel
theorem dX10_takes__21 : decode cX10_takes_ 21 = .ok (.bipush (-2), 2) := by decide +kernel
theorem dX10_takes__23 : decode cX10_takes_ 23 = .ok (.ireturn, 1) := by decide +kernel
theorem dX10_takes__24 : decode cX10_takes_ 24 = .ok (.aload_n 0, 1) := by decide +kernel
theorem dX10_takes__25 : decode cX10_takes_ 25 = .ok (.getfield 9, 3) := by decide +kernel
theorem dX10_takes__28 : decode cX10_takes_ 28 = .ok (.sipush 157, 3) := by decide +kernel
theorem dX10_takes__31 : decode cX10_takes_ 31 = .ok (.iload_n 1, 1) := by decide +kernel
theorem dX10_takes__32 : decode cX10_takes_ 32 = .ok (.iadd, 1) := by decide +kernel
theorem dX10_takes__33 : decode cX10_takes_ 33 = .ok (.iaload, 1) := by decide +kernel
theorem dX10_takes__34 : decode cX10_takes_ 34 = .ok (.istore_n 3, 1) := by decide +kernel
theorem dX10_takes__35 : decode cX10_takes_ 35 = .ok (.aload_n 0, 1) := by decide +kernel
theorem dX10_takes__36 : decode cX10_takes_ 36 = .ok (.getfield 9, 3) := by decide +kernel
theorem dX10_takes__39 : decode cX10_takes_ 39 = .ok (.sipush 157, 3) := by decide +kernel
theorem dX10_takes__42 : decode cX10_takes_ 42 = .ok (.iload_n 1, 1) := by decide +kernel
theorem dX10_takes__43 : decode cX10_takes_ 43 = .ok (.iadd, 1) := by decide +kernel
theorem dX10_takes__44 : decode cX10_takes_ 44 = .ok (.iload_n 2, 1) := by decide +kernel
theorem dX10_takes__45 : decode cX10_takes_ 45 = .ok (.iastore, 1) := by decide +kernel
theorem dX10_takes__46 : decode cX10_takes_ 46 = .ok (.iload_n 3, 1) := by decide +kernel
theorem dX10_takes__47 : decode cX10_takes_ 47 = .ok (.ireturn, 1) := by decide +kernel
theorem dX10_water_0 : decode cX10_water 0 = .ok (.aload_n 0, 1) := by decide +kernel
theorem dX10_water_1 : decode cX10_water 1 = .ok (.iload_n 1, 1) := by decide +kernel
theorem dX10_water_2 : decode cX10_water 2 = .ok (.invokevirtual 93, 3) := by decide +kernel
theorem dX10_water_5 : decode cX10_water 5 = .ok (.ifCond .eq 11, 3) := by decide +kernel
theorem dX10_water_8 : decode cX10_water 8 = .ok (.aload_n 0, 1) := by decide +kernel
theorem dX10_water_9 : decode cX10_water 9 = .ok (.iload_n 2, 1) := by decide +kernel
theorem dX10_water_10 : decode cX10_water 10 = .ok (.invokevirtual 314, 3) := by decide +kernel
theorem dX10_water_13 : decode cX10_water 13 = .ok (.ifCond .ne 6, 3) := by decide +kernel
theorem dX10_water_16 : decode cX10_water 16 = .ok (.bipush (-2), 2) := by decide +kernel
theorem dX10_water_18 : decode cX10_water 18 = .ok (.ireturn, 1) := by decide +kernel
theorem dX10_water_19 : decode cX10_water 19 = .ok (.aload_n 0, 1) := by decide +kernel
theorem dX10_water_20 : decode cX10_water 20 = .ok (.invokevirtual 317, 3) := by decide +kernel
theorem dX10_water_23 : decode cX10_water 23 = .ok (.aload_n 0, 1) := by decide +kernel
theorem dX10_water_24 : decode cX10_water 24 = .ok (.getfield 37, 3) := by decide +kernel
theorem dX10_water_27 : decode cX10_water 27 = .ok (.bipush 30, 2) := by decide +kernel
theorem dX10_water_29 : decode cX10_water 29 = .ok (.iload_n 1, 1) := by decide +kernel
theorem dX10_water_30 : decode cX10_water 30 = .ok (.imul, 1) := by decide +kernel
theorem dX10_water_31 : decode cX10_water 31 = .ok (.iload_n 2, 1) := by decide +kernel
theorem dX10_water_32 : decode cX10_water 32 = .ok (.iadd, 1) := by decide +kernel
theorem dX10_water_33 : decode cX10_water 33 = .ok (.iaload, 1) := by decide +kernel
theorem dX10_water_34 : decode cX10_water 34 = .ok (.ireturn, 1) := by decide +kernel
theorem dX10_flood_0 : decode cX10_flood 0 = .ok (.aload_n 0, 1) := by decide +kernel
theorem dX10_flood_1 : decode cX10_flood 1 = .ok (.iload_n 1, 1) := by decide +kernel
theorem dX10_flood_2 : decode cX10_flood 2 = .ok (.invokevirtual 311, 3) := by decide +kernel
theorem dX10_flood_5 : decode cX10_flood 5 = .ok (.ifCond .eq 15, 3) := by decide +kernel
theorem dX10_flood_8 : decode cX10_flood 8 = .ok (.iload_n 2, 1) := by decide +kernel
theorem dX10_flood_9 : decode cX10_flood 9 = .ok (.i2l, 1) := by decide +kernel
theorem dX10_flood_10 : decode cX10_flood 10 = .ok (.lconst 0, 1) := by decide +kernel
theorem dX10_flood_11 : decode cX10_flood 11 = .ok (.ldc2_w 320, 3) := by decide +kernel
theorem dX10_flood_14 : decode cX10_flood 14 = .ok (.invokestatic 85, 3) := by decide +kernel
theorem dX10_flood_17 : decode cX10_flood 17 = .ok (.ifCond .ne 6, 3) := by decide +kernel
theorem dX10_flood_20 : decode cX10_flood 20 = .ok (.bipush (-2), 2) := by decide +kernel
theorem dX10_flood_22 : decode cX10_flood 22 = .ok (.ireturn, 1) := by decide +kernel
theorem dX10_flood_23 : decode cX10_flood 23 = .ok (.aload_n 0, 1) := by decide +kernel
theorem dX10_flood_24 : decode cX10_flood 24 = .ok (.invokevirtual 317, 3) := by decide +kernel
theorem dX10_flood_27 : decode cX10_flood 27 = .ok (.iload_n 2, 1) := by decide +kernel
theorem dX10_flood_28 : decode cX10_flood 28 = .ok (.iconst 3, 1) := by decide +kernel
theorem dX10_flood_29 : decode cX10_flood 29 = .ok (.if_icmp .ne 11, 3) := by decide +kernel
theorem dX10_flood_32 : decode cX10_flood 32 = .ok (.aload_n 0, 1) := by decide +kernel
theorem dX10_flood_33 : decode cX10_flood 33 = .ok (.iload_n 1, 1) := by decide +kernel
theorem dX10_flood_34 : decode cX10_flood 34 = .ok (.invokevirtual 297, 3) := by decide +kernel
theorem dX10_flood_37 : decode cX10_flood 37 = .ok (.goto 13, 3) := by decide +kernel
theorem dX10_flood_40 : decode cX10_flood 40 = .ok (.aload_n 0, 1) := by decide +kernel
theorem dX10_flood_41 : decode cX10_flood 41 = .ok (.getfield 40, 3) := by decide +kernel
theorem dX10_flood_44 : decode cX10_flood 44 = .ok (.iconst 3, 1) := by decide +kernel
theorem dX10_flood_45 : decode cX10_flood 45 = .ok (.iload_n 1, 1) := by decide +kernel
theorem dX10_flood_46 : decode cX10_flood 46 = .ok (.imul, 1) := by decide +kernel
theorem dX10_flood_47 : decode cX10_flood 47 = .ok (.iload_n 2, 1) := by decide +kernel
theorem dX10_flood_48 : decode cX10_flood 48 = .ok (.iadd, 1) := by decide +kernel
theorem dX10_flood_49 : decode cX10_flood 49 = .ok (.iaload, 1) := by decide +kernel
theorem dX10_flood_50 : decode cX10_flood 50 = .ok (.ireturn, 1) := by decide +kernel
theorem dX10_loan_0 : decode cX10_loan 0 = .ok (.iload_n 1, 1) := by decide +kernel
theorem dX10_loan_1 : decode cX10_loan 1 = .ok (.i2l, 1) := by decide +kernel
theorem dX10_loan_2 : decode cX10_loan 2 = .ok (.lconst 0, 1) := by decide +kernel
theorem dX10_loan_3 : decode cX10_loan 3 = .ok (.aload_n 0, 1) := by decide +kernel
theorem dX10_loan_4 : decode cX10_loan 4 = .ok (.getfield 9, 3) := by decide +kernel
theorem dX10_loan_7 : decode cX10_loan 7 = .ok (.iconst 3, 1) := by decide +kernel
theorem dX10_loan_8 : decode cX10_loan 8 = .ok (.iaload, 1) := by decide +kernel
theorem dX10_loan_9 : decode cX10_loan 9 = .ok (.iconst 1, 1) := by decide +kernel
theorem dX10_loan_10 : decode cX10_loan 10 = .ok (.isub, 1) := by decide +kernel
theorem dX10_loan_11 : decode cX10_loan 11 = .ok (.i2l, 1) := by decide +kernel
theorem dX10_loan_12 : decode cX10_loan 12 = .ok (.invokestatic 85, 3) := by decide +kernel
theorem dX10_loan_15 : decode cX10_loan 15 = .ok (.ifCond .eq 15, 3) := by decide +kernel
theorem dX10_loan_18 : decode cX10_loan 18 = .ok (.iload_n 2, 1) := by decide +kernel
theorem dX10_loan_19 : decode cX10_loan 19 = .ok (.i2l, 1) := by decide +kernel
theorem dX10_loan_20 : decode cX10_loan 20 = .ok (.lconst 0, 1) := by decide +kernel
theorem dX10_loan_21 : decode cX10_loan 21 = .ok (.ldc2_w 320, 3) := by decide +kernel
theorem dX10_loan_24 : decode cX10_loan 24 = .ok (.invokestatic 85, 3) := by decide +kernel
theorem dX10_loan_27 : decode cX10_loan 27 = .ok (.ifCond .ne 6, 3) := by decide +kernel
theorem dX10_loan_30 : decode cX10_loan 30 = .ok (.bipush (-2), 2) := by decide +kernel
theorem dX10_loan_32 : decode cX10_loan 32 = .ok (.ireturn, 1) := by decide +kernel
theorem dX10_loan_33 : decode cX10_loan 33 = .ok (.aload_n 0, 1) := by decide +kernel
theorem dX10_loan_34 : decode cX10_loan 34 = .ok (.invokevirtual 317, 3) := by decide +kernel
theorem dX10_loan_37 : decode cX10_loan 37 = .ok (.iload_n 2, 1) := by decide +kernel
theorem dX10_loan_38 : decode cX10_loan 38 = .ok (.iconst 3, 1) := by decide +kernel
theorem dX10_loan_39 : decode cX10_loan 39 = .ok (.if_icmp .ne 11, 3) := by decide +kernel
theorem dX10_loan_42 : decode cX10_loan 42 = .ok (.aload_n 0, 1) := by decide +kernel
theorem dX10_loan_43 : decode cX10_loan 43 = .ok (.iload_n 1, 1) := by decide +kernel
theorem dX10_loan_44 : decode cX10_loan 44 = .ok (.invokevirtual 300, 3) := by decide +kernel
theorem dX10_loan_47 : decode cX10_loan 47 = .ok (.goto 13, 3) := by decide +kernel
theorem dX10_loan_50 : decode cX10_loan 50 = .ok (.aload_n 0, 1) := by decide +kernel
theorem dX10_loan_51 : decode cX10_loan 51 = .ok (.getfield 43, 3) := by decide +kernel
theorem dX10_loan_54 : decode cX10_loan 54 = .ok (.iconst 3, 1) := by decide +kernel
theorem dX10_loan_55 : decode cX10_loan 55 = .ok (.iload_n 1, 1) := by decide +kernel
theorem dX10_loan_56 : decode cX10_loan 56 = .ok (.imul, 1) := by decide +kernel
theorem dX10_loan_57 : decode cX10_loan 57 = .ok (.iload_n 2, 1) := by decide +kernel
theorem dX10_loan_58 : decode cX10_loan 58 = .ok (.iadd, 1) := by decide +kernel
theorem dX10_loan_59 : decode cX10_loan 59 = .ok (.iaload, 1) := by decide +kernel
theorem dX10_loan_60 : decode cX10_loan 60 = .ok (.ireturn, 1) := by decide +kernel
theorem dX10_crop_0 : decode cX10_crop 0 = .ok (.iload_n 1, 1) := by decide +kernel
theorem dX10_crop_1 : decode cX10_crop 1 = .ok (.i2l, 1) := by decide +kernel
theorem dX10_crop_2 : decode cX10_crop 2 = .ok (.lconst 0, 1) := by decide +kernel
theorem dX10_crop_3 : decode cX10_crop 3 = .ok (.aload_n 0, 1) := by decide +kernel
theorem dX10_crop_4 : decode cX10_crop 4 = .ok (.getfield 9, 3) := by decide +kernel
theorem dX10_crop_7 : decode cX10_crop 7 = .ok (.iconst 1, 1) := by decide +kernel
theorem dX10_crop_8 : decode cX10_crop 8 = .ok (.iaload, 1) := by decide +kernel
theorem dX10_crop_9 : decode cX10_crop 9 = .ok (.iconst 1, 1) := by decide +kernel
theorem dX10_crop_10 : decode cX10_crop 10 = .ok (.isub, 1) := by decide +kernel
theorem dX10_crop_11 : decode cX10_crop 11 = .ok (.i2l, 1) := by decide +kernel
theorem dX10_crop_12 : decode cX10_crop 12 = .ok (.invokestatic 85, 3) := by decide +kernel
theorem dX10_crop_15 : decode cX10_crop 15 = .ok (.ifCond .eq 15, 3) := by decide +kernel
theorem dX10_crop_18 : decode cX10_crop 18 = .ok (.iload_n 2, 1) := by decide +kernel
theorem dX10_crop_19 : decode cX10_crop 19 = .ok (.i2l, 1) := by decide +kernel
theorem dX10_crop_20 : decode cX10_crop 20 = .ok (.lconst 0, 1) := by decide +kernel
theorem dX10_crop_21 : decode cX10_crop 21 = .ok (.ldc2_w 83, 3) := by decide +kernel
theorem dX10_crop_24 : decode cX10_crop 24 = .ok (.invokestatic 85, 3) := by decide +kernel
theorem dX10_crop_27 : decode cX10_crop 27 = .ok (.ifCond .ne 6, 3) := by decide +kernel
theorem dX10_crop_30 : decode cX10_crop 30 = .ok (.bipush (-2), 2) := by decide +kernel
theorem dX10_crop_32 : decode cX10_crop 32 = .ok (.ireturn, 1) := by decide +kernel
theorem dX10_crop_33 : decode cX10_crop 33 = .ok (.aload_n 0, 1) := by decide +kernel
theorem dX10_crop_34 : decode cX10_crop 34 = .ok (.invokevirtual 317, 3) := by decide +kernel
theorem dX10_crop_37 : decode cX10_crop 37 = .ok (.aload_n 0, 1) := by decide +kernel
theorem dX10_crop_38 : decode cX10_crop 38 = .ok (.getfield 46, 3) := by decide +kernel
theorem dX10_crop_41 : decode cX10_crop 41 = .ok (.iconst 3, 1) := by decide +kernel
theorem dX10_crop_42 : decode cX10_crop 42 = .ok (.iload_n 1, 1) := by decide +kernel
theorem dX10_crop_43 : decode cX10_crop 43 = .ok (.imul, 1) := by decide +kernel
theorem dX10_crop_44 : decode cX10_crop 44 = .ok (.iload_n 2, 1) := by decide +kernel
theorem dX10_crop_45 : decode cX10_crop 45 = .ok (.iadd, 1) := by decide +kernel
theorem dX10_crop_46 : decode cX10_crop 46 = .ok (.iaload, 1) := by decide +kernel
theorem dX10_crop_47 : decode cX10_crop 47 = .ok (.ireturn, 1) := by decide +kernel
theorem dX10_floodSum_0 : decode cX10_floodSum 0 = .ok (.iconst 0, 1) := by decide +kernel
theorem dX10_floodSum_1 : decode cX10_floodSum 1 = .ok (.istore_n 2, 1) := by decide +kernel
theorem dX10_floodSum_2 : decode cX10_floodSum 2 = .ok (.iconst 0, 1) := by decide +kernel
theorem dX10_floodSum_3 : decode cX10_floodSum 3 = .ok (.istore_n 3, 1) := by decide +kernel
theorem dX10_floodSum_4 : decode cX10_floodSum 4 = .ok (.iload_n 3, 1) := by decide +kernel
theorem dX10_floodSum_5 : decode cX10_floodSum 5 = .ok (.aload_n 0, 1) := by decide +kernel
theorem dX10_floodSum_6 : decode cX10_floodSum 6 = .ok (.getfield 9, 3) := by decide +kernel
theorem dX10_floodSum_9 : decode cX10_floodSum 9 = .ok (.iconst 2, 1) := by decide +kernel
theorem dX10_floodSum_10 : decode cX10_floodSum 10 = .ok (.iaload, 1) := by decide +kernel
theorem dX10_floodSum_11 : decode cX10_floodSum 11 = .ok (.if_icmp .ge 22, 3) := by decide +kernel
theorem dX10_floodSum_14 : decode cX10_floodSum 14 = .ok (.iload_n 2, 1) := by decide +kernel
theorem dX10_floodSum_15 : decode cX10_floodSum 15 = .ok (.aload_n 0, 1) := by decide +kernel
theorem dX10_floodSum_16 : decode cX10_floodSum 16 = .ok (.getfield 40, 3) := by decide +kernel
theorem dX10_floodSum_19 : decode cX10_floodSum 19 = .ok (.iconst 3, 1) := by decide +kernel
theorem dX10_floodSum_20 : decode cX10_floodSum 20 = .ok (.iload_n 3, 1) := by decide +kernel
theorem dX10_floodSum_21 : decode cX10_floodSum 21 = .ok (.imul, 1) := by decide +kernel
theorem dX10_floodSum_22 : decode cX10_floodSum 22 = .ok (.iload_n 1, 1) := by decide +kernel
theorem dX10_floodSum_23 : decode cX10_floodSum 23 = .ok (.iadd, 1) := by decide +kernel
theorem dX10_floodSum_24 : decode cX10_floodSum 24 = .ok (.iaload, 1) := by decide +kernel
theorem dX10_floodSum_25 : decode cX10_floodSum 25 = .ok (.iadd, 1) := by decide +kernel
theorem dX10_floodSum_26 : decode cX10_floodSum 26 = .ok (.istore_n 2, 1) := by decide +kernel
theorem dX10_floodSum_27 : decode cX10_floodSum 27 = .ok (.iinc 3 1, 3) := by decide +kernel
theorem dX10_floodSum_30 : decode cX10_floodSum 30 = .ok (.goto (-26), 3) := by decide +kernel
theorem dX10_floodSum_33 : decode cX10_floodSum 33 = .ok (.iload_n 2, 1) := by decide +kernel
theorem dX10_floodSum_34 : decode cX10_floodSum 34 = .ok (.ireturn, 1) := by decide +kernel
theorem dX10_sum_0 : decode cX10_sum 0 = .ok (.aload_n 0, 1) := by decide +kernel
theorem dX10_sum_1 : decode cX10_sum 1 = .ok (.invokevirtual 322, 3) := by decide +kernel
theorem dX10_sum_4 : decode cX10_sum 4 = .ok (.ifCond .eq 15, 3) := by decide +kernel
theorem dX10_sum_7 : decode cX10_sum 7 = .ok (.iload_n 1, 1) := by decide +kernel
theorem dX10_sum_8 : decode cX10_sum 8 = .ok (.i2l, 1) := by decide +kernel
theorem dX10_sum_9 : decode cX10_sum 9 = .ok (.lconst 0, 1) := by decide +kernel
theorem dX10_sum_10 : decode cX10_sum 10 = .ok (.ldc2_w 325, 3) := by decide +kernel
theorem dX10_sum_13 : decode cX10_sum 13 = .ok (.invokestatic 85, 3) := by decide +kernel
theorem dX10_sum_16 : decode cX10_sum 16 = .ok (.ifCond .ne 6, 3) := by decide +kernel
theorem dX10_sum_19 : decode cX10_sum 19 = .ok (.bipush (-2), 2) := by decide +kernel
theorem dX10_sum_21 : decode cX10_sum 21 = .ok (.ireturn, 1) := by decide +kernel
theorem dX10_sum_22 : decode cX10_sum 22 = .ok (.aload_n 0, 1) := by decide +kernel
theorem dX10_sum_23 : decode cX10_sum 23 = .ok (.invokevirtual 317, 3) := by decide +kernel
theorem dX10_sum_26 : decode cX10_sum 26 = .ok (.iload_n 1, 1) := by decide +kernel
theorem dX10_sum_27 : decode cX10_sum 27 = .ok (.tableswitch 87 0 7 #[45, 50, 55, 60, 65, 70, 75, 81], 45) := by decide +kernel
theorem dX10_sum_72 : decode cX10_sum 72 = .ok (.aload_n 0, 1) := by decide +kernel
theorem dX10_sum_73 : decode cX10_sum 73 = .ok (.invokevirtual 327, 3) := by decide +kernel
theorem dX10_sum_76 : decode cX10_sum 76 = .ok (.ireturn, 1) := by decide +kernel
theorem dX10_sum_77 : decode cX10_sum 77 = .ok (.aload_n 0, 1) := by decide +kernel
theorem dX10_sum_78 : decode cX10_sum 78 = .ok (.invokevirtual 303, 3) := by decide +kernel
theorem dX10_sum_81 : decode cX10_sum 81 = .ok (.ireturn, 1) := by decide +kernel
theorem dX10_sum_82 : decode cX10_sum 82 = .ok (.aload_n 0, 1) := by decide +kernel
theorem dX10_sum_83 : decode cX10_sum 83 = .ok (.invokevirtual 306, 3) := by decide +kernel
theorem dX10_sum_86 : decode cX10_sum 86 = .ok (.ireturn, 1) := by decide +kernel
theorem dX10_sum_87 : decode cX10_sum 87 = .ok (.aload_n 0, 1) := by decide +kernel
theorem dX10_sum_88 : decode cX10_sum 88 = .ok (.getfield 273, 3) := by decide +kernel
theorem dX10_sum_91 : decode cX10_sum 91 = .ok (.ireturn, 1) := by decide +kernel
theorem dX10_sum_92 : decode cX10_sum 92 = .ok (.aload_n 0, 1) := by decide +kernel
theorem dX10_sum_93 : decode cX10_sum 93 = .ok (.getfield 276, 3) := by decide +kernel
theorem dX10_sum_96 : decode cX10_sum 96 = .ok (.ireturn, 1) := by decide +kernel
theorem dX10_sum_97 : decode cX10_sum 97 = .ok (.aload_n 0, 1) := by decide +kernel
theorem dX10_sum_98 : decode cX10_sum 98 = .ok (.getfield 270, 3) := by decide +kernel
theorem dX10_sum_101 : decode cX10_sum 101 = .ok (.ireturn, 1) := by decide +kernel
theorem dX10_sum_102 : decode cX10_sum 102 = .ok (.aload_n 0, 1) := by decide +kernel
theorem dX10_sum_103 : decode cX10_sum 103 = .ok (.iconst 0, 1) := by decide +kernel
theorem dX10_sum_104 : decode cX10_sum 104 = .ok (.invokevirtual 330, 3) := by decide +kernel
theorem dX10_sum_107 : decode cX10_sum 107 = .ok (.ireturn, 1) := by decide +kernel
theorem dX10_sum_108 : decode cX10_sum 108 = .ok (.aload_n 0, 1) := by decide +kernel
theorem dX10_sum_109 : decode cX10_sum 109 = .ok (.iconst 2, 1) := by decide +kernel
theorem dX10_sum_110 : decode cX10_sum 110 = .ok (.invokevirtual 330, 3) := by decide +kernel
theorem dX10_sum_113 : decode cX10_sum 113 = .ok (.ireturn, 1) := by decide +kernel
theorem dX10_sum_114 : decode cX10_sum 114 = .ok (.iconst 0, 1) := by decide +kernel
theorem dX10_sum_115 : decode cX10_sum 115 = .ok (.istore_n 2, 1) := by decide +kernel
theorem dX10_sum_116 : decode cX10_sum 116 = .ok (.iconst 0, 1) := by decide +kernel
theorem dX10_sum_117 : decode cX10_sum 117 = .ok (.istore_n 3, 1) := by decide +kernel
theorem dX10_sum_118 : decode cX10_sum 118 = .ok (.iload_n 3, 1) := by decide +kernel
theorem dX10_sum_119 : decode cX10_sum 119 = .ok (.aload_n 0, 1) := by decide +kernel
theorem dX10_sum_120 : decode cX10_sum 120 = .ok (.invokevirtual 89, 3) := by decide +kernel
theorem dX10_sum_123 : decode cX10_sum 123 = .ok (.if_icmp .ge 18, 3) := by decide +kernel
theorem dX10_sum_126 : decode cX10_sum 126 = .ok (.iload_n 2, 1) := by decide +kernel
theorem dX10_sum_127 : decode cX10_sum 127 = .ok (.aload_n 0, 1) := by decide +kernel
theorem dX10_sum_128 : decode cX10_sum 128 = .ok (.getfield 34, 3) := by decide +kernel
theorem dX10_sum_131 : decode cX10_sum 131 = .ok (.iload_n 3, 1) := by decide +kernel
theorem dX10_sum_132 : decode cX10_sum 132 = .ok (.iaload, 1) := by decide +kernel
theorem dX10_sum_133 : decode cX10_sum 133 = .ok (.iadd, 1) := by decide +kernel
theorem dX10_sum_134 : decode cX10_sum 134 = .ok (.istore_n 2, 1) := by decide +kernel
theorem dX10_sum_135 : decode cX10_sum 135 = .ok (.iinc 3 1, 3) := by decide +kernel
theorem dX10_sum_138 : decode cX10_sum 138 = .ok (.goto (-20), 3) := by decide +kernel
theorem dX10_sum_141 : decode cX10_sum 141 = .ok (.iload_n 2, 1) := by decide +kernel
theorem dX10_sum_142 : decode cX10_sum 142 = .ok (.ireturn, 1) := by decide +kernel
theorem dX10_first_0 : decode cX10_first 0 = .ok (.aload_n 0, 1) := by decide +kernel
theorem dX10_first_1 : decode cX10_first 1 = .ok (.invokevirtual 322, 3) := by decide +kernel
theorem dX10_first_4 : decode cX10_first 4 = .ok (.ifCond .ne 6, 3) := by decide +kernel
theorem dX10_first_7 : decode cX10_first 7 = .ok (.bipush (-2), 2) := by decide +kernel
theorem dX10_first_9 : decode cX10_first 9 = .ok (.ireturn, 1) := by decide +kernel
theorem dX10_first_10 : decode cX10_first 10 = .ok (.aload_n 0, 1) := by decide +kernel
theorem dX10_first_11 : decode cX10_first 11 = .ok (.invokevirtual 317, 3) := by decide +kernel
theorem dX10_first_14 : decode cX10_first 14 = .ok (.aload_n 0, 1) := by decide +kernel
theorem dX10_first_15 : decode cX10_first 15 = .ok (.getfield 246, 3) := by decide +kernel
theorem dX10_first_18 : decode cX10_first 18 = .ok (.ireturn, 1) := by decide +kernel
theorem dX10_takersMany_0 : decode cX10_takersMany 0 = .ok (.iconst 1, 1) := by decide +kernel
theorem dX10_takersMany_1 : decode cX10_takersMany 1 = .ok (.istore_n 1, 1) := by decide +kernel
theorem dX10_takersMany_2 : decode cX10_takersMany 2 = .ok (.iconst 0, 1) := by decide +kernel
theorem dX10_takersMany_3 : decode cX10_takersMany 3 = .ok (.istore_n 2, 1) := by decide +kernel
theorem dX10_takersMany_4 : decode cX10_takersMany 4 = .ok (.iload_n 2, 1) := by decide +kernel
theorem dX10_takersMany_5 : decode cX10_takersMany 5 = .ok (.aload_n 0, 1) := by decide +kernel
theorem dX10_takersMany_6 : decode cX10_takersMany 6 = .ok (.getfield 9, 3) := by decide +kernel
theorem dX10_takersMany_9 : decode cX10_takersMany 9 = .ok (.iconst 2, 1) := by decide +kernel
theorem dX10_takersMany_10 : decode cX10_takersMany 10 = .ok (.iaload, 1) := by decide +kernel
theorem dX10_takersMany_11 : decode cX10_takersMany 11 = .ok (.if_icmp .ge 18, 3) := by decide +kernel
theorem dX10_takersMany_14 : decode cX10_takersMany 14 = .ok (.iload_n 1, 1) := by decide +kernel
theorem dX10_takersMany_15 : decode cX10_takersMany 15 = .ok (.aload_n 0, 1) := by decide +kernel
theorem dX10_takersMany_16 : decode cX10_takersMany 16 = .ok (.invokevirtual 89, 3) := by decide +kernel
theorem dX10_takersMany_19 : decode cX10_takersMany 19 = .ok (.iconst 1, 1) := by decide +kernel
theorem dX10_takersMany_20 : decode cX10_takersMany 20 = .ok (.iadd, 1) := by decide +kernel
theorem dX10_takersMany_21 : decode cX10_takersMany 21 = .ok (.imul, 1) := by decide +kernel
theorem dX10_takersMany_22 : decode cX10_takersMany 22 = .ok (.istore_n 1, 1) := by decide +kernel
theorem dX10_takersMany_23 : decode cX10_takersMany 23 = .ok (.iinc 2 1, 3) := by decide +kernel
theorem dX10_takersMany_26 : decode cX10_takersMany 26 = .ok (.goto (-22), 3) := by decide +kernel
theorem dX10_takersMany_29 : decode cX10_takersMany 29 = .ok (.iload_n 1, 1) := by decide +kernel
theorem dX10_takersMany_30 : decode cX10_takersMany 30 = .ok (.ireturn, 1) := by decide +kernel
theorem dX10_keepsTakers_0 : decode cX10_keepsTakers 0 = .ok (.iconst 0, 1) := by decide +kernel
theorem dX10_keepsTakers_1 : decode cX10_keepsTakers 1 = .ok (.istore_n 1, 1) := by decide +kernel
theorem dX10_keepsTakers_2 : decode cX10_keepsTakers 2 = .ok (.iload_n 1, 1) := by decide +kernel
theorem dX10_keepsTakers_3 : decode cX10_keepsTakers 3 = .ok (.iconst 3, 1) := by decide +kernel
theorem dX10_keepsTakers_4 : decode cX10_keepsTakers 4 = .ok (.if_icmp .ge 25, 3) := by decide +kernel
theorem dX10_keepsTakers_7 : decode cX10_keepsTakers 7 = .ok (.aload_n 0, 1) := by decide +kernel
theorem dX10_keepsTakers_8 : decode cX10_keepsTakers 8 = .ok (.getfield 52, 3) := by decide +kernel
theorem dX10_keepsTakers_11 : decode cX10_keepsTakers 11 = .ok (.iload_n 1, 1) := by decide +kernel
theorem dX10_keepsTakers_12 : decode cX10_keepsTakers 12 = .ok (.aload_n 0, 1) := by decide +kernel
theorem dX10_keepsTakers_13 : decode cX10_keepsTakers 13 = .ok (.getfield 9, 3) := by decide +kernel
theorem dX10_keepsTakers_16 : decode cX10_keepsTakers 16 = .ok (.sipush 157, 3) := by decide +kernel
theorem dX10_keepsTakers_19 : decode cX10_keepsTakers 19 = .ok (.iload_n 1, 1) := by decide +kernel
theorem dX10_keepsTakers_20 : decode cX10_keepsTakers 20 = .ok (.iadd, 1) := by decide +kernel
theorem dX10_keepsTakers_21 : decode cX10_keepsTakers 21 = .ok (.iaload, 1) := by decide +kernel
theorem dX10_keepsTakers_22 : decode cX10_keepsTakers 22 = .ok (.iastore, 1) := by decide +kernel
theorem dX10_keepsTakers_23 : decode cX10_keepsTakers 23 = .ok (.iinc 1 1, 3) := by decide +kernel
theorem dX10_keepsTakers_26 : decode cX10_keepsTakers 26 = .ok (.goto (-24), 3) := by decide +kernel
theorem dX10_keepsTakers_29 : decode cX10_keepsTakers 29 = .ok (.return_, 1) := by decide +kernel
theorem dX10_bringsTakersBack_0 : decode cX10_bringsTakersBack 0 = .ok (.iconst 0, 1) := by decide +kernel
theorem dX10_bringsTakersBack_1 : decode cX10_bringsTakersBack 1 = .ok (.istore_n 1, 1) := by decide +kernel
theorem dX10_bringsTakersBack_2 : decode cX10_bringsTakersBack 2 = .ok (.iload_n 1, 1) := by decide +kernel
theorem dX10_bringsTakersBack_3 : decode cX10_bringsTakersBack 3 = .ok (.iconst 3, 1) := by decide +kernel
theorem dX10_bringsTakersBack_4 : decode cX10_bringsTakersBack 4 = .ok (.if_icmp .ge 25, 3) := by decide +kernel
theorem dX10_bringsTakersBack_7 : decode cX10_bringsTakersBack 7 = .ok (.aload_n 0, 1) := by decide +kernel
theorem dX10_bringsTakersBack_8 : decode cX10_bringsTakersBack 8 = .ok (.getfield 9, 3) := by decide +kernel
theorem dX10_bringsTakersBack_11 : decode cX10_bringsTakersBack 11 = .ok (.sipush 157, 3) := by decide +kernel
theorem dX10_bringsTakersBack_14 : decode cX10_bringsTakersBack 14 = .ok (.iload_n 1, 1) := by decide +kernel
theorem dX10_bringsTakersBack_15 : decode cX10_bringsTakersBack 15 = .ok (.iadd, 1) := by decide +kernel
theorem dX10_bringsTakersBack_16 : decode cX10_bringsTakersBack 16 = .ok (.aload_n 0, 1) := by decide +kernel
theorem dX10_bringsTakersBack_17 : decode cX10_bringsTakersBack 17 = .ok (.getfield 52, 3) := by decide +kernel
theorem dX10_bringsTakersBack_20 : decode cX10_bringsTakersBack 20 = .ok (.iload_n 1, 1) := by decide +kernel
theorem dX10_bringsTakersBack_21 : decode cX10_bringsTakersBack 21 = .ok (.iaload, 1) := by decide +kernel
theorem dX10_bringsTakersBack_22 : decode cX10_bringsTakersBack 22 = .ok (.iastore, 1) := by decide +kernel
theorem dX10_bringsTakersBack_23 : decode cX10_bringsTakersBack 23 = .ok (.iinc 1 1, 3) := by decide +kernel
theorem dX10_bringsTakersBack_26 : decode cX10_bringsTakersBack 26 = .ok (.goto (-24), 3) := by decide +kernel
theorem dX10_bringsTakersBack_29 : decode cX10_bringsTakersBack 29 = .ok (.return_, 1) := by decide +kernel
theorem dX10_takersAre_0 : decode cX10_takersAre 0 = .ok (.iload_n 1, 1) := by decide +kernel
theorem dX10_takersAre_1 : decode cX10_takersAre 1 = .ok (.istore_n 2, 1) := by decide +kernel
theorem dX10_takersAre_2 : decode cX10_takersAre 2 = .ok (.aload_n 0, 1) := by decide +kernel
theorem dX10_takersAre_3 : decode cX10_takersAre 3 = .ok (.getfield 9, 3) := by decide +kernel
theorem dX10_takersAre_6 : decode cX10_takersAre 6 = .ok (.iconst 2, 1) := by decide +kernel
theorem dX10_takersAre_7 : decode cX10_takersAre 7 = .ok (.iaload, 1) := by decide +kernel
theorem dX10_takersAre_8 : decode cX10_takersAre 8 = .ok (.iconst 1, 1) := by decide +kernel
theorem dX10_takersAre_9 : decode cX10_takersAre 9 = .ok (.isub, 1) := by decide +kernel
theorem dX10_takersAre_10 : decode cX10_takersAre 10 = .ok (.istore_n 3, 1) := by decide +kernel
theorem dX10_takersAre_11 : decode cX10_takersAre 11 = .ok (.iload_n 3, 1) := by decide +kernel
theorem dX10_takersAre_12 : decode cX10_takersAre 12 = .ok (.ifCond .lt 38, 3) := by decide +kernel
theorem dX10_takersAre_15 : decode cX10_takersAre 15 = .ok (.aload_n 0, 1) := by decide +kernel
theorem dX10_takersAre_16 : decode cX10_takersAre 16 = .ok (.getfield 9, 3) := by decide +kernel
theorem dX10_takersAre_19 : decode cX10_takersAre 19 = .ok (.sipush 157, 3) := by decide +kernel
theorem dX10_takersAre_22 : decode cX10_takersAre 22 = .ok (.iload_n 3, 1) := by decide +kernel
theorem dX10_takersAre_23 : decode cX10_takersAre 23 = .ok (.iadd, 1) := by decide +kernel
theorem dX10_takersAre_24 : decode cX10_takersAre 24 = .ok (.iload_n 2, 1) := by decide +kernel
theorem dX10_takersAre_25 : decode cX10_takersAre 25 = .ok (.aload_n 0, 1) := by decide +kernel
theorem dX10_takersAre_26 : decode cX10_takersAre 26 = .ok (.invokevirtual 89, 3) := by decide +kernel
theorem dX10_takersAre_29 : decode cX10_takersAre 29 = .ok (.iconst 1, 1) := by decide +kernel
theorem dX10_takersAre_30 : decode cX10_takersAre 30 = .ok (.iadd, 1) := by decide +kernel
theorem dX10_takersAre_31 : decode cX10_takersAre 31 = .ok (.irem, 1) := by decide +kernel
theorem dX10_takersAre_32 : decode cX10_takersAre 32 = .ok (.iconst 1, 1) := by decide +kernel
theorem dX10_takersAre_33 : decode cX10_takersAre 33 = .ok (.isub, 1) := by decide +kernel
theorem dX10_takersAre_34 : decode cX10_takersAre 34 = .ok (.iastore, 1) := by decide +kernel
theorem dX10_takersAre_35 : decode cX10_takersAre 35 = .ok (.iload_n 2, 1) := by decide +kernel
theorem dX10_takersAre_36 : decode cX10_takersAre 36 = .ok (.aload_n 0, 1) := by decide +kernel
theorem dX10_takersAre_37 : decode cX10_takersAre 37 = .ok (.invokevirtual 89, 3) := by decide +kernel
theorem dX10_takersAre_40 : decode cX10_takersAre 40 = .ok (.iconst 1, 1) := by decide +kernel
theorem dX10_takersAre_41 : decode cX10_takersAre 41 = .ok (.iadd, 1) := by decide +kernel
theorem dX10_takersAre_42 : decode cX10_takersAre 42 = .ok (.idiv, 1) := by decide +kernel
theorem dX10_takersAre_43 : decode cX10_takersAre 43 = .ok (.istore_n 2, 1) := by decide +kernel
theorem dX10_takersAre_44 : decode cX10_takersAre 44 = .ok (.iinc 3 (-1), 3) := by decide +kernel
theorem dX10_takersAre_47 : decode cX10_takersAre 47 = .ok (.goto (-36), 3) := by decide +kernel
theorem dX10_takersAre_50 : decode cX10_takersAre 50 = .ok (.return_, 1) := by decide +kernel
theorem dX10_takerIn_0 : decode cX10_takerIn 0 = .ok (.iload_n 1, 1) := by decide +kernel
theorem dX10_takerIn_1 : decode cX10_takerIn 1 = .ok (.istore_n 3, 1) := by decide +kernel
theorem dX10_takerIn_2 : decode cX10_takerIn 2 = .ok (.aload_n 0, 1) := by decide +kernel
theorem dX10_takerIn_3 : decode cX10_takerIn 3 = .ok (.getfield 9, 3) := by decide +kernel
theorem dX10_takerIn_6 : decode cX10_takerIn 6 = .ok (.iconst 2, 1) := by decide +kernel
theorem dX10_takerIn_7 : decode cX10_takerIn 7 = .ok (.iaload, 1) := by decide +kernel
theorem dX10_takerIn_8 : decode cX10_takerIn 8 = .ok (.iconst 1, 1) := by decide +kernel
theorem dX10_takerIn_9 : decode cX10_takerIn 9 = .ok (.isub, 1) := by decide +kernel
theorem dX10_takerIn_10 : decode cX10_takerIn 10 = .ok (.istore 4, 2) := by decide +kernel
theorem dX10_takerIn_12 : decode cX10_takerIn 12 = .ok (.iload 4, 2) := by decide +kernel
theorem dX10_takerIn_14 : decode cX10_takerIn 14 = .ok (.iload_n 2, 1) := by decide +kernel
theorem dX10_takerIn_15 : decode cX10_takerIn 15 = .ok (.if_icmp .le 18, 3) := by decide +kernel
theorem dX10_takerIn_18 : decode cX10_takerIn 18 = .ok (.iload_n 3, 1) := by decide +kernel
theorem dX10_takerIn_19 : decode cX10_takerIn 19 = .ok (.aload_n 0, 1) := by decide +kernel
theorem dX10_takerIn_20 : decode cX10_takerIn 20 = .ok (.invokevirtual 89, 3) := by decide +kernel
theorem dX10_takerIn_23 : decode cX10_takerIn 23 = .ok (.iconst 1, 1) := by decide +kernel
theorem dX10_takerIn_24 : decode cX10_takerIn 24 = .ok (.iadd, 1) := by decide +kernel
theorem dX10_takerIn_25 : decode cX10_takerIn 25 = .ok (.idiv, 1) := by decide +kernel
theorem dX10_takerIn_26 : decode cX10_takerIn 26 = .ok (.istore_n 3, 1) := by decide +kernel
theorem dX10_takerIn_27 : decode cX10_takerIn 27 = .ok (.iinc 4 (-1), 3) := by decide +kernel
theorem dX10_takerIn_30 : decode cX10_takerIn 30 = .ok (.goto (-18), 3) := by decide +kernel
theorem dX10_takerIn_33 : decode cX10_takerIn 33 = .ok (.iload_n 3, 1) := by decide +kernel
theorem dX10_takerIn_34 : decode cX10_takerIn 34 = .ok (.aload_n 0, 1) := by decide +kernel
theorem dX10_takerIn_35 : decode cX10_takerIn 35 = .ok (.invokevirtual 89, 3) := by decide +kernel
theorem dX10_takerIn_38 : decode cX10_takerIn 38 = .ok (.iconst 1, 1) := by decide +kernel
theorem dX10_takerIn_39 : decode cX10_takerIn 39 = .ok (.iadd, 1) := by decide +kernel
theorem dX10_takerIn_40 : decode cX10_takerIn 40 = .ok (.irem, 1) := by decide +kernel
theorem dX10_takerIn_41 : decode cX10_takerIn 41 = .ok (.iconst 1, 1) := by decide +kernel
theorem dX10_takerIn_42 : decode cX10_takerIn 42 = .ok (.isub, 1) := by decide +kernel
theorem dX10_takerIn_43 : decode cX10_takerIn 43 = .ok (.ireturn, 1) := by decide +kernel
theorem dX10_bestTakers_0 : decode cX10_bestTakers 0 = .ok (.aload_n 0, 1) := by decide +kernel
theorem dX10_bestTakers_1 : decode cX10_bestTakers 1 = .ok (.invokevirtual 333, 3) := by decide +kernel
theorem dX10_bestTakers_4 : decode cX10_bestTakers 4 = .ok (.iconst (-1), 1) := by decide +kernel
theorem dX10_bestTakers_5 : decode cX10_bestTakers 5 = .ok (.istore_n 1, 1) := by decide +kernel
theorem dX10_bestTakers_6 : decode cX10_bestTakers 6 = .ok (.aload_n 0, 1) := by decide +kernel
theorem dX10_bestTakers_7 : decode cX10_bestTakers 7 = .ok (.iconst (-1), 1) := by decide +kernel
theorem dX10_bestTakers_8 : decode cX10_bestTakers 8 = .ok (.putfield 336, 3) := by decide +kernel
theorem dX10_bestTakers_11 : decode cX10_bestTakers 11 = .ok (.aload_n 0, 1) := by decide +kernel
theorem dX10_bestTakers_12 : decode cX10_bestTakers 12 = .ok (.invokevirtual 339, 3) := by decide +kernel
theorem dX10_bestTakers_15 : decode cX10_bestTakers 15 = .ok (.istore_n 2, 1) := by decide +kernel
theorem dX10_bestTakers_16 : decode cX10_bestTakers 16 = .ok (.iconst 0, 1) := by decide +kernel
theorem dX10_bestTakers_17 : decode cX10_bestTakers 17 = .ok (.istore_n 3, 1) := by decide +kernel
theorem dX10_bestTakers_18 : decode cX10_bestTakers 18 = .ok (.iload_n 3, 1) := by decide +kernel
theorem dX10_bestTakers_19 : decode cX10_bestTakers 19 = .ok (.iload_n 2, 1) := by decide +kernel
theorem dX10_bestTakers_20 : decode cX10_bestTakers 20 = .ok (.if_icmp .ge 49, 3) := by decide +kernel
theorem dX10_bestTakers_23 : decode cX10_bestTakers 23 = .ok (.aload_n 0, 1) := by decide +kernel
theorem dX10_bestTakers_24 : decode cX10_bestTakers 24 = .ok (.iload_n 3, 1) := by decide +kernel
theorem dX10_bestTakers_25 : decode cX10_bestTakers 25 = .ok (.invokevirtual 342, 3) := by decide +kernel
theorem dX10_bestTakers_28 : decode cX10_bestTakers 28 = .ok (.aload_n 0, 1) := by decide +kernel
theorem dX10_bestTakers_29 : decode cX10_bestTakers 29 = .ok (.invokevirtual 317, 3) := by decide +kernel
theorem dX10_bestTakers_32 : decode cX10_bestTakers 32 = .ok (.aload_n 0, 1) := by decide +kernel
theorem dX10_bestTakers_33 : decode cX10_bestTakers 33 = .ok (.invokevirtual 345, 3) := by decide +kernel
theorem dX10_bestTakers_36 : decode cX10_bestTakers 36 = .ok (.ifCond .gt 27, 3) := by decide +kernel
theorem dX10_bestTakers_39 : decode cX10_bestTakers 39 = .ok (.aload_n 0, 1) := by decide +kernel
theorem dX10_bestTakers_40 : decode cX10_bestTakers 40 = .ok (.invokevirtual 327, 3) := by decide +kernel
theorem dX10_bestTakers_43 : decode cX10_bestTakers 43 = .ok (.aload_n 0, 1) := by decide +kernel
theorem dX10_bestTakers_44 : decode cX10_bestTakers 44 = .ok (.getfield 336, 3) := by decide +kernel
theorem dX10_bestTakers_47 : decode cX10_bestTakers 47 = .ok (.if_icmp .gt 6, 3) := by decide +kernel
theorem dX10_bestTakers_50 : decode cX10_bestTakers 50 = .ok (.goto 13, 3) := by decide +kernel
theorem dX10_bestTakers_53 : decode cX10_bestTakers 53 = .ok (.iload_n 3, 1) := by decide +kernel
theorem dX10_bestTakers_54 : decode cX10_bestTakers 54 = .ok (.istore_n 1, 1) := by decide +kernel
theorem dX10_bestTakers_55 : decode cX10_bestTakers 55 = .ok (.aload_n 0, 1) := by decide +kernel
theorem dX10_bestTakers_56 : decode cX10_bestTakers 56 = .ok (.aload_n 0, 1) := by decide +kernel
theorem dX10_bestTakers_57 : decode cX10_bestTakers 57 = .ok (.invokevirtual 327, 3) := by decide +kernel
theorem dX10_bestTakers_60 : decode cX10_bestTakers 60 = .ok (.putfield 336, 3) := by decide +kernel
theorem dX10_bestTakers_63 : decode cX10_bestTakers 63 = .ok (.iinc 3 1, 3) := by decide +kernel
theorem dX10_bestTakers_66 : decode cX10_bestTakers 66 = .ok (.goto (-48), 3) := by decide +kernel
theorem dX10_bestTakers_69 : decode cX10_bestTakers 69 = .ok (.aload_n 0, 1) := by decide +kernel
theorem dX10_bestTakers_70 : decode cX10_bestTakers 70 = .ok (.invokevirtual 348, 3) := by decide +kernel
theorem dX10_bestTakers_73 : decode cX10_bestTakers 73 = .ok (.iload_n 1, 1) := by decide +kernel
theorem dX10_bestTakers_74 : decode cX10_bestTakers 74 = .ok (.ireturn, 1) := by decide +kernel
theorem dX10_best_0 : decode cX10_best 0 = .ok (.aload_n 0, 1) := by decide +kernel
theorem dX10_best_1 : decode cX10_best 1 = .ok (.invokevirtual 322, 3) := by decide +kernel
theorem dX10_best_4 : decode cX10_best 4 = .ok (.ifCond .ne 6, 3) := by decide +kernel
theorem dX10_best_7 : decode cX10_best 7 = .ok (.bipush (-2), 2) := by decide +kernel
theorem dX10_best_9 : decode cX10_best 9 = .ok (.ireturn, 1) := by decide +kernel
theorem dX10_best_10 : decode cX10_best 10 = .ok (.aload_n 0, 1) := by decide +kernel
theorem dX10_best_11 : decode cX10_best 11 = .ok (.invokevirtual 351, 3) := by decide +kernel
theorem dX10_best_14 : decode cX10_best 14 = .ok (.pop, 1) := by decide +kernel
theorem dX10_best_15 : decode cX10_best 15 = .ok (.aload_n 0, 1) := by decide +kernel
theorem dX10_best_16 : decode cX10_best 16 = .ok (.getfield 336, 3) := by decide +kernel
theorem dX10_best_19 : decode cX10_best 19 = .ok (.ireturn, 1) := by decide +kernel
theorem dX10_taker_0 : decode cX10_taker 0 = .ok (.aload_n 0, 1) := by decide +kernel
theorem dX10_taker_1 : decode cX10_taker 1 = .ok (.iload_n 1, 1) := by decide +kernel
theorem dX10_taker_2 : decode cX10_taker 2 = .ok (.invokevirtual 311, 3) := by decide +kernel
theorem dX10_taker_5 : decode cX10_taker 5 = .ok (.ifCond .ne 6, 3) := by decide +kernel
theorem dX10_taker_8 : decode cX10_taker 8 = .ok (.bipush (-2), 2) := by decide +kernel
theorem dX10_taker_10 : decode cX10_taker 10 = .ok (.ireturn, 1) := by decide +kernel
theorem dX10_taker_11 : decode cX10_taker 11 = .ok (.aload_n 0, 1) := by decide +kernel
theorem dX10_taker_12 : decode cX10_taker 12 = .ok (.invokevirtual 351, 3) := by decide +kernel
theorem dX10_taker_15 : decode cX10_taker 15 = .ok (.istore_n 2, 1) := by decide +kernel
theorem dX10_taker_16 : decode cX10_taker 16 = .ok (.iload_n 2, 1) := by decide +kernel
theorem dX10_taker_17 : decode cX10_taker 17 = .ok (.iconst (-1), 1) := by decide +kernel
theorem dX10_taker_18 : decode cX10_taker 18 = .ok (.if_icmp .ne 7, 3) := by decide +kernel
theorem dX10_taker_21 : decode cX10_taker 21 = .ok (.iconst (-1), 1) := by decide +kernel
theorem dX10_taker_22 : decode cX10_taker 22 = .ok (.goto 9, 3) := by decide +kernel
theorem dX10_taker_25 : decode cX10_taker 25 = .ok (.aload_n 0, 1) := by decide +kernel
theorem dX10_taker_26 : decode cX10_taker 26 = .ok (.iload_n 2, 1) := by decide +kernel
theorem dX10_taker_27 : decode cX10_taker 27 = .ok (.iload_n 1, 1) := by decide +kernel
theorem dX10_taker_28 : decode cX10_taker 28 = .ok (.invokevirtual 354, 3) := by decide +kernel
theorem dX10_taker_31 : decode cX10_taker 31 = .ok (.ireturn, 1) := by decide +kernel
theorem dX10_safe_0 : decode cX10_safe 0 = .ok (.aload_n 0, 1) := by decide +kernel
theorem dX10_safe_1 : decode cX10_safe 1 = .ok (.invokevirtual 322, 3) := by decide +kernel
theorem dX10_safe_4 : decode cX10_safe 4 = .ok (.ifCond .ne 6, 3) := by decide +kernel
theorem dX10_safe_7 : decode cX10_safe 7 = .ok (.bipush (-2), 2) := by decide +kernel
theorem dX10_safe_9 : decode cX10_safe 9 = .ok (.ireturn, 1) := by decide +kernel
theorem dX10_safe_10 : decode cX10_safe 10 = .ok (.aload_n 0, 1) := by decide +kernel
theorem dX10_safe_11 : decode cX10_safe 11 = .ok (.invokevirtual 333, 3) := by decide +kernel
theorem dX10_safe_14 : decode cX10_safe 14 = .ok (.iconst 0, 1) := by decide +kernel
theorem dX10_safe_15 : decode cX10_safe 15 = .ok (.istore_n 1, 1) := by decide +kernel
theorem dX10_safe_16 : decode cX10_safe 16 = .ok (.aload_n 0, 1) := by decide +kernel
theorem dX10_safe_17 : decode cX10_safe 17 = .ok (.invokevirtual 339, 3) := by decide +kernel
theorem dX10_safe_20 : decode cX10_safe 20 = .ok (.istore_n 2, 1) := by decide +kernel
theorem dX10_safe_21 : decode cX10_safe 21 = .ok (.iconst 0, 1) := by decide +kernel
theorem dX10_safe_22 : decode cX10_safe 22 = .ok (.istore_n 3, 1) := by decide +kernel
theorem dX10_safe_23 : decode cX10_safe 23 = .ok (.iload_n 3, 1) := by decide +kernel
theorem dX10_safe_24 : decode cX10_safe 24 = .ok (.iload_n 2, 1) := by decide +kernel
theorem dX10_safe_25 : decode cX10_safe 25 = .ok (.if_icmp .ge 33, 3) := by decide +kernel
theorem dX10_safe_28 : decode cX10_safe 28 = .ok (.aload_n 0, 1) := by decide +kernel
theorem dX10_safe_29 : decode cX10_safe 29 = .ok (.iload_n 3, 1) := by decide +kernel
theorem dX10_safe_30 : decode cX10_safe 30 = .ok (.invokevirtual 342, 3) := by decide +kernel
theorem dX10_safe_33 : decode cX10_safe 33 = .ok (.aload_n 0, 1) := by decide +kernel
theorem dX10_safe_34 : decode cX10_safe 34 = .ok (.invokevirtual 317, 3) := by decide +kernel
theorem dX10_safe_37 : decode cX10_safe 37 = .ok (.iload_n 1, 1) := by decide +kernel
theorem dX10_safe_38 : decode cX10_safe 38 = .ok (.aload_n 0, 1) := by decide +kernel
theorem dX10_safe_39 : decode cX10_safe 39 = .ok (.invokevirtual 345, 3) := by decide +kernel
theorem dX10_safe_42 : decode cX10_safe 42 = .ok (.ifCond .ne 7, 3) := by decide +kernel
theorem dX10_safe_45 : decode cX10_safe 45 = .ok (.iconst 1, 1) := by decide +kernel
theorem dX10_safe_46 : decode cX10_safe 46 = .ok (.goto 4, 3) := by decide +kernel
theorem dX10_safe_49 : decode cX10_safe 49 = .ok (.iconst 0, 1) := by decide +kernel
theorem dX10_safe_50 : decode cX10_safe 50 = .ok (.iadd, 1) := by decide +kernel
theorem dX10_safe_51 : decode cX10_safe 51 = .ok (.istore_n 1, 1) := by decide +kernel
theorem dX10_safe_52 : decode cX10_safe 52 = .ok (.iinc 3 1, 3) := by decide +kernel
theorem dX10_safe_55 : decode cX10_safe 55 = .ok (.goto (-32), 3) := by decide +kernel
theorem dX10_safe_58 : decode cX10_safe 58 = .ok (.aload_n 0, 1) := by decide +kernel
theorem dX10_safe_59 : decode cX10_safe 59 = .ok (.invokevirtual 348, 3) := by decide +kernel
theorem dX10_safe_62 : decode cX10_safe 62 = .ok (.iload_n 1, 1) := by decide +kernel
theorem dX10_safe_63 : decode cX10_safe 63 = .ok (.ireturn, 1) := by decide +kernel
theorem dX10_hopeBelow_0 : decode cX10_hopeBelow 0 = .ok (.lconst 1, 1) := by decide +kernel
theorem dX10_hopeBelow_1 : decode cX10_hopeBelow 1 = .ok (.lstore_n 1, 1) := by decide +kernel
theorem dX10_hopeBelow_2 : decode cX10_hopeBelow 2 = .ok (.iconst 0, 1) := by decide +kernel
theorem dX10_hopeBelow_3 : decode cX10_hopeBelow 3 = .ok (.istore_n 3, 1) := by decide +kernel
theorem dX10_hopeBelow_4 : decode cX10_hopeBelow 4 = .ok (.iload_n 3, 1) := by decide +kernel
theorem dX10_hopeBelow_5 : decode cX10_hopeBelow 5 = .ok (.aload_n 0, 1) := by decide +kernel
theorem dX10_hopeBelow_6 : decode cX10_hopeBelow 6 = .ok (.getfield 9, 3) := by decide +kernel
theorem dX10_hopeBelow_9 : decode cX10_hopeBelow 9 = .ok (.iconst 2, 1) := by decide +kernel
theorem dX10_hopeBelow_10 : decode cX10_hopeBelow 10 = .ok (.iaload, 1) := by decide +kernel
theorem dX10_hopeBelow_11 : decode cX10_hopeBelow 11 = .ok (.if_icmp .ge 15, 3) := by decide +kernel
theorem dX10_hopeBelow_14 : decode cX10_hopeBelow 14 = .ok (.lload_n 1, 1) := by decide +kernel
theorem dX10_hopeBelow_15 : decode cX10_hopeBelow 15 = .ok (.ldc2_w 357, 3) := by decide +kernel
theorem dX10_hopeBelow_18 : decode cX10_hopeBelow 18 = .ok (.lmul, 1) := by decide +kernel
theorem dX10_hopeBelow_19 : decode cX10_hopeBelow 19 = .ok (.lstore_n 1, 1) := by decide +kernel
theorem dX10_hopeBelow_20 : decode cX10_hopeBelow 20 = .ok (.iinc 3 1, 3) := by decide +kernel
theorem dX10_hopeBelow_23 : decode cX10_hopeBelow 23 = .ok (.goto (-19), 3) := by decide +kernel
theorem dX10_hopeBelow_26 : decode cX10_hopeBelow 26 = .ok (.lload_n 1, 1) := by decide +kernel
theorem dX10_hopeBelow_27 : decode cX10_hopeBelow 27 = .ok (.lreturn, 1) := by decide +kernel
theorem dX10_hopeAbove_0 : decode cX10_hopeAbove 0 = .ok (.lconst 0, 1) := by decide +kernel
theorem dX10_hopeAbove_1 : decode cX10_hopeAbove 1 = .ok (.lstore_n 1, 1) := by decide +kernel
theorem dX10_hopeAbove_2 : decode cX10_hopeAbove 2 = .ok (.iconst 0, 1) := by decide +kernel
theorem dX10_hopeAbove_3 : decode cX10_hopeAbove 3 = .ok (.istore_n 3, 1) := by decide +kernel
theorem dX10_hopeAbove_4 : decode cX10_hopeAbove 4 = .ok (.iload_n 3, 1) := by decide +kernel
theorem dX10_hopeAbove_5 : decode cX10_hopeAbove 5 = .ok (.iconst 1, 1) := by decide +kernel
theorem dX10_hopeAbove_6 : decode cX10_hopeAbove 6 = .ok (.aload_n 0, 1) := by decide +kernel
theorem dX10_hopeAbove_7 : decode cX10_hopeAbove 7 = .ok (.getfield 9, 3) := by decide +kernel
theorem dX10_hopeAbove_10 : decode cX10_hopeAbove 10 = .ok (.iconst 2, 1) := by decide +kernel
theorem dX10_hopeAbove_11 : decode cX10_hopeAbove 11 = .ok (.iaload, 1) := by decide +kernel
theorem dX10_hopeAbove_12 : decode cX10_hopeAbove 12 = .ok (.ishl, 1) := by decide +kernel
theorem dX10_hopeAbove_13 : decode cX10_hopeAbove 13 = .ok (.if_icmp .ge 100, 3) := by decide +kernel
theorem dX10_hopeAbove_16 : decode cX10_hopeAbove 16 = .ok (.lconst 1, 1) := by decide +kernel
theorem dX10_hopeAbove_17 : decode cX10_hopeAbove 17 = .ok (.lstore 4, 2) := by decide +kernel
theorem dX10_hopeAbove_19 : decode cX10_hopeAbove 19 = .ok (.iconst 0, 1) := by decide +kernel
theorem dX10_hopeAbove_20 : decode cX10_hopeAbove 20 = .ok (.istore 6, 2) := by decide +kernel
theorem dX10_hopeAbove_22 : decode cX10_hopeAbove 22 = .ok (.iload 6, 2) := by decide +kernel
theorem dX10_hopeAbove_24 : decode cX10_hopeAbove 24 = .ok (.aload_n 0, 1) := by decide +kernel
theorem dX10_hopeAbove_25 : decode cX10_hopeAbove 25 = .ok (.getfield 9, 3) := by decide +kernel
theorem dX10_hopeAbove_28 : decode cX10_hopeAbove 28 = .ok (.iconst 2, 1) := by decide +kernel
theorem dX10_hopeAbove_29 : decode cX10_hopeAbove 29 = .ok (.iaload, 1) := by decide +kernel
theorem dX10_hopeAbove_30 : decode cX10_hopeAbove 30 = .ok (.if_icmp .ge 46, 3) := by decide +kernel
theorem dX10_hopeAbove_33 : decode cX10_hopeAbove 33 = .ok (.lload 4, 2) := by decide +kernel
theorem dX10_hopeAbove_35 : decode cX10_hopeAbove 35 = .ok (.iload_n 3, 1) := by decide +kernel
theorem dX10_hopeAbove_36 : decode cX10_hopeAbove 36 = .ok (.iload 6, 2) := by decide +kernel
theorem dX10_hopeAbove_38 : decode cX10_hopeAbove 38 = .ok (.ishr, 1) := by decide +kernel
theorem dX10_hopeAbove_39 : decode cX10_hopeAbove 39 = .ok (.iconst 1, 1) := by decide +kernel
theorem dX10_hopeAbove_40 : decode cX10_hopeAbove 40 = .ok (.iand, 1) := by decide +kernel
theorem dX10_hopeAbove_41 : decode cX10_hopeAbove 41 = .ok (.iconst 1, 1) := by decide +kernel
theorem dX10_hopeAbove_42 : decode cX10_hopeAbove 42 = .ok (.if_icmp .ne 14, 3) := by decide +kernel
theorem dX10_hopeAbove_45 : decode cX10_hopeAbove 45 = .ok (.aload_n 0, 1) := by decide +kernel
theorem dX10_hopeAbove_46 : decode cX10_hopeAbove 46 = .ok (.iload 6, 2) := by decide +kernel
theorem dX10_hopeAbove_48 : decode cX10_hopeAbove 48 = .ok (.iconst 2, 1) := by decide +kernel
theorem dX10_hopeAbove_49 : decode cX10_hopeAbove 49 = .ok (.invokevirtual 252, 3) := by decide +kernel
theorem dX10_hopeAbove_52 : decode cX10_hopeAbove 52 = .ok (.i2l, 1) := by decide +kernel
theorem dX10_hopeAbove_53 : decode cX10_hopeAbove 53 = .ok (.goto 14, 3) := by decide +kernel
theorem dX10_hopeAbove_56 : decode cX10_hopeAbove 56 = .ok (.bipush 100, 2) := by decide +kernel
theorem dX10_hopeAbove_58 : decode cX10_hopeAbove 58 = .ok (.aload_n 0, 1) := by decide +kernel
theorem dX10_hopeAbove_59 : decode cX10_hopeAbove 59 = .ok (.iload 6, 2) := by decide +kernel
theorem dX10_hopeAbove_61 : decode cX10_hopeAbove 61 = .ok (.iconst 2, 1) := by decide +kernel
theorem dX10_hopeAbove_62 : decode cX10_hopeAbove 62 = .ok (.invokevirtual 252, 3) := by decide +kernel
theorem dX10_hopeAbove_65 : decode cX10_hopeAbove 65 = .ok (.isub, 1) := by decide +kernel
theorem dX10_hopeAbove_66 : decode cX10_hopeAbove 66 = .ok (.i2l, 1) := by decide +kernel
theorem dX10_hopeAbove_67 : decode cX10_hopeAbove 67 = .ok (.lmul, 1) := by decide +kernel
theorem dX10_hopeAbove_68 : decode cX10_hopeAbove 68 = .ok (.lstore 4, 2) := by decide +kernel
theorem dX10_hopeAbove_70 : decode cX10_hopeAbove 70 = .ok (.iinc 6 1, 3) := by decide +kernel
theorem dX10_hopeAbove_73 : decode cX10_hopeAbove 73 = .ok (.goto (-51), 3) := by decide +kernel
theorem dX10_hopeAbove_76 : decode cX10_hopeAbove 76 = .ok (.lload 4, 2) := by decide +kernel
theorem dX10_hopeAbove_78 : decode cX10_hopeAbove 78 = .ok (.lconst 0, 1) := by decide +kernel
theorem dX10_hopeAbove_79 : decode cX10_hopeAbove 79 = .ok (.lcmp, 1) := by decide +kernel
theorem dX10_hopeAbove_80 : decode cX10_hopeAbove 80 = .ok (.ifCond .ne 6, 3) := by decide +kernel
theorem dX10_hopeAbove_83 : decode cX10_hopeAbove 83 = .ok (.goto 24, 3) := by decide +kernel
theorem dX10_hopeAbove_86 : decode cX10_hopeAbove 86 = .ok (.aload_n 0, 1) := by decide +kernel
theorem dX10_hopeAbove_87 : decode cX10_hopeAbove 87 = .ok (.iload_n 3, 1) := by decide +kernel
theorem dX10_hopeAbove_88 : decode cX10_hopeAbove 88 = .ok (.invokevirtual 294, 3) := by decide +kernel
theorem dX10_hopeAbove_91 : decode cX10_hopeAbove 91 = .ok (.lload_n 1, 1) := by decide +kernel
theorem dX10_hopeAbove_92 : decode cX10_hopeAbove 92 = .ok (.lload 4, 2) := by decide +kernel
theorem dX10_hopeAbove_94 : decode cX10_hopeAbove 94 = .ok (.aload_n 0, 1) := by decide +kernel
theorem dX10_hopeAbove_95 : decode cX10_hopeAbove 95 = .ok (.invokevirtual 327, 3) := by decide +kernel
theorem dX10_hopeAbove_98 : decode cX10_hopeAbove 98 = .ok (.aload_n 0, 1) := by decide +kernel
theorem dX10_hopeAbove_99 : decode cX10_hopeAbove 99 = .ok (.invokevirtual 345, 3) := by decide +kernel
theorem dX10_hopeAbove_102 : decode cX10_hopeAbove 102 = .ok (.isub, 1) := by decide +kernel
theorem dX10_hopeAbove_103 : decode cX10_hopeAbove 103 = .ok (.i2l, 1) := by decide +kernel
theorem dX10_hopeAbove_104 : decode cX10_hopeAbove 104 = .ok (.lmul, 1) := by decide +kernel
theorem dX10_hopeAbove_105 : decode cX10_hopeAbove 105 = .ok (.ladd, 1) := by decide +kernel
theorem dX10_hopeAbove_106 : decode cX10_hopeAbove 106 = .ok (.lstore_n 1, 1) := by decide +kernel
theorem dX10_hopeAbove_107 : decode cX10_hopeAbove 107 = .ok (.iinc 3 1, 3) := by decide +kernel
theorem dX10_hopeAbove_110 : decode cX10_hopeAbove 110 = .ok (.goto (-106), 3) := by decide +kernel
theorem dX10_hopeAbove_113 : decode cX10_hopeAbove 113 = .ok (.lload_n 1, 1) := by decide +kernel
theorem dX10_hopeAbove_114 : decode cX10_hopeAbove 114 = .ok (.lreturn, 1) := by decide +kernel
theorem dX10_part_0 : decode cX10_part 0 = .ok (.lload_n 0, 1) := by decide +kernel
theorem dX10_part_1 : decode cX10_part 1 = .ok (.invokestatic 359, 3) := by decide +kernel
theorem dX10_part_4 : decode cX10_part 4 = .ok (.lstore 5, 2) := by decide +kernel
theorem dX10_part_6 : decode cX10_part 6 = .ok (.lload_n 2, 1) := by decide +kernel
theorem dX10_part_7 : decode cX10_part 7 = .ok (.lstore 7, 2) := by decide +kernel
theorem dX10_part_9 : decode cX10_part 9 = .ok (.lload 7, 2) := by decide +kernel
theorem dX10_part_11 : decode cX10_part 11 = .ok (.lconst 0, 1) := by decide +kernel
theorem dX10_part_12 : decode cX10_part 12 = .ok (.lcmp, 1) := by decide +kernel
theorem dX10_part_13 : decode cX10_part 13 = .ok (.ifCond .eq 21, 3) := by decide +kernel
theorem dX10_part_16 : decode cX10_part 16 = .ok (.lload 5, 2) := by decide +kernel
theorem dX10_part_18 : decode cX10_part 18 = .ok (.lload 7, 2) := by decide +kernel
theorem dX10_part_20 : decode cX10_part 20 = .ok (.lrem, 1) := by decide +kernel
theorem dX10_part_21 : decode cX10_part 21 = .ok (.lstore 9, 2) := by decide +kernel
theorem dX10_part_23 : decode cX10_part 23 = .ok (.lload 7, 2) := by decide +kernel
theorem dX10_part_25 : decode cX10_part 25 = .ok (.lstore 5, 2) := by decide +kernel
theorem dX10_part_27 : decode cX10_part 27 = .ok (.lload 9, 2) := by decide +kernel
theorem dX10_part_29 : decode cX10_part 29 = .ok (.lstore 7, 2) := by decide +kernel
theorem dX10_part_31 : decode cX10_part 31 = .ok (.goto (-22), 3) := by decide +kernel
theorem dX10_part_34 : decode cX10_part 34 = .ok (.iload 4, 2) := by decide +kernel
theorem dX10_part_36 : decode cX10_part 36 = .ok (.ifCond .ne 7, 3) := by decide +kernel
theorem dX10_part_39 : decode cX10_part 39 = .ok (.lload_n 0, 1) := by decide +kernel
theorem dX10_part_40 : decode cX10_part 40 = .ok (.goto 4, 3) := by decide +kernel
theorem dX10_part_43 : decode cX10_part 43 = .ok (.lload_n 2, 1) := by decide +kernel
theorem dX10_part_44 : decode cX10_part 44 = .ok (.lload 5, 2) := by decide +kernel
theorem dX10_part_46 : decode cX10_part 46 = .ok (.ldiv, 1) := by decide +kernel
theorem dX10_part_47 : decode cX10_part 47 = .ok (.lreturn, 1) := by decide +kernel
theorem dX10_hope_0 : decode cX10_hope 0 = .ok (.aload_n 0, 1) := by decide +kernel
theorem dX10_hope_1 : decode cX10_hope 1 = .ok (.invokevirtual 322, 3) := by decide +kernel
theorem dX10_hope_4 : decode cX10_hope 4 = .ok (.ifCond .eq 28, 3) := by decide +kernel
theorem dX10_hope_7 : decode cX10_hope 7 = .ok (.iload_n 1, 1) := by decide +kernel
theorem dX10_hope_8 : decode cX10_hope 8 = .ok (.i2l, 1) := by decide +kernel
theorem dX10_hope_9 : decode cX10_hope 9 = .ok (.lconst 0, 1) := by decide +kernel
theorem dX10_hope_10 : decode cX10_hope 10 = .ok (.lconst 1, 1) := by decide +kernel
theorem dX10_hope_11 : decode cX10_hope 11 = .ok (.invokestatic 85, 3) := by decide +kernel
theorem dX10_hope_14 : decode cX10_hope 14 = .ok (.ifCond .eq 18, 3) := by decide +kernel
theorem dX10_hope_17 : decode cX10_hope 17 = .ok (.aload_n 0, 1) := by decide +kernel
theorem dX10_hope_18 : decode cX10_hope 18 = .ok (.invokevirtual 363, 3) := by decide +kernel
theorem dX10_hope_21 : decode cX10_hope 21 = .ok (.aload_n 0, 1) := by decide +kernel
theorem dX10_hope_22 : decode cX10_hope 22 = .ok (.invokevirtual 367, 3) := by decide +kernel
theorem dX10_hope_25 : decode cX10_hope 25 = .ok (.iload_n 1, 1) := by decide +kernel
theorem dX10_hope_26 : decode cX10_hope 26 = .ok (.invokestatic 370, 3) := by decide +kernel
theorem dX10_hope_29 : decode cX10_hope 29 = .ok (.goto 6, 3) := by decide +kernel
theorem dX10_hope_32 : decode cX10_hope 32 = .ok (.ldc2_w 374, 3) := by decide +kernel
theorem dX10_hope_35 : decode cX10_hope 35 = .ok (.lreturn, 1) := by decide +kernel
theorem dX10_wiseTakers_0 : decode cX10_wiseTakers 0 = .ok (.aload_n 0, 1) := by decide +kernel
theorem dX10_wiseTakers_1 : decode cX10_wiseTakers 1 = .ok (.invokevirtual 333, 3) := by decide +kernel
theorem dX10_wiseTakers_4 : decode cX10_wiseTakers 4 = .ok (.iconst (-1), 1) := by decide +kernel
theorem dX10_wiseTakers_5 : decode cX10_wiseTakers 5 = .ok (.istore_n 1, 1) := by decide +kernel
theorem dX10_wiseTakers_6 : decode cX10_wiseTakers 6 = .ok (.aload_n 0, 1) := by decide +kernel
theorem dX10_wiseTakers_7 : decode cX10_wiseTakers 7 = .ok (.invokevirtual 339, 3) := by decide +kernel
theorem dX10_wiseTakers_10 : decode cX10_wiseTakers 10 = .ok (.istore_n 2, 1) := by decide +kernel
theorem dX10_wiseTakers_11 : decode cX10_wiseTakers 11 = .ok (.iconst 0, 1) := by decide +kernel
theorem dX10_wiseTakers_12 : decode cX10_wiseTakers 12 = .ok (.istore_n 3, 1) := by decide +kernel
theorem dX10_wiseTakers_13 : decode cX10_wiseTakers 13 = .ok (.iload_n 3, 1) := by decide +kernel
theorem dX10_wiseTakers_14 : decode cX10_wiseTakers 14 = .ok (.iload_n 2, 1) := by decide +kernel
theorem dX10_wiseTakers_15 : decode cX10_wiseTakers 15 = .ok (.if_icmp .ge 46, 3) := by decide +kernel
theorem dX10_wiseTakers_18 : decode cX10_wiseTakers 18 = .ok (.aload_n 0, 1) := by decide +kernel
theorem dX10_wiseTakers_19 : decode cX10_wiseTakers 19 = .ok (.iload_n 3, 1) := by decide +kernel
theorem dX10_wiseTakers_20 : decode cX10_wiseTakers 20 = .ok (.invokevirtual 342, 3) := by decide +kernel
theorem dX10_wiseTakers_23 : decode cX10_wiseTakers 23 = .ok (.aload_n 0, 1) := by decide +kernel
theorem dX10_wiseTakers_24 : decode cX10_wiseTakers 24 = .ok (.invokevirtual 363, 3) := by decide +kernel
theorem dX10_wiseTakers_27 : decode cX10_wiseTakers 27 = .ok (.lstore 4, 2) := by decide +kernel
theorem dX10_wiseTakers_29 : decode cX10_wiseTakers 29 = .ok (.iload_n 1, 1) := by decide +kernel
theorem dX10_wiseTakers_30 : decode cX10_wiseTakers 30 = .ok (.iconst (-1), 1) := by decide +kernel
theorem dX10_wiseTakers_31 : decode cX10_wiseTakers 31 = .ok (.if_icmp .eq 16, 3) := by decide +kernel
theorem dX10_wiseTakers_34 : decode cX10_wiseTakers 34 = .ok (.lload 4, 2) := by decide +kernel
theorem dX10_wiseTakers_36 : decode cX10_wiseTakers 36 = .ok (.aload_n 0, 1) := by decide +kernel
theorem dX10_wiseTakers_37 : decode cX10_wiseTakers 37 = .ok (.getfield 376, 3) := by decide +kernel
theorem dX10_wiseTakers_40 : decode cX10_wiseTakers 40 = .ok (.lcmp, 1) := by decide +kernel
theorem dX10_wiseTakers_41 : decode cX10_wiseTakers 41 = .ok (.ifCond .gt 6, 3) := by decide +kernel
theorem dX10_wiseTakers_44 : decode cX10_wiseTakers 44 = .ok (.goto 11, 3) := by decide +kernel
theorem dX10_wiseTakers_47 : decode cX10_wiseTakers 47 = .ok (.iload_n 3, 1) := by decide +kernel
theorem dX10_wiseTakers_48 : decode cX10_wiseTakers 48 = .ok (.istore_n 1, 1) := by decide +kernel
theorem dX10_wiseTakers_49 : decode cX10_wiseTakers 49 = .ok (.aload_n 0, 1) := by decide +kernel
theorem dX10_wiseTakers_50 : decode cX10_wiseTakers 50 = .ok (.lload 4, 2) := by decide +kernel
theorem dX10_wiseTakers_52 : decode cX10_wiseTakers 52 = .ok (.putfield 376, 3) := by decide +kernel
theorem dX10_wiseTakers_55 : decode cX10_wiseTakers 55 = .ok (.iinc 3 1, 3) := by decide +kernel
theorem dX10_wiseTakers_58 : decode cX10_wiseTakers 58 = .ok (.goto (-45), 3) := by decide +kernel
theorem dX10_wiseTakers_61 : decode cX10_wiseTakers 61 = .ok (.aload_n 0, 1) := by decide +kernel
theorem dX10_wiseTakers_62 : decode cX10_wiseTakers 62 = .ok (.invokevirtual 348, 3) := by decide +kernel
theorem dX10_wiseTakers_65 : decode cX10_wiseTakers 65 = .ok (.iload_n 1, 1) := by decide +kernel
theorem dX10_wiseTakers_66 : decode cX10_wiseTakers 66 = .ok (.ireturn, 1) := by decide +kernel
theorem dX10_wise_0 : decode cX10_wise 0 = .ok (.aload_n 0, 1) := by decide +kernel
theorem dX10_wise_1 : decode cX10_wise 1 = .ok (.iload_n 1, 1) := by decide +kernel
theorem dX10_wise_2 : decode cX10_wise 2 = .ok (.invokevirtual 311, 3) := by decide +kernel
theorem dX10_wise_5 : decode cX10_wise 5 = .ok (.ifCond .eq 15, 3) := by decide +kernel
theorem dX10_wise_8 : decode cX10_wise 8 = .ok (.aload_n 0, 1) := by decide +kernel
theorem dX10_wise_9 : decode cX10_wise 9 = .ok (.aload_n 0, 1) := by decide +kernel
theorem dX10_wise_10 : decode cX10_wise 10 = .ok (.invokevirtual 380, 3) := by decide +kernel
theorem dX10_wise_13 : decode cX10_wise 13 = .ok (.iload_n 1, 1) := by decide +kernel
theorem dX10_wise_14 : decode cX10_wise 14 = .ok (.invokevirtual 354, 3) := by decide +kernel
theorem dX10_wise_17 : decode cX10_wise 17 = .ok (.goto 5, 3) := by decide +kernel
theorem dX10_wise_20 : decode cX10_wise 20 = .ok (.bipush (-2), 2) := by decide +kernel
theorem dX10_wise_22 : decode cX10_wise 22 = .ok (.ireturn, 1) := by decide +kernel
theorem dX10_wisest_0 : decode cX10_wisest 0 = .ok (.aload_n 0, 1) := by decide +kernel
theorem dX10_wisest_1 : decode cX10_wisest 1 = .ok (.invokevirtual 322, 3) := by decide +kernel
theorem dX10_wisest_4 : decode cX10_wisest 4 = .ok (.ifCond .eq 13, 3) := by decide +kernel
theorem dX10_wisest_7 : decode cX10_wisest 7 = .ok (.iload_n 1, 1) := by decide +kernel
theorem dX10_wisest_8 : decode cX10_wisest 8 = .ok (.i2l, 1) := by decide +kernel
theorem dX10_wisest_9 : decode cX10_wisest 9 = .ok (.lconst 0, 1) := by decide +kernel
theorem dX10_wisest_10 : decode cX10_wisest 10 = .ok (.lconst 1, 1) := by decide +kernel
theorem dX10_wisest_11 : decode cX10_wisest 11 = .ok (.invokestatic 85, 3) := by decide +kernel
theorem dX10_wisest_14 : decode cX10_wisest 14 = .ok (.ifCond .ne 7, 3) := by decide +kernel
theorem dX10_wisest_17 : decode cX10_wisest 17 = .ok (.ldc2_w 374, 3) := by decide +kernel
theorem dX10_wisest_20 : decode cX10_wisest 20 = .ok (.lreturn, 1) := by decide +kernel
theorem dX10_wisest_21 : decode cX10_wisest 21 = .ok (.aload_n 0, 1) := by decide +kernel
theorem dX10_wisest_22 : decode cX10_wisest 22 = .ok (.invokevirtual 380, 3) := by decide +kernel
theorem dX10_wisest_25 : decode cX10_wisest 25 = .ok (.pop, 1) := by decide +kernel
theorem dX10_wisest_26 : decode cX10_wisest 26 = .ok (.aload_n 0, 1) := by decide +kernel
theorem dX10_wisest_27 : decode cX10_wisest 27 = .ok (.getfield 376, 3) := by decide +kernel
theorem dX10_wisest_30 : decode cX10_wisest 30 = .ok (.aload_n 0, 1) := by decide +kernel
theorem dX10_wisest_31 : decode cX10_wisest 31 = .ok (.invokevirtual 367, 3) := by decide +kernel
theorem dX10_wisest_34 : decode cX10_wisest 34 = .ok (.iload_n 1, 1) := by decide +kernel
theorem dX10_wisest_35 : decode cX10_wisest 35 = .ok (.invokestatic 370, 3) := by decide +kernel
theorem dX10_wisest_38 : decode cX10_wisest 38 = .ok (.lreturn, 1) := by decide +kernel
theorem dX10_asksMarks_0 : decode cX10_asksMarks 0 = .ok (.iload_n 1, 1) := by decide +kernel
theorem dX10_asksMarks_1 : decode cX10_asksMarks 1 = .ok (.invokestatic 383, 3) := by decide +kernel
theorem dX10_asksMarks_4 : decode cX10_asksMarks 4 = .ok (.ifCond .eq 14, 3) := by decide +kernel
theorem dX10_asksMarks_7 : decode cX10_asksMarks 7 = .ok (.aload_n 0, 1) := by decide +kernel
theorem dX10_asksMarks_8 : decode cX10_asksMarks 8 = .ok (.invokevirtual 322, 3) := by decide +kernel
theorem dX10_asksMarks_11 : decode cX10_asksMarks 11 = .ok (.ifCond .eq 7, 3) := by decide +kernel
theorem dX10_asksMarks_14 : decode cX10_asksMarks 14 = .ok (.iload_n 2, 1) := by decide +kernel
theorem dX10_asksMarks_15 : decode cX10_asksMarks 15 = .ok (.ifCond .ne 6, 3) := by decide +kernel
theorem dX10_asksMarks_18 : decode cX10_asksMarks 18 = .ok (.bipush (-2), 2) := by decide +kernel
theorem dX10_asksMarks_20 : decode cX10_asksMarks 20 = .ok (.ireturn, 1) := by decide +kernel
theorem dX10_asksMarks_21 : decode cX10_asksMarks 21 = .ok (.aload_n 0, 1) := by decide +kernel
theorem dX10_asksMarks_22 : decode cX10_asksMarks 22 = .ok (.getfield 67, 3) := by decide +kernel
theorem dX10_asksMarks_25 : decode cX10_asksMarks 25 = .ok (.iload_n 1, 1) := by decide +kernel
theorem dX10_asksMarks_26 : decode cX10_asksMarks 26 = .ok (.iaload, 1) := by decide +kernel
theorem dX10_asksMarks_27 : decode cX10_asksMarks 27 = .ok (.iconst (-1), 1) := by decide +kernel
theorem dX10_asksMarks_28 : decode cX10_asksMarks 28 = .ok (.if_icmp .ne 6, 3) := by decide +kernel
theorem dX10_asksMarks_31 : decode cX10_asksMarks 31 = .ok (.bipush (-6), 2) := by decide +kernel
theorem dX10_asksMarks_33 : decode cX10_asksMarks 33 = .ok (.ireturn, 1) := by decide +kernel
theorem dX10_asksMarks_34 : decode cX10_asksMarks 34 = .ok (.aload_n 0, 1) := by decide +kernel
theorem dX10_asksMarks_35 : decode cX10_asksMarks 35 = .ok (.getfield 67, 3) := by decide +kernel
theorem dX10_asksMarks_38 : decode cX10_asksMarks 38 = .ok (.iload_n 1, 1) := by decide +kernel
theorem dX10_asksMarks_39 : decode cX10_asksMarks 39 = .ok (.iaload, 1) := by decide +kernel
theorem dX10_asksMarks_40 : decode cX10_asksMarks 40 = .ok (.iconst 3, 1) := by decide +kernel
theorem dX10_asksMarks_41 : decode cX10_asksMarks 41 = .ok (.irem, 1) := by decide +kernel
theorem dX10_asksMarks_42 : decode cX10_asksMarks 42 = .ok (.ifCond .eq 6, 3) := by decide +kernel
theorem dX10_asksMarks_45 : decode cX10_asksMarks 45 = .ok (.bipush (-2), 2) := by decide +kernel
theorem dX10_asksMarks_47 : decode cX10_asksMarks 47 = .ok (.ireturn, 1) := by decide +kernel
theorem dX10_asksMarks_48 : decode cX10_asksMarks 48 = .ok (.iconst 0, 1) := by decide +kernel
theorem dX10_asksMarks_49 : decode cX10_asksMarks 49 = .ok (.istore_n 3, 1) := by decide +kernel
theorem dX10_asksMarks_50 : decode cX10_asksMarks 50 = .ok (.iload_n 3, 1) := by decide +kernel
theorem dX10_asksMarks_51 : decode cX10_asksMarks 51 = .ok (.aload_n 0, 1) := by decide +kernel
theorem dX10_asksMarks_52 : decode cX10_asksMarks 52 = .ok (.getfield 67, 3) := by decide +kernel
theorem dX10_asksMarks_55 : decode cX10_asksMarks 55 = .ok (.iload_n 1, 1) := by decide +kernel
theorem dX10_asksMarks_56 : decode cX10_asksMarks 56 = .ok (.iaload, 1) := by decide +kernel
theorem dX10_asksMarks_57 : decode cX10_asksMarks 57 = .ok (.if_icmp .ge 66, 3) := by decide +kernel
theorem dX10_asksMarks_60 : decode cX10_asksMarks 60 = .ok (.aload_n 0, 1) := by decide +kernel
theorem dX10_asksMarks_61 : decode cX10_asksMarks 61 = .ok (.getfield 73, 3) := by decide +kernel
theorem dX10_asksMarks_64 : decode cX10_asksMarks 64 = .ok (.bipush 60, 2) := by decide +kernel
theorem dX10_asksMarks_66 : decode cX10_asksMarks 66 = .ok (.iload_n 1, 1) := by decide +kernel
theorem dX10_asksMarks_67 : decode cX10_asksMarks 67 = .ok (.imul, 1) := by decide +kernel
theorem dX10_asksMarks_68 : decode cX10_asksMarks 68 = .ok (.iload_n 3, 1) := by decide +kernel
theorem dX10_asksMarks_69 : decode cX10_asksMarks 69 = .ok (.iadd, 1) := by decide +kernel
theorem dX10_asksMarks_70 : decode cX10_asksMarks 70 = .ok (.laload, 1) := by decide +kernel
theorem dX10_asksMarks_71 : decode cX10_asksMarks 71 = .ok (.lconst 0, 1) := by decide +kernel
theorem dX10_asksMarks_72 : decode cX10_asksMarks 72 = .ok (.aload_n 0, 1) := by decide +kernel
theorem dX10_asksMarks_73 : decode cX10_asksMarks 73 = .ok (.invokevirtual 89, 3) := by decide +kernel
theorem dX10_asksMarks_76 : decode cX10_asksMarks 76 = .ok (.iconst 1, 1) := by decide +kernel
theorem dX10_asksMarks_77 : decode cX10_asksMarks 77 = .ok (.isub, 1) := by decide +kernel
theorem dX10_asksMarks_78 : decode cX10_asksMarks 78 = .ok (.i2l, 1) := by decide +kernel
theorem dX10_asksMarks_79 : decode cX10_asksMarks 79 = .ok (.invokestatic 85, 3) := by decide +kernel
theorem dX10_asksMarks_82 : decode cX10_asksMarks 82 = .ok (.ifCond .eq 32, 3) := by decide +kernel
theorem dX10_asksMarks_85 : decode cX10_asksMarks 85 = .ok (.aload_n 0, 1) := by decide +kernel
theorem dX10_asksMarks_86 : decode cX10_asksMarks 86 = .ok (.getfield 73, 3) := by decide +kernel
theorem dX10_asksMarks_89 : decode cX10_asksMarks 89 = .ok (.bipush 60, 2) := by decide +kernel
theorem dX10_asksMarks_91 : decode cX10_asksMarks 91 = .ok (.iload_n 1, 1) := by decide +kernel
theorem dX10_asksMarks_92 : decode cX10_asksMarks 92 = .ok (.imul, 1) := by decide +kernel
theorem dX10_asksMarks_93 : decode cX10_asksMarks 93 = .ok (.iload_n 3, 1) := by decide +kernel
theorem dX10_asksMarks_94 : decode cX10_asksMarks 94 = .ok (.iadd, 1) := by decide +kernel
theorem dX10_asksMarks_95 : decode cX10_asksMarks 95 = .ok (.iconst 1, 1) := by decide +kernel
theorem dX10_asksMarks_96 : decode cX10_asksMarks 96 = .ok (.iadd, 1) := by decide +kernel
theorem dX10_asksMarks_97 : decode cX10_asksMarks 97 = .ok (.laload, 1) := by decide +kernel
theorem dX10_asksMarks_98 : decode cX10_asksMarks 98 = .ok (.lconst 0, 1) := by decide +kernel
theorem dX10_asksMarks_99 : decode cX10_asksMarks 99 = .ok (.aload_n 0, 1) := by decide +kernel
theorem dX10_asksMarks_100 : decode cX10_asksMarks 100 = .ok (.getfield 9, 3) := by decide +kernel
theorem dX10_asksMarks_103 : decode cX10_asksMarks 103 = .ok (.iconst 5, 1) := by decide +kernel
theorem dX10_asksMarks_104 : decode cX10_asksMarks 104 = .ok (.iaload, 1) := by decide +kernel
theorem dX10_asksMarks_105 : decode cX10_asksMarks 105 = .ok (.iconst 1, 1) := by decide +kernel
theorem dX10_asksMarks_106 : decode cX10_asksMarks 106 = .ok (.isub, 1) := by decide +kernel
theorem dX10_asksMarks_107 : decode cX10_asksMarks 107 = .ok (.i2l, 1) := by decide +kernel
theorem dX10_asksMarks_108 : decode cX10_asksMarks 108 = .ok (.invokestatic 85, 3) := by decide +kernel
theorem dX10_asksMarks_111 : decode cX10_asksMarks 111 = .ok (.ifCond .ne 6, 3) := by decide +kernel
theorem dX10_asksMarks_114 : decode cX10_asksMarks 114 = .ok (.bipush (-2), 2) := by decide +kernel
theorem dX10_asksMarks_116 : decode cX10_asksMarks 116 = .ok (.ireturn, 1) := by decide +kernel
theorem dX10_asksMarks_117 : decode cX10_asksMarks 117 = .ok (.iinc 3 3, 3) := by decide +kernel
theorem dX10_asksMarks_120 : decode cX10_asksMarks 120 = .ok (.goto (-70), 3) := by decide +kernel
theorem dX10_asksMarks_123 : decode cX10_asksMarks 123 = .ok (.iconst 0, 1) := by decide +kernel
theorem dX10_asksMarks_124 : decode cX10_asksMarks 124 = .ok (.ireturn, 1) := by decide +kernel
theorem dX10_agrees_0 : decode cX10_agrees 0 = .ok (.iconst 0, 1) := by decide +kernel
theorem dX10_agrees_1 : decode cX10_agrees 1 = .ok (.istore_n 3, 1) := by decide +kernel
theorem dX10_agrees_2 : decode cX10_agrees 2 = .ok (.iconst 3, 1) := by decide +kernel
theorem dX10_agrees_3 : decode cX10_agrees 3 = .ok (.iload_n 3, 1) := by decide +kernel
theorem dX10_agrees_4 : decode cX10_agrees 4 = .ok (.imul, 1) := by decide +kernel
theorem dX10_agrees_5 : decode cX10_agrees 5 = .ok (.aload_n 0, 1) := by decide +kernel
theorem dX10_agrees_6 : decode cX10_agrees 6 = .ok (.getfield 67, 3) := by decide +kernel
theorem dX10_agrees_9 : decode cX10_agrees 9 = .ok (.iload_n 1, 1) := by decide +kernel
theorem dX10_agrees_10 : decode cX10_agrees 10 = .ok (.iaload, 1) := by decide +kernel
theorem dX10_agrees_11 : decode cX10_agrees 11 = .ok (.if_icmp .ge 67, 3) := by decide +kernel
theorem dX10_agrees_14 : decode cX10_agrees 14 = .ok (.bipush 60, 2) := by decide +kernel
theorem dX10_agrees_16 : decode cX10_agrees 16 = .ok (.iload_n 1, 1) := by decide +kernel
theorem dX10_agrees_17 : decode cX10_agrees 17 = .ok (.imul, 1) := by decide +kernel
theorem dX10_agrees_18 : decode cX10_agrees 18 = .ok (.iconst 3, 1) := by decide +kernel
theorem dX10_agrees_19 : decode cX10_agrees 19 = .ok (.iload_n 3, 1) := by decide +kernel
theorem dX10_agrees_20 : decode cX10_agrees 20 = .ok (.imul, 1) := by decide +kernel
theorem dX10_agrees_21 : decode cX10_agrees 21 = .ok (.iadd, 1) := by decide +kernel
theorem dX10_agrees_22 : decode cX10_agrees 22 = .ok (.istore 4, 2) := by decide +kernel
theorem dX10_agrees_24 : decode cX10_agrees 24 = .ok (.iload_n 3, 1) := by decide +kernel
theorem dX10_agrees_25 : decode cX10_agrees 25 = .ok (.iload_n 2, 1) := by decide +kernel
theorem dX10_agrees_26 : decode cX10_agrees 26 = .ok (.if_icmp .eq 46, 3) := by decide +kernel
theorem dX10_agrees_29 : decode cX10_agrees 29 = .ok (.aload_n 0, 1) := by decide +kernel
theorem dX10_agrees_30 : decode cX10_agrees 30 = .ok (.getfield 37, 3) := by decide +kernel
theorem dX10_agrees_33 : decode cX10_agrees 33 = .ok (.bipush 30, 2) := by decide +kernel
theorem dX10_agrees_35 : decode cX10_agrees 35 = .ok (.aload_n 0, 1) := by decide +kernel
theorem dX10_agrees_36 : decode cX10_agrees 36 = .ok (.getfield 73, 3) := by decide +kernel
theorem dX10_agrees_39 : decode cX10_agrees 39 = .ok (.iload 4, 2) := by decide +kernel
theorem dX10_agrees_41 : decode cX10_agrees 41 = .ok (.laload, 1) := by decide +kernel
theorem dX10_agrees_42 : decode cX10_agrees 42 = .ok (.l2i, 1) := by decide +kernel
theorem dX10_agrees_43 : decode cX10_agrees 43 = .ok (.imul, 1) := by decide +kernel
theorem dX10_agrees_44 : decode cX10_agrees 44 = .ok (.aload_n 0, 1) := by decide +kernel
theorem dX10_agrees_45 : decode cX10_agrees 45 = .ok (.getfield 73, 3) := by decide +kernel
theorem dX10_agrees_48 : decode cX10_agrees 48 = .ok (.iload 4, 2) := by decide +kernel
theorem dX10_agrees_50 : decode cX10_agrees 50 = .ok (.iconst 1, 1) := by decide +kernel
theorem dX10_agrees_51 : decode cX10_agrees 51 = .ok (.iadd, 1) := by decide +kernel
theorem dX10_agrees_52 : decode cX10_agrees 52 = .ok (.laload, 1) := by decide +kernel
theorem dX10_agrees_53 : decode cX10_agrees 53 = .ok (.l2i, 1) := by decide +kernel
theorem dX10_agrees_54 : decode cX10_agrees 54 = .ok (.iadd, 1) := by decide +kernel
theorem dX10_agrees_55 : decode cX10_agrees 55 = .ok (.iaload, 1) := by decide +kernel
theorem dX10_agrees_56 : decode cX10_agrees 56 = .ok (.i2l, 1) := by decide +kernel
theorem dX10_agrees_57 : decode cX10_agrees 57 = .ok (.aload_n 0, 1) := by decide +kernel
theorem dX10_agrees_58 : decode cX10_agrees 58 = .ok (.getfield 73, 3) := by decide +kernel
theorem dX10_agrees_61 : decode cX10_agrees 61 = .ok (.iload 4, 2) := by decide +kernel
theorem dX10_agrees_63 : decode cX10_agrees 63 = .ok (.iconst 2, 1) := by decide +kernel
theorem dX10_agrees_64 : decode cX10_agrees 64 = .ok (.iadd, 1) := by decide +kernel
theorem dX10_agrees_65 : decode cX10_agrees 65 = .ok (.laload, 1) := by decide +kernel
theorem dX10_agrees_66 : decode cX10_agrees 66 = .ok (.lcmp, 1) := by decide +kernel
theorem dX10_agrees_67 : decode cX10_agrees 67 = .ok (.ifCond .eq 5, 3) := by decide +kernel
theorem dX10_agrees_70 : decode cX10_agrees 70 = .ok (.iconst 0, 1) := by decide +kernel
theorem dX10_agrees_71 : decode cX10_agrees 71 = .ok (.ireturn, 1) := by decide +kernel
theorem dX10_agrees_72 : decode cX10_agrees 72 = .ok (.iinc 3 1, 3) := by decide +kernel
theorem dX10_agrees_75 : decode cX10_agrees 75 = .ok (.goto (-73), 3) := by decide +kernel
theorem dX10_agrees_78 : decode cX10_agrees 78 = .ok (.iconst 1, 1) := by decide +kernel
theorem dX10_agrees_79 : decode cX10_agrees 79 = .ok (.ireturn, 1) := by decide +kernel
theorem dX10_agreeBut_0 : decode cX10_agreeBut 0 = .ok (.aload_n 0, 1) := by decide +kernel
theorem dX10_agreeBut_1 : decode cX10_agreeBut 1 = .ok (.invokevirtual 333, 3) := by decide +kernel
theorem dX10_agreeBut_4 : decode cX10_agreeBut 4 = .ok (.iconst 0, 1) := by decide +kernel
theorem dX10_agreeBut_5 : decode cX10_agreeBut 5 = .ok (.istore_n 3, 1) := by decide +kernel
theorem dX10_agreeBut_6 : decode cX10_agreeBut 6 = .ok (.aload_n 0, 1) := by decide +kernel
theorem dX10_agreeBut_7 : decode cX10_agreeBut 7 = .ok (.invokevirtual 339, 3) := by decide +kernel
theorem dX10_agreeBut_10 : decode cX10_agreeBut 10 = .ok (.istore 4, 2) := by decide +kernel
theorem dX10_agreeBut_12 : decode cX10_agreeBut 12 = .ok (.iconst 0, 1) := by decide +kernel
theorem dX10_agreeBut_13 : decode cX10_agreeBut 13 = .ok (.istore 5, 2) := by decide +kernel
theorem dX10_agreeBut_15 : decode cX10_agreeBut 15 = .ok (.iload 5, 2) := by decide +kernel
theorem dX10_agreeBut_17 : decode cX10_agreeBut 17 = .ok (.iload 4, 2) := by decide +kernel
theorem dX10_agreeBut_19 : decode cX10_agreeBut 19 = .ok (.if_icmp .ge 36, 3) := by decide +kernel
theorem dX10_agreeBut_22 : decode cX10_agreeBut 22 = .ok (.aload_n 0, 1) := by decide +kernel
theorem dX10_agreeBut_23 : decode cX10_agreeBut 23 = .ok (.iload 5, 2) := by decide +kernel
theorem dX10_agreeBut_25 : decode cX10_agreeBut 25 = .ok (.invokevirtual 342, 3) := by decide +kernel
theorem dX10_agreeBut_28 : decode cX10_agreeBut 28 = .ok (.aload_n 0, 1) := by decide +kernel
theorem dX10_agreeBut_29 : decode cX10_agreeBut 29 = .ok (.invokevirtual 317, 3) := by decide +kernel
theorem dX10_agreeBut_32 : decode cX10_agreeBut 32 = .ok (.iload_n 3, 1) := by decide +kernel
theorem dX10_agreeBut_33 : decode cX10_agreeBut 33 = .ok (.aload_n 0, 1) := by decide +kernel
theorem dX10_agreeBut_34 : decode cX10_agreeBut 34 = .ok (.iload_n 1, 1) := by decide +kernel
theorem dX10_agreeBut_35 : decode cX10_agreeBut 35 = .ok (.iload_n 2, 1) := by decide +kernel
theorem dX10_agreeBut_36 : decode cX10_agreeBut 36 = .ok (.invokevirtual 386, 3) := by decide +kernel
theorem dX10_agreeBut_39 : decode cX10_agreeBut 39 = .ok (.ifCond .eq 7, 3) := by decide +kernel
theorem dX10_agreeBut_42 : decode cX10_agreeBut 42 = .ok (.iconst 1, 1) := by decide +kernel
theorem dX10_agreeBut_43 : decode cX10_agreeBut 43 = .ok (.goto 4, 3) := by decide +kernel
theorem dX10_agreeBut_46 : decode cX10_agreeBut 46 = .ok (.iconst 0, 1) := by decide +kernel
theorem dX10_agreeBut_47 : decode cX10_agreeBut 47 = .ok (.iadd, 1) := by decide +kernel
theorem dX10_agreeBut_48 : decode cX10_agreeBut 48 = .ok (.istore_n 3, 1) := by decide +kernel
theorem dX10_agreeBut_49 : decode cX10_agreeBut 49 = .ok (.iinc 5 1, 3) := by decide +kernel
theorem dX10_agreeBut_52 : decode cX10_agreeBut 52 = .ok (.goto (-37), 3) := by decide +kernel
theorem dX10_agreeBut_55 : decode cX10_agreeBut 55 = .ok (.aload_n 0, 1) := by decide +kernel
theorem dX10_agreeBut_56 : decode cX10_agreeBut 56 = .ok (.invokevirtual 348, 3) := by decide +kernel
theorem dX10_agreeBut_59 : decode cX10_agreeBut 59 = .ok (.iload_n 3, 1) := by decide +kernel
theorem dX10_agreeBut_60 : decode cX10_agreeBut 60 = .ok (.ireturn, 1) := by decide +kernel
theorem dX10_agree_0 : decode cX10_agree 0 = .ok (.aload_n 0, 1) := by decide +kernel
theorem dX10_agree_1 : decode cX10_agree 1 = .ok (.iload_n 1, 1) := by decide +kernel
theorem dX10_agree_2 : decode cX10_agree 2 = .ok (.iconst 1, 1) := by decide +kernel
theorem dX10_agree_3 : decode cX10_agree 3 = .ok (.invokevirtual 390, 3) := by decide +kernel
theorem dX10_agree_6 : decode cX10_agree 6 = .ok (.istore_n 2, 1) := by decide +kernel
theorem dX10_agree_7 : decode cX10_agree 7 = .ok (.iload_n 2, 1) := by decide +kernel
theorem dX10_agree_8 : decode cX10_agree 8 = .ok (.ifCond .ge 7, 3) := by decide +kernel
theorem dX10_agree_11 : decode cX10_agree 11 = .ok (.iload_n 2, 1) := by decide +kernel
theorem dX10_agree_12 : decode cX10_agree 12 = .ok (.goto 9, 3) := by decide +kernel
theorem dX10_agree_15 : decode cX10_agree 15 = .ok (.aload_n 0, 1) := by decide +kernel
theorem dX10_agree_16 : decode cX10_agree 16 = .ok (.iload_n 1, 1) := by decide +kernel
theorem dX10_agree_17 : decode cX10_agree 17 = .ok (.iconst (-1), 1) := by decide +kernel
theorem dX10_agree_18 : decode cX10_agree 18 = .ok (.invokevirtual 394, 3) := by decide +kernel
theorem dX10_agree_21 : decode cX10_agree 21 = .ok (.ireturn, 1) := by decide +kernel
theorem dX10_who_0 : decode cX10_who 0 = .ok (.aload_n 0, 1) := by decide +kernel
theorem dX10_who_1 : decode cX10_who 1 = .ok (.iload_n 1, 1) := by decide +kernel
theorem dX10_who_2 : decode cX10_who 2 = .ok (.aload_n 0, 1) := by decide +kernel
theorem dX10_who_3 : decode cX10_who 3 = .ok (.iload_n 2, 1) := by decide +kernel
theorem dX10_who_4 : decode cX10_who 4 = .ok (.invokevirtual 311, 3) := by decide +kernel
theorem dX10_who_7 : decode cX10_who 7 = .ok (.invokevirtual 390, 3) := by decide +kernel
theorem dX10_who_10 : decode cX10_who 10 = .ok (.istore_n 3, 1) := by decide +kernel
theorem dX10_who_11 : decode cX10_who 11 = .ok (.iload_n 3, 1) := by decide +kernel
theorem dX10_who_12 : decode cX10_who 12 = .ok (.ifCond .ge 5, 3) := by decide +kernel
theorem dX10_who_15 : decode cX10_who 15 = .ok (.iload_n 3, 1) := by decide +kernel
theorem dX10_who_16 : decode cX10_who 16 = .ok (.ireturn, 1) := by decide +kernel
theorem dX10_who_17 : decode cX10_who 17 = .ok (.aload_n 0, 1) := by decide +kernel
theorem dX10_who_18 : decode cX10_who 18 = .ok (.invokevirtual 333, 3) := by decide +kernel
theorem dX10_who_21 : decode cX10_who 21 = .ok (.iconst (-1), 1) := by decide +kernel
theorem dX10_who_22 : decode cX10_who 22 = .ok (.istore 4, 2) := by decide +kernel
theorem dX10_who_24 : decode cX10_who 24 = .ok (.iconst 1, 1) := by decide +kernel
theorem dX10_who_25 : decode cX10_who 25 = .ok (.istore 5, 2) := by decide +kernel
theorem dX10_who_27 : decode cX10_who 27 = .ok (.aload_n 0, 1) := by decide +kernel
theorem dX10_who_28 : decode cX10_who 28 = .ok (.invokevirtual 339, 3) := by decide +kernel
theorem dX10_who_31 : decode cX10_who 31 = .ok (.istore 6, 2) := by decide +kernel
theorem dX10_who_33 : decode cX10_who 33 = .ok (.iconst 0, 1) := by decide +kernel
theorem dX10_who_34 : decode cX10_who 34 = .ok (.istore 7, 2) := by decide +kernel
theorem dX10_who_36 : decode cX10_who 36 = .ok (.iload 7, 2) := by decide +kernel
theorem dX10_who_38 : decode cX10_who 38 = .ok (.iload 6, 2) := by decide +kernel
theorem dX10_who_40 : decode cX10_who 40 = .ok (.if_icmp .ge 91, 3) := by decide +kernel
theorem dX10_who_43 : decode cX10_who 43 = .ok (.aload_n 0, 1) := by decide +kernel
theorem dX10_who_44 : decode cX10_who 44 = .ok (.iload 7, 2) := by decide +kernel
theorem dX10_who_46 : decode cX10_who 46 = .ok (.invokevirtual 342, 3) := by decide +kernel
theorem dX10_who_49 : decode cX10_who 49 = .ok (.aload_n 0, 1) := by decide +kernel
theorem dX10_who_50 : decode cX10_who 50 = .ok (.invokevirtual 317, 3) := by decide +kernel
theorem dX10_who_53 : decode cX10_who 53 = .ok (.aload_n 0, 1) := by decide +kernel
theorem dX10_who_54 : decode cX10_who 54 = .ok (.iload_n 1, 1) := by decide +kernel
theorem dX10_who_55 : decode cX10_who 55 = .ok (.iconst (-1), 1) := by decide +kernel
theorem dX10_who_56 : decode cX10_who 56 = .ok (.invokevirtual 386, 3) := by decide +kernel
theorem dX10_who_59 : decode cX10_who 59 = .ok (.ifCond .ne 6, 3) := by decide +kernel
theorem dX10_who_62 : decode cX10_who 62 = .ok (.goto 63, 3) := by decide +kernel
theorem dX10_who_65 : decode cX10_who 65 = .ok (.aload_n 0, 1) := by decide +kernel
theorem dX10_who_66 : decode cX10_who 66 = .ok (.getfield 9, 3) := by decide +kernel
theorem dX10_who_69 : decode cX10_who 69 = .ok (.sipush 157, 3) := by decide +kernel
theorem dX10_who_72 : decode cX10_who 72 = .ok (.iload_n 2, 1) := by decide +kernel
theorem dX10_who_73 : decode cX10_who 73 = .ok (.iadd, 1) := by decide +kernel
theorem dX10_who_74 : decode cX10_who 74 = .ok (.iaload, 1) := by decide +kernel
theorem dX10_who_75 : decode cX10_who 75 = .ok (.iconst (-1), 1) := by decide +kernel
theorem dX10_who_76 : decode cX10_who 76 = .ok (.if_icmp .ne 8, 3) := by decide +kernel
theorem dX10_who_79 : decode cX10_who 79 = .ok (.bipush 9, 2) := by decide +kernel
theorem dX10_who_81 : decode cX10_who 81 = .ok (.goto 13, 3) := by decide +kernel
theorem dX10_who_84 : decode cX10_who 84 = .ok (.aload_n 0, 1) := by decide +kernel
theorem dX10_who_85 : decode cX10_who 85 = .ok (.getfield 9, 3) := by decide +kernel
theorem dX10_who_88 : decode cX10_who 88 = .ok (.sipush 157, 3) := by decide +kernel
theorem dX10_who_91 : decode cX10_who 91 = .ok (.iload_n 2, 1) := by decide +kernel
theorem dX10_who_92 : decode cX10_who 92 = .ok (.iadd, 1) := by decide +kernel
theorem dX10_who_93 : decode cX10_who 93 = .ok (.iaload, 1) := by decide +kernel
theorem dX10_who_94 : decode cX10_who 94 = .ok (.istore 8, 2) := by decide +kernel
theorem dX10_who_96 : decode cX10_who 96 = .ok (.iload 5, 2) := by decide +kernel
theorem dX10_who_98 : decode cX10_who 98 = .ok (.ifCond .eq 20, 3) := by decide +kernel
theorem dX10_who_101 : decode cX10_who 101 = .ok (.iload 4, 2) := by decide +kernel
theorem dX10_who_103 : decode cX10_who 103 = .ok (.iconst (-1), 1) := by decide +kernel
theorem dX10_who_104 : decode cX10_who 104 = .ok (.if_icmp .eq 10, 3) := by decide +kernel
theorem dX10_who_107 : decode cX10_who 107 = .ok (.iload 4, 2) := by decide +kernel
theorem dX10_who_109 : decode cX10_who 109 = .ok (.iload 8, 2) := by decide +kernel
theorem dX10_who_111 : decode cX10_who 111 = .ok (.if_icmp .ne 7, 3) := by decide +kernel
theorem dX10_who_114 : decode cX10_who 114 = .ok (.iconst 1, 1) := by decide +kernel
theorem dX10_who_115 : decode cX10_who 115 = .ok (.goto 4, 3) := by decide +kernel
theorem dX10_who_118 : decode cX10_who 118 = .ok (.iconst 0, 1) := by decide +kernel
theorem dX10_who_119 : decode cX10_who 119 = .ok (.istore 5, 2) := by decide +kernel
theorem dX10_who_121 : decode cX10_who 121 = .ok (.iload 8, 2) := by decide +kernel
theorem dX10_who_123 : decode cX10_who 123 = .ok (.istore 4, 2) := by decide +kernel
theorem dX10_who_125 : decode cX10_who 125 = .ok (.iinc 7 1, 3) := by decide +kernel
theorem dX10_who_128 : decode cX10_who 128 = .ok (.goto (-92), 3) := by decide +kernel
theorem dX10_who_131 : decode cX10_who 131 = .ok (.aload_n 0, 1) := by decide +kernel
theorem dX10_who_132 : decode cX10_who 132 = .ok (.invokevirtual 348, 3) := by decide +kernel
theorem dX10_who_135 : decode cX10_who 135 = .ok (.iload 5, 2) := by decide +kernel
theorem dX10_who_137 : decode cX10_who 137 = .ok (.ifCond .eq 8, 3) := by decide +kernel
theorem dX10_who_140 : decode cX10_who 140 = .ok (.iload 4, 2) := by decide +kernel
theorem dX10_who_142 : decode cX10_who 142 = .ok (.goto 4, 3) := by decide +kernel
theorem dX10_who_145 : decode cX10_who 145 = .ok (.iconst (-1), 1) := by decide +kernel
theorem dX10_who_146 : decode cX10_who 146 = .ok (.ireturn, 1) := by decide +kernel
theorem dX10_sure_0 : decode cX10_sure 0 = .ok (.aload_n 0, 1) := by decide +kernel
theorem dX10_sure_1 : decode cX10_sure 1 = .ok (.iload_n 1, 1) := by decide +kernel
theorem dX10_sure_2 : decode cX10_sure 2 = .ok (.aload_n 0, 1) := by decide +kernel
theorem dX10_sure_3 : decode cX10_sure 3 = .ok (.iload_n 2, 1) := by decide +kernel
theorem dX10_sure_4 : decode cX10_sure 4 = .ok (.invokevirtual 93, 3) := by decide +kernel
theorem dX10_sure_7 : decode cX10_sure 7 = .ok (.ifCond .eq 15, 3) := by decide +kernel
theorem dX10_sure_10 : decode cX10_sure 10 = .ok (.aload_n 0, 1) := by decide +kernel
theorem dX10_sure_11 : decode cX10_sure 11 = .ok (.iload_n 3, 1) := by decide +kernel
theorem dX10_sure_12 : decode cX10_sure 12 = .ok (.invokevirtual 314, 3) := by decide +kernel
theorem dX10_sure_15 : decode cX10_sure 15 = .ok (.ifCond .eq 7, 3) := by decide +kernel
theorem dX10_sure_18 : decode cX10_sure 18 = .ok (.iconst 1, 1) := by decide +kernel
theorem dX10_sure_19 : decode cX10_sure 19 = .ok (.goto 4, 3) := by decide +kernel
theorem dX10_sure_22 : decode cX10_sure 22 = .ok (.iconst 0, 1) := by decide +kernel
theorem dX10_sure_23 : decode cX10_sure 23 = .ok (.invokevirtual 390, 3) := by decide +kernel
theorem dX10_sure_26 : decode cX10_sure 26 = .ok (.istore 4, 2) := by decide +kernel
theorem dX10_sure_28 : decode cX10_sure 28 = .ok (.iload 4, 2) := by decide +kernel
theorem dX10_sure_30 : decode cX10_sure 30 = .ok (.ifCond .ge 6, 3) := by decide +kernel
theorem dX10_sure_33 : decode cX10_sure 33 = .ok (.iload 4, 2) := by decide +kernel
theorem dX10_sure_35 : decode cX10_sure 35 = .ok (.ireturn, 1) := by decide +kernel
theorem dX10_sure_36 : decode cX10_sure 36 = .ok (.aload_n 0, 1) := by decide +kernel
theorem dX10_sure_37 : decode cX10_sure 37 = .ok (.invokevirtual 333, 3) := by decide +kernel
theorem dX10_sure_40 : decode cX10_sure 40 = .ok (.iconst (-1), 1) := by decide +kernel
theorem dX10_sure_41 : decode cX10_sure 41 = .ok (.istore 5, 2) := by decide +kernel
theorem dX10_sure_43 : decode cX10_sure 43 = .ok (.iconst 1, 1) := by decide +kernel
theorem dX10_sure_44 : decode cX10_sure 44 = .ok (.istore 6, 2) := by decide +kernel
theorem dX10_sure_46 : decode cX10_sure 46 = .ok (.aload_n 0, 1) := by decide +kernel
theorem dX10_sure_47 : decode cX10_sure 47 = .ok (.invokevirtual 339, 3) := by decide +kernel
theorem dX10_sure_50 : decode cX10_sure 50 = .ok (.istore 7, 2) := by decide +kernel
theorem dX10_sure_52 : decode cX10_sure 52 = .ok (.iconst 0, 1) := by decide +kernel
theorem dX10_sure_53 : decode cX10_sure 53 = .ok (.istore 8, 2) := by decide +kernel
theorem dX10_sure_55 : decode cX10_sure 55 = .ok (.iload 8, 2) := by decide +kernel
theorem dX10_sure_57 : decode cX10_sure 57 = .ok (.iload 7, 2) := by decide +kernel
theorem dX10_sure_59 : decode cX10_sure 59 = .ok (.if_icmp .ge 78, 3) := by decide +kernel
theorem dX10_sure_62 : decode cX10_sure 62 = .ok (.aload_n 0, 1) := by decide +kernel
