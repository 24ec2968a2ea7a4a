theorem dX10_sure_63 : decode cX10_sure 63 = .ok (.iload 8, 2) := by decide +kernel
theorem dX10_sure_65 : decode cX10_sure 65 = .ok (.invokevirtual 342, 3) := by decide +kernel
theorem dX10_sure_68 : decode cX10_sure 68 = .ok (.aload_n 0, 1) := by decide +kernel
theorem dX10_sure_69 : decode cX10_sure 69 = .ok (.invokevirtual 317, 3) := by decide +kernel
theorem dX10_sure_72 : decode cX10_sure 72 = .ok (.aload_n 0, 1) := by decide +kernel
theorem dX10_sure_73 : decode cX10_sure 73 = .ok (.iload_n 1, 1) := by decide +kernel
theorem dX10_sure_74 : decode cX10_sure 74 = .ok (.iconst (-1), 1) := by decide +kernel
theorem dX10_sure_75 : decode cX10_sure 75 = .ok (.invokevirtual 386, 3) := by decide +kernel
theorem dX10_sure_78 : decode cX10_sure 78 = .ok (.ifCond .ne 6, 3) := by decide +kernel
theorem dX10_sure_81 : decode cX10_sure 81 = .ok (.goto 50, 3) := by decide +kernel
theorem dX10_sure_84 : decode cX10_sure 84 = .ok (.iload 6, 2) := by decide +kernel
theorem dX10_sure_86 : decode cX10_sure 86 = .ok (.ifCond .eq 29, 3) := by decide +kernel
theorem dX10_sure_89 : decode cX10_sure 89 = .ok (.iload 5, 2) := by decide +kernel
theorem dX10_sure_91 : decode cX10_sure 91 = .ok (.iconst (-1), 1) := by decide +kernel
theorem dX10_sure_92 : decode cX10_sure 92 = .ok (.if_icmp .eq 19, 3) := by decide +kernel
theorem dX10_sure_95 : decode cX10_sure 95 = .ok (.iload 5, 2) := by decide +kernel
theorem dX10_sure_97 : decode cX10_sure 97 = .ok (.aload_n 0, 1) := by decide +kernel
theorem dX10_sure_98 : decode cX10_sure 98 = .ok (.getfield 37, 3) := by decide +kernel
theorem dX10_sure_101 : decode cX10_sure 101 = .ok (.bipush 30, 2) := by decide +kernel
theorem dX10_sure_103 : decode cX10_sure 103 = .ok (.iload_n 2, 1) := by decide +kernel
theorem dX10_sure_104 : decode cX10_sure 104 = .ok (.imul, 1) := by decide +kernel
theorem dX10_sure_105 : decode cX10_sure 105 = .ok (.iload_n 3, 1) := by decide +kernel
theorem dX10_sure_106 : decode cX10_sure 106 = .ok (.iadd, 1) := by decide +kernel
theorem dX10_sure_107 : decode cX10_sure 107 = .ok (.iaload, 1) := by decide +kernel
theorem dX10_sure_108 : decode cX10_sure 108 = .ok (.if_icmp .ne 7, 3) := by decide +kernel
theorem dX10_sure_111 : decode cX10_sure 111 = .ok (.iconst 1, 1) := by decide +kernel
theorem dX10_sure_112 : decode cX10_sure 112 = .ok (.goto 4, 3) := by decide +kernel
theorem dX10_sure_115 : decode cX10_sure 115 = .ok (.iconst 0, 1) := by decide +kernel
theorem dX10_sure_116 : decode cX10_sure 116 = .ok (.istore 6, 2) := by decide +kernel
theorem dX10_sure_118 : decode cX10_sure 118 = .ok (.aload_n 0, 1) := by decide +kernel
theorem dX10_sure_119 : decode cX10_sure 119 = .ok (.getfield 37, 3) := by decide +kernel
theorem dX10_sure_122 : decode cX10_sure 122 = .ok (.bipush 30, 2) := by decide +kernel
theorem dX10_sure_124 : decode cX10_sure 124 = .ok (.iload_n 2, 1) := by decide +kernel
theorem dX10_sure_125 : decode cX10_sure 125 = .ok (.imul, 1) := by decide +kernel
theorem dX10_sure_126 : decode cX10_sure 126 = .ok (.iload_n 3, 1) := by decide +kernel
theorem dX10_sure_127 : decode cX10_sure 127 = .ok (.iadd, 1) := by decide +kernel
theorem dX10_sure_128 : decode cX10_sure 128 = .ok (.iaload, 1) := by decide +kernel
theorem dX10_sure_129 : decode cX10_sure 129 = .ok (.istore 5, 2) := by decide +kernel
theorem dX10_sure_131 : decode cX10_sure 131 = .ok (.iinc 8 1, 3) := by decide +kernel
theorem dX10_sure_134 : decode cX10_sure 134 = .ok (.goto (-79), 3) := by decide +kernel
theorem dX10_sure_137 : decode cX10_sure 137 = .ok (.aload_n 0, 1) := by decide +kernel
theorem dX10_sure_138 : decode cX10_sure 138 = .ok (.invokevirtual 348, 3) := by decide +kernel
theorem dX10_sure_141 : decode cX10_sure 141 = .ok (.iload 6, 2) := by decide +kernel
theorem dX10_sure_143 : decode cX10_sure 143 = .ok (.ifCond .eq 8, 3) := by decide +kernel
theorem dX10_sure_146 : decode cX10_sure 146 = .ok (.iload 5, 2) := by decide +kernel
theorem dX10_sure_148 : decode cX10_sure 148 = .ok (.goto 4, 3) := by decide +kernel
theorem dX10_sure_151 : decode cX10_sure 151 = .ok (.iconst (-1), 1) := by decide +kernel
theorem dX10_sure_152 : decode cX10_sure 152 = .ok (.ireturn, 1) := by decide +kernel
theorem dX10_needed_0 : decode cX10_needed 0 = .ok (.aload_n 0, 1) := by decide +kernel
theorem dX10_needed_1 : decode cX10_needed 1 = .ok (.iload_n 1, 1) := by decide +kernel
theorem dX10_needed_2 : decode cX10_needed 2 = .ok (.iconst 1, 1) := by decide +kernel
theorem dX10_needed_3 : decode cX10_needed 3 = .ok (.invokevirtual 390, 3) := by decide +kernel
theorem dX10_needed_6 : decode cX10_needed 6 = .ok (.istore_n 2, 1) := by decide +kernel
theorem dX10_needed_7 : decode cX10_needed 7 = .ok (.iload_n 2, 1) := by decide +kernel
theorem dX10_needed_8 : decode cX10_needed 8 = .ok (.ifCond .ge 5, 3) := by decide +kernel
theorem dX10_needed_11 : decode cX10_needed 11 = .ok (.iload_n 2, 1) := by decide +kernel
theorem dX10_needed_12 : decode cX10_needed 12 = .ok (.ireturn, 1) := by decide +kernel
theorem dX10_needed_13 : decode cX10_needed 13 = .ok (.aload_n 0, 1) := by decide +kernel
theorem dX10_needed_14 : decode cX10_needed 14 = .ok (.iload_n 1, 1) := by decide +kernel
theorem dX10_needed_15 : decode cX10_needed 15 = .ok (.iconst (-1), 1) := by decide +kernel
theorem dX10_needed_16 : decode cX10_needed 16 = .ok (.invokevirtual 394, 3) := by decide +kernel
theorem dX10_needed_19 : decode cX10_needed 19 = .ok (.istore_n 3, 1) := by decide +kernel
theorem dX10_needed_20 : decode cX10_needed 20 = .ok (.iconst 0, 1) := by decide +kernel
theorem dX10_needed_21 : decode cX10_needed 21 = .ok (.istore 4, 2) := by decide +kernel
theorem dX10_needed_23 : decode cX10_needed 23 = .ok (.iconst 3, 1) := by decide +kernel
theorem dX10_needed_24 : decode cX10_needed 24 = .ok (.iload 4, 2) := by decide +kernel
theorem dX10_needed_26 : decode cX10_needed 26 = .ok (.imul, 1) := by decide +kernel
theorem dX10_needed_27 : decode cX10_needed 27 = .ok (.aload_n 0, 1) := by decide +kernel
theorem dX10_needed_28 : decode cX10_needed 28 = .ok (.getfield 67, 3) := by decide +kernel
theorem dX10_needed_31 : decode cX10_needed 31 = .ok (.iload_n 1, 1) := by decide +kernel
theorem dX10_needed_32 : decode cX10_needed 32 = .ok (.iaload, 1) := by decide +kernel
theorem dX10_needed_33 : decode cX10_needed 33 = .ok (.if_icmp .ge 23, 3) := by decide +kernel
theorem dX10_needed_36 : decode cX10_needed 36 = .ok (.aload_n 0, 1) := by decide +kernel
theorem dX10_needed_37 : decode cX10_needed 37 = .ok (.iload_n 1, 1) := by decide +kernel
theorem dX10_needed_38 : decode cX10_needed 38 = .ok (.iload 4, 2) := by decide +kernel
theorem dX10_needed_40 : decode cX10_needed 40 = .ok (.invokevirtual 394, 3) := by decide +kernel
theorem dX10_needed_43 : decode cX10_needed 43 = .ok (.iload_n 3, 1) := by decide +kernel
theorem dX10_needed_44 : decode cX10_needed 44 = .ok (.if_icmp .le 6, 3) := by decide +kernel
theorem dX10_needed_47 : decode cX10_needed 47 = .ok (.iload 4, 2) := by decide +kernel
theorem dX10_needed_49 : decode cX10_needed 49 = .ok (.ireturn, 1) := by decide +kernel
theorem dX10_needed_50 : decode cX10_needed 50 = .ok (.iinc 4 1, 3) := by decide +kernel
theorem dX10_needed_53 : decode cX10_needed 53 = .ok (.goto (-30), 3) := by decide +kernel
theorem dX10_needed_56 : decode cX10_needed 56 = .ok (.iconst (-1), 1) := by decide +kernel
theorem dX10_needed_57 : decode cX10_needed 57 = .ok (.ireturn, 1) := by decide +kernel
theorem dX10_haveOf_0 : decode cX10_haveOf 0 = .ok (.aload_n 0, 1) := by decide +kernel
theorem dX10_haveOf_1 : decode cX10_haveOf 1 = .ok (.getfield 34, 3) := by decide +kernel
theorem dX10_haveOf_4 : decode cX10_haveOf 4 = .ok (.iload_n 1, 1) := by decide +kernel
theorem dX10_haveOf_5 : decode cX10_haveOf 5 = .ok (.iaload, 1) := by decide +kernel
theorem dX10_haveOf_6 : decode cX10_haveOf 6 = .ok (.istore_n 2, 1) := by decide +kernel
theorem dX10_haveOf_7 : decode cX10_haveOf 7 = .ok (.iconst 0, 1) := by decide +kernel
theorem dX10_haveOf_8 : decode cX10_haveOf 8 = .ok (.istore_n 3, 1) := by decide +kernel
theorem dX10_haveOf_9 : decode cX10_haveOf 9 = .ok (.iload_n 3, 1) := by decide +kernel
theorem dX10_haveOf_10 : decode cX10_haveOf 10 = .ok (.aload_n 0, 1) := by decide +kernel
theorem dX10_haveOf_11 : decode cX10_haveOf 11 = .ok (.getfield 9, 3) := by decide +kernel
theorem dX10_haveOf_14 : decode cX10_haveOf 14 = .ok (.iconst 1, 1) := by decide +kernel
theorem dX10_haveOf_15 : decode cX10_haveOf 15 = .ok (.iaload, 1) := by decide +kernel
theorem dX10_haveOf_16 : decode cX10_haveOf 16 = .ok (.if_icmp .ge 36, 3) := by decide +kernel
theorem dX10_haveOf_19 : decode cX10_haveOf 19 = .ok (.iload_n 2, 1) := by decide +kernel
theorem dX10_haveOf_20 : decode cX10_haveOf 20 = .ok (.aload_n 0, 1) := by decide +kernel
theorem dX10_haveOf_21 : decode cX10_haveOf 21 = .ok (.iload_n 3, 1) := by decide +kernel
theorem dX10_haveOf_22 : decode cX10_haveOf 22 = .ok (.iconst 0, 1) := by decide +kernel
theorem dX10_haveOf_23 : decode cX10_haveOf 23 = .ok (.invokevirtual 267, 3) := by decide +kernel
theorem dX10_haveOf_26 : decode cX10_haveOf 26 = .ok (.iload_n 1, 1) := by decide +kernel
theorem dX10_haveOf_27 : decode cX10_haveOf 27 = .ok (.if_icmp .ne 16, 3) := by decide +kernel
theorem dX10_haveOf_30 : decode cX10_haveOf 30 = .ok (.aload_n 0, 1) := by decide +kernel
theorem dX10_haveOf_31 : decode cX10_haveOf 31 = .ok (.getfield 46, 3) := by decide +kernel
theorem dX10_haveOf_34 : decode cX10_haveOf 34 = .ok (.iconst 3, 1) := by decide +kernel
theorem dX10_haveOf_35 : decode cX10_haveOf 35 = .ok (.iload_n 3, 1) := by decide +kernel
theorem dX10_haveOf_36 : decode cX10_haveOf 36 = .ok (.imul, 1) := by decide +kernel
theorem dX10_haveOf_37 : decode cX10_haveOf 37 = .ok (.iconst 0, 1) := by decide +kernel
theorem dX10_haveOf_38 : decode cX10_haveOf 38 = .ok (.iadd, 1) := by decide +kernel
theorem dX10_haveOf_39 : decode cX10_haveOf 39 = .ok (.iaload, 1) := by decide +kernel
theorem dX10_haveOf_40 : decode cX10_haveOf 40 = .ok (.goto 4, 3) := by decide +kernel
theorem dX10_haveOf_43 : decode cX10_haveOf 43 = .ok (.iconst 0, 1) := by decide +kernel
theorem dX10_haveOf_44 : decode cX10_haveOf 44 = .ok (.iadd, 1) := by decide +kernel
theorem dX10_haveOf_45 : decode cX10_haveOf 45 = .ok (.istore_n 2, 1) := by decide +kernel
theorem dX10_haveOf_46 : decode cX10_haveOf 46 = .ok (.iinc 3 1, 3) := by decide +kernel
theorem dX10_haveOf_49 : decode cX10_haveOf 49 = .ok (.goto (-40), 3) := by decide +kernel
theorem dX10_haveOf_52 : decode cX10_haveOf 52 = .ok (.iload_n 2, 1) := by decide +kernel
theorem dX10_haveOf_53 : decode cX10_haveOf 53 = .ok (.ireturn, 1) := by decide +kernel
theorem dX10_fair_0 : decode cX10_fair 0 = .ok (.aload_n 0, 1) := by decide +kernel
theorem dX10_fair_1 : decode cX10_fair 1 = .ok (.iload_n 1, 1) := by decide +kernel
theorem dX10_fair_2 : decode cX10_fair 2 = .ok (.invokevirtual 93, 3) := by decide +kernel
theorem dX10_fair_5 : decode cX10_fair 5 = .ok (.ifCond .ne 6, 3) := by decide +kernel
theorem dX10_fair_8 : decode cX10_fair 8 = .ok (.bipush (-2), 2) := by decide +kernel
theorem dX10_fair_10 : decode cX10_fair 10 = .ok (.ireturn, 1) := by decide +kernel
theorem dX10_fair_11 : decode cX10_fair 11 = .ok (.aload_n 0, 1) := by decide +kernel
theorem dX10_fair_12 : decode cX10_fair 12 = .ok (.getfield 9, 3) := by decide +kernel
theorem dX10_fair_15 : decode cX10_fair 15 = .ok (.bipush 6, 2) := by decide +kernel
theorem dX10_fair_17 : decode cX10_fair 17 = .ok (.iaload, 1) := by decide +kernel
theorem dX10_fair_18 : decode cX10_fair 18 = .ok (.istore_n 2, 1) := by decide +kernel
theorem dX10_fair_19 : decode cX10_fair 19 = .ok (.iconst (-1), 1) := by decide +kernel
theorem dX10_fair_20 : decode cX10_fair 20 = .ok (.istore_n 3, 1) := by decide +kernel
theorem dX10_fair_21 : decode cX10_fair 21 = .ok (.iconst 0, 1) := by decide +kernel
theorem dX10_fair_22 : decode cX10_fair 22 = .ok (.istore 4, 2) := by decide +kernel
theorem dX10_fair_24 : decode cX10_fair 24 = .ok (.iload 4, 2) := by decide +kernel
theorem dX10_fair_26 : decode cX10_fair 26 = .ok (.bipush 100, 2) := by decide +kernel
theorem dX10_fair_28 : decode cX10_fair 28 = .ok (.if_icmp .gt 65, 3) := by decide +kernel
theorem dX10_fair_31 : decode cX10_fair 31 = .ok (.iload_n 3, 1) := by decide +kernel
theorem dX10_fair_32 : decode cX10_fair 32 = .ok (.iconst (-1), 1) := by decide +kernel
theorem dX10_fair_33 : decode cX10_fair 33 = .ok (.if_icmp .ne 60, 3) := by decide +kernel
theorem dX10_fair_36 : decode cX10_fair 36 = .ok (.aload_n 0, 1) := by decide +kernel
theorem dX10_fair_37 : decode cX10_fair 37 = .ok (.getfield 9, 3) := by decide +kernel
theorem dX10_fair_40 : decode cX10_fair 40 = .ok (.bipush 6, 2) := by decide +kernel
theorem dX10_fair_42 : decode cX10_fair 42 = .ok (.iload 4, 2) := by decide +kernel
theorem dX10_fair_44 : decode cX10_fair 44 = .ok (.iastore, 1) := by decide +kernel
theorem dX10_fair_45 : decode cX10_fair 45 = .ok (.aload_n 0, 1) := by decide +kernel
theorem dX10_fair_46 : decode cX10_fair 46 = .ok (.invokevirtual 317, 3) := by decide +kernel
theorem dX10_fair_49 : decode cX10_fair 49 = .ok (.aload_n 0, 1) := by decide +kernel
theorem dX10_fair_50 : decode cX10_fair 50 = .ok (.iload_n 1, 1) := by decide +kernel
theorem dX10_fair_51 : decode cX10_fair 51 = .ok (.invokevirtual 397, 3) := by decide +kernel
theorem dX10_fair_54 : decode cX10_fair 54 = .ok (.istore 5, 2) := by decide +kernel
theorem dX10_fair_56 : decode cX10_fair 56 = .ok (.aload_n 0, 1) := by decide +kernel
theorem dX10_fair_57 : decode cX10_fair 57 = .ok (.iload_n 1, 1) := by decide +kernel
theorem dX10_fair_58 : decode cX10_fair 58 = .ok (.putfield 49, 3) := by decide +kernel
theorem dX10_fair_61 : decode cX10_fair 61 = .ok (.aload_n 0, 1) := by decide +kernel
theorem dX10_fair_62 : decode cX10_fair 62 = .ok (.invokevirtual 317, 3) := by decide +kernel
theorem dX10_fair_65 : decode cX10_fair 65 = .ok (.aload_n 0, 1) := by decide +kernel
theorem dX10_fair_66 : decode cX10_fair 66 = .ok (.iconst (-1), 1) := by decide +kernel
theorem dX10_fair_67 : decode cX10_fair 67 = .ok (.putfield 49, 3) := by decide +kernel
theorem dX10_fair_70 : decode cX10_fair 70 = .ok (.iload 5, 2) := by decide +kernel
theorem dX10_fair_72 : decode cX10_fair 72 = .ok (.aload_n 0, 1) := by decide +kernel
theorem dX10_fair_73 : decode cX10_fair 73 = .ok (.iload_n 1, 1) := by decide +kernel
theorem dX10_fair_74 : decode cX10_fair 74 = .ok (.invokevirtual 397, 3) := by decide +kernel
theorem dX10_fair_77 : decode cX10_fair 77 = .ok (.if_icmp .lt 8, 3) := by decide +kernel
theorem dX10_fair_80 : decode cX10_fair 80 = .ok (.iload 4, 2) := by decide +kernel
theorem dX10_fair_82 : decode cX10_fair 82 = .ok (.goto 4, 3) := by decide +kernel
theorem dX10_fair_85 : decode cX10_fair 85 = .ok (.iconst (-1), 1) := by decide +kernel
theorem dX10_fair_86 : decode cX10_fair 86 = .ok (.istore_n 3, 1) := by decide +kernel
theorem dX10_fair_87 : decode cX10_fair 87 = .ok (.iinc 4 1, 3) := by decide +kernel
theorem dX10_fair_90 : decode cX10_fair 90 = .ok (.goto (-66), 3) := by decide +kernel
theorem dX10_fair_93 : decode cX10_fair 93 = .ok (.aload_n 0, 1) := by decide +kernel
theorem dX10_fair_94 : decode cX10_fair 94 = .ok (.getfield 9, 3) := by decide +kernel
theorem dX10_fair_97 : decode cX10_fair 97 = .ok (.bipush 6, 2) := by decide +kernel
theorem dX10_fair_99 : decode cX10_fair 99 = .ok (.iload_n 2, 1) := by decide +kernel
theorem dX10_fair_100 : decode cX10_fair 100 = .ok (.iastore, 1) := by decide +kernel
theorem dX10_fair_101 : decode cX10_fair 101 = .ok (.iload_n 3, 1) := by decide +kernel
theorem dX10_fair_102 : decode cX10_fair 102 = .ok (.ireturn, 1) := by decide +kernel
theorem dX10_more_0 : decode cX10_more 0 = .ok (.aload_n 0, 1) := by decide +kernel
theorem dX10_more_1 : decode cX10_more 1 = .ok (.invokevirtual 322, 3) := by decide +kernel
theorem dX10_more_4 : decode cX10_more 4 = .ok (.ifCond .eq 15, 3) := by decide +kernel
theorem dX10_more_7 : decode cX10_more 7 = .ok (.iload_n 1, 1) := by decide +kernel
theorem dX10_more_8 : decode cX10_more 8 = .ok (.i2l, 1) := by decide +kernel
theorem dX10_more_9 : decode cX10_more 9 = .ok (.lconst 0, 1) := by decide +kernel
theorem dX10_more_10 : decode cX10_more 10 = .ok (.ldc2_w 357, 3) := by decide +kernel
theorem dX10_more_13 : decode cX10_more 13 = .ok (.invokestatic 85, 3) := by decide +kernel
theorem dX10_more_16 : decode cX10_more 16 = .ok (.ifCond .ne 6, 3) := by decide +kernel
theorem dX10_more_19 : decode cX10_more 19 = .ok (.bipush (-2), 2) := by decide +kernel
theorem dX10_more_21 : decode cX10_more 21 = .ok (.ireturn, 1) := by decide +kernel
theorem dX10_more_22 : decode cX10_more 22 = .ok (.aload_n 0, 1) := by decide +kernel
theorem dX10_more_23 : decode cX10_more 23 = .ok (.getfield 9, 3) := by decide +kernel
theorem dX10_more_26 : decode cX10_more 26 = .ok (.bipush 6, 2) := by decide +kernel
theorem dX10_more_28 : decode cX10_more 28 = .ok (.iaload, 1) := by decide +kernel
theorem dX10_more_29 : decode cX10_more 29 = .ok (.istore_n 2, 1) := by decide +kernel
theorem dX10_more_30 : decode cX10_more 30 = .ok (.aload_n 0, 1) := by decide +kernel
theorem dX10_more_31 : decode cX10_more 31 = .ok (.getfield 9, 3) := by decide +kernel
theorem dX10_more_34 : decode cX10_more 34 = .ok (.bipush 6, 2) := by decide +kernel
theorem dX10_more_36 : decode cX10_more 36 = .ok (.iload_n 1, 1) := by decide +kernel
theorem dX10_more_37 : decode cX10_more 37 = .ok (.iastore, 1) := by decide +kernel
theorem dX10_more_38 : decode cX10_more 38 = .ok (.iload_n 2, 1) := by decide +kernel
theorem dX10_more_39 : decode cX10_more 39 = .ok (.ireturn, 1) := by decide +kernel
theorem dX10_fillDebts_0 : decode cX10_fillDebts 0 = .ok (.aload_n 0, 1) := by decide +kernel
theorem dX10_fillDebts_1 : decode cX10_fillDebts 1 = .ok (.invokevirtual 317, 3) := by decide +kernel
theorem dX10_fillDebts_4 : decode cX10_fillDebts 4 = .ok (.iconst 0, 1) := by decide +kernel
theorem dX10_fillDebts_5 : decode cX10_fillDebts 5 = .ok (.istore_n 1, 1) := by decide +kernel
theorem dX10_fillDebts_6 : decode cX10_fillDebts 6 = .ok (.iload_n 1, 1) := by decide +kernel
theorem dX10_fillDebts_7 : decode cX10_fillDebts 7 = .ok (.bipush 36, 2) := by decide +kernel
theorem dX10_fillDebts_9 : decode cX10_fillDebts 9 = .ok (.if_icmp .ge 16, 3) := by decide +kernel
theorem dX10_fillDebts_12 : decode cX10_fillDebts 12 = .ok (.aload_n 0, 1) := by decide +kernel
theorem dX10_fillDebts_13 : decode cX10_fillDebts 13 = .ok (.getfield 55, 3) := by decide +kernel
theorem dX10_fillDebts_16 : decode cX10_fillDebts 16 = .ok (.iload_n 1, 1) := by decide +kernel
theorem dX10_fillDebts_17 : decode cX10_fillDebts 17 = .ok (.iconst 0, 1) := by decide +kernel
theorem dX10_fillDebts_18 : decode cX10_fillDebts 18 = .ok (.iastore, 1) := by decide +kernel
theorem dX10_fillDebts_19 : decode cX10_fillDebts 19 = .ok (.iinc 1 1, 3) := by decide +kernel
theorem dX10_fillDebts_22 : decode cX10_fillDebts 22 = .ok (.goto (-16), 3) := by decide +kernel
theorem dX10_fillDebts_25 : decode cX10_fillDebts 25 = .ok (.iconst 0, 1) := by decide +kernel
theorem dX10_fillDebts_26 : decode cX10_fillDebts 26 = .ok (.istore_n 1, 1) := by decide +kernel
theorem dX10_fillDebts_27 : decode cX10_fillDebts 27 = .ok (.iload_n 1, 1) := by decide +kernel
theorem dX10_fillDebts_28 : decode cX10_fillDebts 28 = .ok (.aload_n 0, 1) := by decide +kernel
theorem dX10_fillDebts_29 : decode cX10_fillDebts 29 = .ok (.getfield 9, 3) := by decide +kernel
theorem dX10_fillDebts_32 : decode cX10_fillDebts 32 = .ok (.iconst 3, 1) := by decide +kernel
theorem dX10_fillDebts_33 : decode cX10_fillDebts 33 = .ok (.iaload, 1) := by decide +kernel
theorem dX10_fillDebts_34 : decode cX10_fillDebts 34 = .ok (.if_icmp .ge 38, 3) := by decide +kernel
theorem dX10_fillDebts_37 : decode cX10_fillDebts 37 = .ok (.aload_n 0, 1) := by decide +kernel
theorem dX10_fillDebts_38 : decode cX10_fillDebts 38 = .ok (.getfield 55, 3) := by decide +kernel
theorem dX10_fillDebts_41 : decode cX10_fillDebts 41 = .ok (.bipush 6, 2) := by decide +kernel
theorem dX10_fillDebts_43 : decode cX10_fillDebts 43 = .ok (.aload_n 0, 1) := by decide +kernel
theorem dX10_fillDebts_44 : decode cX10_fillDebts 44 = .ok (.iload_n 1, 1) := by decide +kernel
theorem dX10_fillDebts_45 : decode cX10_fillDebts 45 = .ok (.iconst 1, 1) := by decide +kernel
theorem dX10_fillDebts_46 : decode cX10_fillDebts 46 = .ok (.invokevirtual 261, 3) := by decide +kernel
theorem dX10_fillDebts_49 : decode cX10_fillDebts 49 = .ok (.imul, 1) := by decide +kernel
theorem dX10_fillDebts_50 : decode cX10_fillDebts 50 = .ok (.aload_n 0, 1) := by decide +kernel
theorem dX10_fillDebts_51 : decode cX10_fillDebts 51 = .ok (.iload_n 1, 1) := by decide +kernel
theorem dX10_fillDebts_52 : decode cX10_fillDebts 52 = .ok (.iconst 0, 1) := by decide +kernel
theorem dX10_fillDebts_53 : decode cX10_fillDebts 53 = .ok (.invokevirtual 261, 3) := by decide +kernel
theorem dX10_fillDebts_56 : decode cX10_fillDebts 56 = .ok (.iadd, 1) := by decide +kernel
theorem dX10_fillDebts_57 : decode cX10_fillDebts 57 = .ok (.dup2, 1) := by decide +kernel
theorem dX10_fillDebts_58 : decode cX10_fillDebts 58 = .ok (.iaload, 1) := by decide +kernel
theorem dX10_fillDebts_59 : decode cX10_fillDebts 59 = .ok (.aload_n 0, 1) := by decide +kernel
theorem dX10_fillDebts_60 : decode cX10_fillDebts 60 = .ok (.iload_n 1, 1) := by decide +kernel
theorem dX10_fillDebts_61 : decode cX10_fillDebts 61 = .ok (.invokevirtual 300, 3) := by decide +kernel
theorem dX10_fillDebts_64 : decode cX10_fillDebts 64 = .ok (.iadd, 1) := by decide +kernel
theorem dX10_fillDebts_65 : decode cX10_fillDebts 65 = .ok (.iastore, 1) := by decide +kernel
theorem dX10_fillDebts_66 : decode cX10_fillDebts 66 = .ok (.iinc 1 1, 3) := by decide +kernel
theorem dX10_fillDebts_69 : decode cX10_fillDebts 69 = .ok (.goto (-42), 3) := by decide +kernel
theorem dX10_fillDebts_72 : decode cX10_fillDebts 72 = .ok (.return_, 1) := by decide +kernel
theorem dX10_debt_0 : decode cX10_debt 0 = .ok (.aload_n 0, 1) := by decide +kernel
theorem dX10_debt_1 : decode cX10_debt 1 = .ok (.getfield 55, 3) := by decide +kernel
theorem dX10_debt_4 : decode cX10_debt 4 = .ok (.bipush 6, 2) := by decide +kernel
theorem dX10_debt_6 : decode cX10_debt 6 = .ok (.iload_n 1, 1) := by decide +kernel
theorem dX10_debt_7 : decode cX10_debt 7 = .ok (.imul, 1) := by decide +kernel
theorem dX10_debt_8 : decode cX10_debt 8 = .ok (.iload_n 2, 1) := by decide +kernel
theorem dX10_debt_9 : decode cX10_debt 9 = .ok (.iadd, 1) := by decide +kernel
theorem dX10_debt_10 : decode cX10_debt 10 = .ok (.iaload, 1) := by decide +kernel
theorem dX10_debt_11 : decode cX10_debt 11 = .ok (.ireturn, 1) := by decide +kernel
theorem dX10_isRing_0 : decode cX10_isRing 0 = .ok (.iconst 0, 1) := by decide +kernel
theorem dX10_isRing_1 : decode cX10_isRing 1 = .ok (.istore_n 2, 1) := by decide +kernel
theorem dX10_isRing_2 : decode cX10_isRing 2 = .ok (.iconst 0, 1) := by decide +kernel
theorem dX10_isRing_3 : decode cX10_isRing 3 = .ok (.istore_n 3, 1) := by decide +kernel
theorem dX10_isRing_4 : decode cX10_isRing 4 = .ok (.iload_n 3, 1) := by decide +kernel
theorem dX10_isRing_5 : decode cX10_isRing 5 = .ok (.iload_n 1, 1) := by decide +kernel
theorem dX10_isRing_6 : decode cX10_isRing 6 = .ok (.if_icmp .ge 74, 3) := by decide +kernel
theorem dX10_isRing_9 : decode cX10_isRing 9 = .ok (.aload_n 0, 1) := by decide +kernel
theorem dX10_isRing_10 : decode cX10_isRing 10 = .ok (.getfield 61, 3) := by decide +kernel
theorem dX10_isRing_13 : decode cX10_isRing 13 = .ok (.iload_n 3, 1) := by decide +kernel
theorem dX10_isRing_14 : decode cX10_isRing 14 = .ok (.iaload, 1) := by decide +kernel
theorem dX10_isRing_15 : decode cX10_isRing 15 = .ok (.aload_n 0, 1) := by decide +kernel
theorem dX10_isRing_16 : decode cX10_isRing 16 = .ok (.getfield 61, 3) := by decide +kernel
theorem dX10_isRing_19 : decode cX10_isRing 19 = .ok (.iconst 0, 1) := by decide +kernel
theorem dX10_isRing_20 : decode cX10_isRing 20 = .ok (.iaload, 1) := by decide +kernel
theorem dX10_isRing_21 : decode cX10_isRing 21 = .ok (.if_icmp .lt 40, 3) := by decide +kernel
theorem dX10_isRing_24 : decode cX10_isRing 24 = .ok (.iload_n 2, 1) := by decide +kernel
theorem dX10_isRing_25 : decode cX10_isRing 25 = .ok (.aload_n 0, 1) := by decide +kernel
theorem dX10_isRing_26 : decode cX10_isRing 26 = .ok (.getfield 61, 3) := by decide +kernel
theorem dX10_isRing_29 : decode cX10_isRing 29 = .ok (.iload_n 3, 1) := by decide +kernel
theorem dX10_isRing_30 : decode cX10_isRing 30 = .ok (.iaload, 1) := by decide +kernel
theorem dX10_isRing_31 : decode cX10_isRing 31 = .ok (.ishr, 1) := by decide +kernel
theorem dX10_isRing_32 : decode cX10_isRing 32 = .ok (.iconst 1, 1) := by decide +kernel
theorem dX10_isRing_33 : decode cX10_isRing 33 = .ok (.iand, 1) := by decide +kernel
theorem dX10_isRing_34 : decode cX10_isRing 34 = .ok (.iconst 1, 1) := by decide +kernel
theorem dX10_isRing_35 : decode cX10_isRing 35 = .ok (.if_icmp .eq 26, 3) := by decide +kernel
theorem dX10_isRing_38 : decode cX10_isRing 38 = .ok (.aload_n 0, 1) := by decide +kernel
theorem dX10_isRing_39 : decode cX10_isRing 39 = .ok (.aload_n 0, 1) := by decide +kernel
theorem dX10_isRing_40 : decode cX10_isRing 40 = .ok (.getfield 61, 3) := by decide +kernel
theorem dX10_isRing_43 : decode cX10_isRing 43 = .ok (.iload_n 3, 1) := by decide +kernel
theorem dX10_isRing_44 : decode cX10_isRing 44 = .ok (.iaload, 1) := by decide +kernel
theorem dX10_isRing_45 : decode cX10_isRing 45 = .ok (.aload_n 0, 1) := by decide +kernel
theorem dX10_isRing_46 : decode cX10_isRing 46 = .ok (.getfield 61, 3) := by decide +kernel
theorem dX10_isRing_49 : decode cX10_isRing 49 = .ok (.iload_n 3, 1) := by decide +kernel
theorem dX10_isRing_50 : decode cX10_isRing 50 = .ok (.iconst 1, 1) := by decide +kernel
theorem dX10_isRing_51 : decode cX10_isRing 51 = .ok (.iadd, 1) := by decide +kernel
theorem dX10_isRing_52 : decode cX10_isRing 52 = .ok (.iload_n 1, 1) := by decide +kernel
theorem dX10_isRing_53 : decode cX10_isRing 53 = .ok (.irem, 1) := by decide +kernel
theorem dX10_isRing_54 : decode cX10_isRing 54 = .ok (.iaload, 1) := by decide +kernel
theorem dX10_isRing_55 : decode cX10_isRing 55 = .ok (.invokevirtual 400, 3) := by decide +kernel
theorem dX10_isRing_58 : decode cX10_isRing 58 = .ok (.ifCond .ne 5, 3) := by decide +kernel
theorem dX10_isRing_61 : decode cX10_isRing 61 = .ok (.iconst 0, 1) := by decide +kernel
theorem dX10_isRing_62 : decode cX10_isRing 62 = .ok (.ireturn, 1) := by decide +kernel
theorem dX10_isRing_63 : decode cX10_isRing 63 = .ok (.iload_n 2, 1) := by decide +kernel
theorem dX10_isRing_64 : decode cX10_isRing 64 = .ok (.iconst 1, 1) := by decide +kernel
theorem dX10_isRing_65 : decode cX10_isRing 65 = .ok (.aload_n 0, 1) := by decide +kernel
theorem dX10_isRing_66 : decode cX10_isRing 66 = .ok (.getfield 61, 3) := by decide +kernel
theorem dX10_isRing_69 : decode cX10_isRing 69 = .ok (.iload_n 3, 1) := by decide +kernel
theorem dX10_isRing_70 : decode cX10_isRing 70 = .ok (.iaload, 1) := by decide +kernel
theorem dX10_isRing_71 : decode cX10_isRing 71 = .ok (.ishl, 1) := by decide +kernel
theorem dX10_isRing_72 : decode cX10_isRing 72 = .ok (.ior, 1) := by decide +kernel
theorem dX10_isRing_73 : decode cX10_isRing 73 = .ok (.istore_n 2, 1) := by decide +kernel
theorem dX10_isRing_74 : decode cX10_isRing 74 = .ok (.iinc 3 1, 3) := by decide +kernel
theorem dX10_isRing_77 : decode cX10_isRing 77 = .ok (.goto (-73), 3) := by decide +kernel
theorem dX10_isRing_80 : decode cX10_isRing 80 = .ok (.iconst 1, 1) := by decide +kernel
theorem dX10_isRing_81 : decode cX10_isRing 81 = .ok (.ireturn, 1) := by decide +kernel
theorem dX10_findsRing_0 : decode cX10_findsRing 0 = .ok (.iconst 1, 1) := by decide +kernel
theorem dX10_findsRing_1 : decode cX10_findsRing 1 = .ok (.istore_n 2, 1) := by decide +kernel
theorem dX10_findsRing_2 : decode cX10_findsRing 2 = .ok (.iconst 0, 1) := by decide +kernel
theorem dX10_findsRing_3 : decode cX10_findsRing 3 = .ok (.istore_n 3, 1) := by decide +kernel
theorem dX10_findsRing_4 : decode cX10_findsRing 4 = .ok (.iload_n 3, 1) := by decide +kernel
theorem dX10_findsRing_5 : decode cX10_findsRing 5 = .ok (.iload_n 1, 1) := by decide +kernel
theorem dX10_findsRing_6 : decode cX10_findsRing 6 = .ok (.if_icmp .ge 16, 3) := by decide +kernel
theorem dX10_findsRing_9 : decode cX10_findsRing 9 = .ok (.iload_n 2, 1) := by decide +kernel
theorem dX10_findsRing_10 : decode cX10_findsRing 10 = .ok (.aload_n 0, 1) := by decide +kernel
theorem dX10_findsRing_11 : decode cX10_findsRing 11 = .ok (.invokevirtual 89, 3) := by decide +kernel
theorem dX10_findsRing_14 : decode cX10_findsRing 14 = .ok (.imul, 1) := by decide +kernel
theorem dX10_findsRing_15 : decode cX10_findsRing 15 = .ok (.istore_n 2, 1) := by decide +kernel
theorem dX10_findsRing_16 : decode cX10_findsRing 16 = .ok (.iinc 3 1, 3) := by decide +kernel
theorem dX10_findsRing_19 : decode cX10_findsRing 19 = .ok (.goto (-15), 3) := by decide +kernel
theorem dX10_findsRing_22 : decode cX10_findsRing 22 = .ok (.iconst 0, 1) := by decide +kernel
theorem dX10_findsRing_23 : decode cX10_findsRing 23 = .ok (.istore_n 3, 1) := by decide +kernel
theorem dX10_findsRing_24 : decode cX10_findsRing 24 = .ok (.iload_n 3, 1) := by decide +kernel
theorem dX10_findsRing_25 : decode cX10_findsRing 25 = .ok (.iload_n 2, 1) := by decide +kernel
theorem dX10_findsRing_26 : decode cX10_findsRing 26 = .ok (.if_icmp .ge 61, 3) := by decide +kernel
theorem dX10_findsRing_29 : decode cX10_findsRing 29 = .ok (.iload_n 3, 1) := by decide +kernel
theorem dX10_findsRing_30 : decode cX10_findsRing 30 = .ok (.istore 4, 2) := by decide +kernel
theorem dX10_findsRing_32 : decode cX10_findsRing 32 = .ok (.iload_n 1, 1) := by decide +kernel
theorem dX10_findsRing_33 : decode cX10_findsRing 33 = .ok (.iconst 1, 1) := by decide +kernel
theorem dX10_findsRing_34 : decode cX10_findsRing 34 = .ok (.isub, 1) := by decide +kernel
theorem dX10_findsRing_35 : decode cX10_findsRing 35 = .ok (.istore 5, 2) := by decide +kernel
theorem dX10_findsRing_37 : decode cX10_findsRing 37 = .ok (.iload 5, 2) := by decide +kernel
theorem dX10_findsRing_39 : decode cX10_findsRing 39 = .ok (.ifCond .lt 32, 3) := by decide +kernel
theorem dX10_findsRing_42 : decode cX10_findsRing 42 = .ok (.aload_n 0, 1) := by decide +kernel
theorem dX10_findsRing_43 : decode cX10_findsRing 43 = .ok (.getfield 61, 3) := by decide +kernel
theorem dX10_findsRing_46 : decode cX10_findsRing 46 = .ok (.iload 5, 2) := by decide +kernel
theorem dX10_findsRing_48 : decode cX10_findsRing 48 = .ok (.iload 4, 2) := by decide +kernel
theorem dX10_findsRing_50 : decode cX10_findsRing 50 = .ok (.aload_n 0, 1) := by decide +kernel
theorem dX10_findsRing_51 : decode cX10_findsRing 51 = .ok (.invokevirtual 89, 3) := by decide +kernel
theorem dX10_findsRing_54 : decode cX10_findsRing 54 = .ok (.irem, 1) := by decide +kernel
theorem dX10_findsRing_55 : decode cX10_findsRing 55 = .ok (.iastore, 1) := by decide +kernel
theorem dX10_findsRing_56 : decode cX10_findsRing 56 = .ok (.iload 4, 2) := by decide +kernel
theorem dX10_findsRing_58 : decode cX10_findsRing 58 = .ok (.aload_n 0, 1) := by decide +kernel
theorem dX10_findsRing_59 : decode cX10_findsRing 59 = .ok (.invokevirtual 89, 3) := by decide +kernel
theorem dX10_findsRing_62 : decode cX10_findsRing 62 = .ok (.idiv, 1) := by decide +kernel
theorem dX10_findsRing_63 : decode cX10_findsRing 63 = .ok (.istore 4, 2) := by decide +kernel
theorem dX10_findsRing_65 : decode cX10_findsRing 65 = .ok (.iinc 5 (-1), 3) := by decide +kernel
theorem dX10_findsRing_68 : decode cX10_findsRing 68 = .ok (.goto (-31), 3) := by decide +kernel
theorem dX10_findsRing_71 : decode cX10_findsRing 71 = .ok (.aload_n 0, 1) := by decide +kernel
theorem dX10_findsRing_72 : decode cX10_findsRing 72 = .ok (.iload_n 1, 1) := by decide +kernel
theorem dX10_findsRing_73 : decode cX10_findsRing 73 = .ok (.invokevirtual 403, 3) := by decide +kernel
theorem dX10_findsRing_76 : decode cX10_findsRing 76 = .ok (.ifCond .eq 5, 3) := by decide +kernel
theorem dX10_findsRing_79 : decode cX10_findsRing 79 = .ok (.iconst 1, 1) := by decide +kernel
theorem dX10_findsRing_80 : decode cX10_findsRing 80 = .ok (.ireturn, 1) := by decide +kernel
theorem dX10_findsRing_81 : decode cX10_findsRing 81 = .ok (.iinc 3 1, 3) := by decide +kernel
theorem dX10_findsRing_84 : decode cX10_findsRing 84 = .ok (.goto (-60), 3) := by decide +kernel
theorem dX10_findsRing_87 : decode cX10_findsRing 87 = .ok (.iconst 0, 1) := by decide +kernel
theorem dX10_findsRing_88 : decode cX10_findsRing 88 = .ok (.ireturn, 1) := by decide +kernel
theorem dX10_ringSize_0 : decode cX10_ringSize 0 = .ok (.iconst 2, 1) := by decide +kernel
theorem dX10_ringSize_1 : decode cX10_ringSize 1 = .ok (.istore_n 1, 1) := by decide +kernel
theorem dX10_ringSize_2 : decode cX10_ringSize 2 = .ok (.iload_n 1, 1) := by decide +kernel
theorem dX10_ringSize_3 : decode cX10_ringSize 3 = .ok (.aload_n 0, 1) := by decide +kernel
theorem dX10_ringSize_4 : decode cX10_ringSize 4 = .ok (.invokevirtual 89, 3) := by decide +kernel
theorem dX10_ringSize_7 : decode cX10_ringSize 7 = .ok (.if_icmp .gt 19, 3) := by decide +kernel
theorem dX10_ringSize_10 : decode cX10_ringSize 10 = .ok (.aload_n 0, 1) := by decide +kernel
theorem dX10_ringSize_11 : decode cX10_ringSize 11 = .ok (.iload_n 1, 1) := by decide +kernel
theorem dX10_ringSize_12 : decode cX10_ringSize 12 = .ok (.invokevirtual 406, 3) := by decide +kernel
theorem dX10_ringSize_15 : decode cX10_ringSize 15 = .ok (.ifCond .eq 5, 3) := by decide +kernel
theorem dX10_ringSize_18 : decode cX10_ringSize 18 = .ok (.iload_n 1, 1) := by decide +kernel
theorem dX10_ringSize_19 : decode cX10_ringSize 19 = .ok (.ireturn, 1) := by decide +kernel
theorem dX10_ringSize_20 : decode cX10_ringSize 20 = .ok (.iinc 1 1, 3) := by decide +kernel
theorem dX10_ringSize_23 : decode cX10_ringSize 23 = .ok (.goto (-21), 3) := by decide +kernel
theorem dX10_ringSize_26 : decode cX10_ringSize 26 = .ok (.iconst (-1), 1) := by decide +kernel
theorem dX10_ringSize_27 : decode cX10_ringSize 27 = .ok (.ireturn, 1) := by decide +kernel
theorem dX10_clears_0 : decode cX10_clears 0 = .ok (.aload_n 0, 1) := by decide +kernel
theorem dX10_clears_1 : decode cX10_clears 1 = .ok (.invokevirtual 409, 3) := by decide +kernel
theorem dX10_clears_4 : decode cX10_clears 4 = .ok (.aload_n 0, 1) := by decide +kernel
theorem dX10_clears_5 : decode cX10_clears 5 = .ok (.iconst 0, 1) := by decide +kernel
theorem dX10_clears_6 : decode cX10_clears 6 = .ok (.putfield 412, 3) := by decide +kernel
theorem dX10_clears_9 : decode cX10_clears 9 = .ok (.aload_n 0, 1) := by decide +kernel
theorem dX10_clears_10 : decode cX10_clears 10 = .ok (.iconst 0, 1) := by decide +kernel
theorem dX10_clears_11 : decode cX10_clears 11 = .ok (.putfield 415, 3) := by decide +kernel
theorem dX10_clears_14 : decode cX10_clears 14 = .ok (.aload_n 0, 1) := by decide +kernel
theorem dX10_clears_15 : decode cX10_clears 15 = .ok (.invokevirtual 418, 3) := by decide +kernel
theorem dX10_clears_18 : decode cX10_clears 18 = .ok (.istore_n 1, 1) := by decide +kernel
theorem dX10_clears_19 : decode cX10_clears 19 = .ok (.iload_n 1, 1) := by decide +kernel
theorem dX10_clears_20 : decode cX10_clears 20 = .ok (.iconst (-1), 1) := by decide +kernel
theorem dX10_clears_21 : decode cX10_clears 21 = .ok (.if_icmp .eq 162, 3) := by decide +kernel
theorem dX10_clears_24 : decode cX10_clears 24 = .ok (.aload_n 0, 1) := by decide +kernel
theorem dX10_clears_25 : decode cX10_clears 25 = .ok (.aload_n 0, 1) := by decide +kernel
theorem dX10_clears_26 : decode cX10_clears 26 = .ok (.getfield 61, 3) := by decide +kernel
theorem dX10_clears_29 : decode cX10_clears 29 = .ok (.iconst 0, 1) := by decide +kernel
theorem dX10_clears_30 : decode cX10_clears 30 = .ok (.iaload, 1) := by decide +kernel
theorem dX10_clears_31 : decode cX10_clears 31 = .ok (.aload_n 0, 1) := by decide +kernel
theorem dX10_clears_32 : decode cX10_clears 32 = .ok (.getfield 61, 3) := by decide +kernel
theorem dX10_clears_35 : decode cX10_clears 35 = .ok (.iconst 1, 1) := by decide +kernel
theorem dX10_clears_36 : decode cX10_clears 36 = .ok (.iaload, 1) := by decide +kernel
theorem dX10_clears_37 : decode cX10_clears 37 = .ok (.invokevirtual 400, 3) := by decide +kernel
theorem dX10_clears_40 : decode cX10_clears 40 = .ok (.istore_n 2, 1) := by decide +kernel
theorem dX10_clears_41 : decode cX10_clears 41 = .ok (.iconst 0, 1) := by decide +kernel
theorem dX10_clears_42 : decode cX10_clears 42 = .ok (.istore_n 3, 1) := by decide +kernel
theorem dX10_clears_43 : decode cX10_clears 43 = .ok (.iconst 0, 1) := by decide +kernel
theorem dX10_clears_44 : decode cX10_clears 44 = .ok (.istore 4, 2) := by decide +kernel
theorem dX10_clears_46 : decode cX10_clears 46 = .ok (.iload 4, 2) := by decide +kernel
theorem dX10_clears_48 : decode cX10_clears 48 = .ok (.iload_n 1, 1) := by decide +kernel
theorem dX10_clears_49 : decode cX10_clears 49 = .ok (.if_icmp .ge 48, 3) := by decide +kernel
theorem dX10_clears_52 : decode cX10_clears 52 = .ok (.iload_n 2, 1) := by decide +kernel
theorem dX10_clears_53 : decode cX10_clears 53 = .ok (.aload_n 0, 1) := by decide +kernel
theorem dX10_clears_54 : decode cX10_clears 54 = .ok (.aload_n 0, 1) := by decide +kernel
theorem dX10_clears_55 : decode cX10_clears 55 = .ok (.getfield 61, 3) := by decide +kernel
theorem dX10_clears_58 : decode cX10_clears 58 = .ok (.iload 4, 2) := by decide +kernel
theorem dX10_clears_60 : decode cX10_clears 60 = .ok (.iaload, 1) := by decide +kernel
theorem dX10_clears_61 : decode cX10_clears 61 = .ok (.aload_n 0, 1) := by decide +kernel
theorem dX10_clears_62 : decode cX10_clears 62 = .ok (.getfield 61, 3) := by decide +kernel
theorem dX10_clears_65 : decode cX10_clears 65 = .ok (.iload 4, 2) := by decide +kernel
theorem dX10_clears_67 : decode cX10_clears 67 = .ok (.iconst 1, 1) := by decide +kernel
theorem dX10_clears_68 : decode cX10_clears 68 = .ok (.iadd, 1) := by decide +kernel
theorem dX10_clears_69 : decode cX10_clears 69 = .ok (.iload_n 1, 1) := by decide +kernel
theorem dX10_clears_70 : decode cX10_clears 70 = .ok (.irem, 1) := by decide +kernel
theorem dX10_clears_71 : decode cX10_clears 71 = .ok (.iaload, 1) := by decide +kernel
theorem dX10_clears_72 : decode cX10_clears 72 = .ok (.invokevirtual 400, 3) := by decide +kernel
theorem dX10_clears_75 : decode cX10_clears 75 = .ok (.invokestatic 128, 3) := by decide +kernel
theorem dX10_clears_78 : decode cX10_clears 78 = .ok (.istore_n 2, 1) := by decide +kernel
theorem dX10_clears_79 : decode cX10_clears 79 = .ok (.iload_n 3, 1) := by decide +kernel
theorem dX10_clears_80 : decode cX10_clears 80 = .ok (.iconst 1, 1) := by decide +kernel
theorem dX10_clears_81 : decode cX10_clears 81 = .ok (.aload_n 0, 1) := by decide +kernel
theorem dX10_clears_82 : decode cX10_clears 82 = .ok (.getfield 61, 3) := by decide +kernel
theorem dX10_clears_85 : decode cX10_clears 85 = .ok (.iload 4, 2) := by decide +kernel
theorem dX10_clears_87 : decode cX10_clears 87 = .ok (.iaload, 1) := by decide +kernel
theorem dX10_clears_88 : decode cX10_clears 88 = .ok (.ishl, 1) := by decide +kernel
theorem dX10_clears_89 : decode cX10_clears 89 = .ok (.ior, 1) := by decide +kernel
theorem dX10_clears_90 : decode cX10_clears 90 = .ok (.istore_n 3, 1) := by decide +kernel
theorem dX10_clears_91 : decode cX10_clears 91 = .ok (.iinc 4 1, 3) := by decide +kernel
theorem dX10_clears_94 : decode cX10_clears 94 = .ok (.goto (-48), 3) := by decide +kernel
theorem dX10_clears_97 : decode cX10_clears 97 = .ok (.iconst 0, 1) := by decide +kernel
theorem dX10_clears_98 : decode cX10_clears 98 = .ok (.istore 4, 2) := by decide +kernel
theorem dX10_clears_100 : decode cX10_clears 100 = .ok (.iload 4, 2) := by decide +kernel
theorem dX10_clears_102 : decode cX10_clears 102 = .ok (.iload_n 1, 1) := by decide +kernel
theorem dX10_clears_103 : decode cX10_clears 103 = .ok (.if_icmp .ge 40, 3) := by decide +kernel
theorem dX10_clears_106 : decode cX10_clears 106 = .ok (.aload_n 0, 1) := by decide +kernel
theorem dX10_clears_107 : decode cX10_clears 107 = .ok (.getfield 55, 3) := by decide +kernel
theorem dX10_clears_110 : decode cX10_clears 110 = .ok (.bipush 6, 2) := by decide +kernel
theorem dX10_clears_112 : decode cX10_clears 112 = .ok (.aload_n 0, 1) := by decide +kernel
theorem dX10_clears_113 : decode cX10_clears 113 = .ok (.getfield 61, 3) := by decide +kernel
theorem dX10_clears_116 : decode cX10_clears 116 = .ok (.iload 4, 2) := by decide +kernel
theorem dX10_clears_118 : decode cX10_clears 118 = .ok (.iaload, 1) := by decide +kernel
theorem dX10_clears_119 : decode cX10_clears 119 = .ok (.imul, 1) := by decide +kernel
theorem dX10_clears_120 : decode cX10_clears 120 = .ok (.aload_n 0, 1) := by decide +kernel
theorem dX10_clears_121 : decode cX10_clears 121 = .ok (.getfield 61, 3) := by decide +kernel
theorem dX10_clears_124 : decode cX10_clears 124 = .ok (.iload 4, 2) := by decide +kernel
theorem dX10_clears_126 : decode cX10_clears 126 = .ok (.iconst 1, 1) := by decide +kernel
theorem dX10_clears_127 : decode cX10_clears 127 = .ok (.iadd, 1) := by decide +kernel
theorem dX10_clears_128 : decode cX10_clears 128 = .ok (.iload_n 1, 1) := by decide +kernel
theorem dX10_clears_129 : decode cX10_clears 129 = .ok (.irem, 1) := by decide +kernel
theorem dX10_clears_130 : decode cX10_clears 130 = .ok (.iaload, 1) := by decide +kernel
theorem dX10_clears_131 : decode cX10_clears 131 = .ok (.iadd, 1) := by decide +kernel
theorem dX10_clears_132 : decode cX10_clears 132 = .ok (.dup2, 1) := by decide +kernel
theorem dX10_clears_133 : decode cX10_clears 133 = .ok (.iaload, 1) := by decide +kernel
theorem dX10_clears_134 : decode cX10_clears 134 = .ok (.iload_n 2, 1) := by decide +kernel
theorem dX10_clears_135 : decode cX10_clears 135 = .ok (.isub, 1) := by decide +kernel
theorem dX10_clears_136 : decode cX10_clears 136 = .ok (.iastore, 1) := by decide +kernel
theorem dX10_clears_137 : decode cX10_clears 137 = .ok (.iinc 4 1, 3) := by decide +kernel
theorem dX10_clears_140 : decode cX10_clears 140 = .ok (.goto (-40), 3) := by decide +kernel
theorem dX10_clears_143 : decode cX10_clears 143 = .ok (.aload_n 0, 1) := by decide +kernel
theorem dX10_clears_144 : decode cX10_clears 144 = .ok (.getfield 58, 3) := by decide +kernel
theorem dX10_clears_147 : decode cX10_clears 147 = .ok (.aload_n 0, 1) := by decide +kernel
theorem dX10_clears_148 : decode cX10_clears 148 = .ok (.getfield 412, 3) := by decide +kernel
theorem dX10_clears_151 : decode cX10_clears 151 = .ok (.iload_n 3, 1) := by decide +kernel
theorem dX10_clears_152 : decode cX10_clears 152 = .ok (.iastore, 1) := by decide +kernel
theorem dX10_clears_153 : decode cX10_clears 153 = .ok (.aload_n 0, 1) := by decide +kernel
theorem dX10_clears_154 : decode cX10_clears 154 = .ok (.dup, 1) := by decide +kernel
theorem dX10_clears_155 : decode cX10_clears 155 = .ok (.getfield 412, 3) := by decide +kernel
theorem dX10_clears_158 : decode cX10_clears 158 = .ok (.iconst 1, 1) := by decide +kernel
theorem dX10_clears_159 : decode cX10_clears 159 = .ok (.iadd, 1) := by decide +kernel
theorem dX10_clears_160 : decode cX10_clears 160 = .ok (.putfield 412, 3) := by decide +kernel
theorem dX10_clears_163 : decode cX10_clears 163 = .ok (.aload_n 0, 1) := by decide +kernel
theorem dX10_clears_164 : decode cX10_clears 164 = .ok (.dup, 1) := by decide +kernel
theorem dX10_clears_165 : decode cX10_clears 165 = .ok (.getfield 415, 3) := by decide +kernel
theorem dX10_clears_168 : decode cX10_clears 168 = .ok (.iload_n 2, 1) := by decide +kernel
theorem dX10_clears_169 : decode cX10_clears 169 = .ok (.iload_n 1, 1) := by decide +kernel
theorem dX10_clears_170 : decode cX10_clears 170 = .ok (.imul, 1) := by decide +kernel
theorem dX10_clears_171 : decode cX10_clears 171 = .ok (.iadd, 1) := by decide +kernel
theorem dX10_clears_172 : decode cX10_clears 172 = .ok (.putfield 415, 3) := by decide +kernel
theorem dX10_clears_175 : decode cX10_clears 175 = .ok (.aload_n 0, 1) := by decide +kernel
theorem dX10_clears_176 : decode cX10_clears 176 = .ok (.invokevirtual 418, 3) := by decide +kernel
theorem dX10_clears_179 : decode cX10_clears 179 = .ok (.istore_n 1, 1) := by decide +kernel
theorem dX10_clears_180 : decode cX10_clears 180 = .ok (.goto (-161), 3) := by decide +kernel
theorem dX10_clears_183 : decode cX10_clears 183 = .ok (.return_, 1) := by decide +kernel
theorem dX10_owes_0 : decode cX10_owes 0 = .ok (.aload_n 0, 1) := by decide +kernel
theorem dX10_owes_1 : decode cX10_owes 1 = .ok (.iload_n 1, 1) := by decide +kernel
theorem dX10_owes_2 : decode cX10_owes 2 = .ok (.iload_n 2, 1) := by decide +kernel
theorem dX10_owes_3 : decode cX10_owes 3 = .ok (.invokevirtual 421, 3) := by decide +kernel
theorem dX10_owes_6 : decode cX10_owes 6 = .ok (.ifCond .ne 6, 3) := by decide +kernel
theorem dX10_owes_9 : decode cX10_owes 9 = .ok (.bipush (-2), 2) := by decide +kernel
theorem dX10_owes_11 : decode cX10_owes 11 = .ok (.ireturn, 1) := by decide +kernel
theorem dX10_owes_12 : decode cX10_owes 12 = .ok (.aload_n 0, 1) := by decide +kernel
theorem dX10_owes_13 : decode cX10_owes 13 = .ok (.invokevirtual 409, 3) := by decide +kernel
theorem dX10_owes_16 : decode cX10_owes 16 = .ok (.aload_n 0, 1) := by decide +kernel
theorem dX10_owes_17 : decode cX10_owes 17 = .ok (.iload_n 1, 1) := by decide +kernel
theorem dX10_owes_18 : decode cX10_owes 18 = .ok (.iload_n 2, 1) := by decide +kernel
theorem dX10_owes_19 : decode cX10_owes 19 = .ok (.invokevirtual 400, 3) := by decide +kernel
theorem dX10_owes_22 : decode cX10_owes 22 = .ok (.ireturn, 1) := by decide +kernel
theorem dX10_rings_0 : decode cX10_rings 0 = .ok (.aload_n 0, 1) := by decide +kernel
theorem dX10_rings_1 : decode cX10_rings 1 = .ok (.invokevirtual 322, 3) := by decide +kernel
theorem dX10_rings_4 : decode cX10_rings 4 = .ok (.ifCond .eq 13, 3) := by decide +kernel
theorem dX10_rings_7 : decode cX10_rings 7 = .ok (.iload_n 1, 1) := by decide +kernel
theorem dX10_rings_8 : decode cX10_rings 8 = .ok (.i2l, 1) := by decide +kernel
theorem dX10_rings_9 : decode cX10_rings 9 = .ok (.lconst 0, 1) := by decide +kernel
theorem dX10_rings_10 : decode cX10_rings 10 = .ok (.lconst 1, 1) := by decide +kernel
theorem dX10_rings_11 : decode cX10_rings 11 = .ok (.invokestatic 85, 3) := by decide +kernel
theorem dX10_rings_14 : decode cX10_rings 14 = .ok (.ifCond .ne 6, 3) := by decide +kernel
theorem dX10_rings_17 : decode cX10_rings 17 = .ok (.bipush (-2), 2) := by decide +kernel
theorem dX10_rings_19 : decode cX10_rings 19 = .ok (.ireturn, 1) := by decide +kernel
theorem dX10_rings_20 : decode cX10_rings 20 = .ok (.aload_n 0, 1) := by decide +kernel
theorem dX10_rings_21 : decode cX10_rings 21 = .ok (.invokevirtual 424, 3) := by decide +kernel
theorem dX10_rings_24 : decode cX10_rings 24 = .ok (.iload_n 1, 1) := by decide +kernel
theorem dX10_rings_25 : decode cX10_rings 25 = .ok (.ifCond .ne 10, 3) := by decide +kernel
theorem dX10_rings_28 : decode cX10_rings 28 = .ok (.aload_n 0, 1) := by decide +kernel
theorem dX10_rings_29 : decode cX10_rings 29 = .ok (.getfield 412, 3) := by decide +kernel
theorem dX10_rings_32 : decode cX10_rings 32 = .ok (.goto 7, 3) := by decide +kernel
theorem dX10_rings_35 : decode cX10_rings 35 = .ok (.aload_n 0, 1) := by decide +kernel
theorem dX10_rings_36 : decode cX10_rings 36 = .ok (.getfield 415, 3) := by decide +kernel
theorem dX10_rings_39 : decode cX10_rings 39 = .ok (.ireturn, 1) := by decide +kernel
theorem dX10_ring_0 : decode cX10_ring 0 = .ok (.aload_n 0, 1) := by decide +kernel
theorem dX10_ring_1 : decode cX10_ring 1 = .ok (.invokevirtual 322, 3) := by decide +kernel
theorem dX10_ring_4 : decode cX10_ring 4 = .ok (.ifCond .ne 6, 3) := by decide +kernel
theorem dX10_ring_7 : decode cX10_ring 7 = .ok (.bipush (-2), 2) := by decide +kernel
theorem dX10_ring_9 : decode cX10_ring 9 = .ok (.ireturn, 1) := by decide +kernel
theorem dX10_ring_10 : decode cX10_ring 10 = .ok (.aload_n 0, 1) := by decide +kernel
theorem dX10_ring_11 : decode cX10_ring 11 = .ok (.invokevirtual 424, 3) := by decide +kernel
theorem dX10_ring_14 : decode cX10_ring 14 = .ok (.iload_n 1, 1) := by decide +kernel
theorem dX10_ring_15 : decode cX10_ring 15 = .ok (.i2l, 1) := by decide +kernel
theorem dX10_ring_16 : decode cX10_ring 16 = .ok (.lconst 0, 1) := by decide +kernel
theorem dX10_ring_17 : decode cX10_ring 17 = .ok (.aload_n 0, 1) := by decide +kernel
theorem dX10_ring_18 : decode cX10_ring 18 = .ok (.getfield 412, 3) := by decide +kernel
theorem dX10_ring_21 : decode cX10_ring 21 = .ok (.iconst 1, 1) := by decide +kernel
theorem dX10_ring_22 : decode cX10_ring 22 = .ok (.isub, 1) := by decide +kernel
theorem dX10_ring_23 : decode cX10_ring 23 = .ok (.i2l, 1) := by decide +kernel
theorem dX10_ring_24 : decode cX10_ring 24 = .ok (.invokestatic 85, 3) := by decide +kernel
theorem dX10_ring_27 : decode cX10_ring 27 = .ok (.ifCond .eq 12, 3) := by decide +kernel
theorem dX10_ring_30 : decode cX10_ring 30 = .ok (.aload_n 0, 1) := by decide +kernel
theorem dX10_ring_31 : decode cX10_ring 31 = .ok (.getfield 58, 3) := by decide +kernel
theorem dX10_ring_34 : decode cX10_ring 34 = .ok (.iload_n 1, 1) := by decide +kernel
theorem dX10_ring_35 : decode cX10_ring 35 = .ok (.iaload, 1) := by decide +kernel
theorem dX10_ring_36 : decode cX10_ring 36 = .ok (.goto 4, 3) := by decide +kernel
theorem dX10_ring_39 : decode cX10_ring 39 = .ok (.iconst (-1), 1) := by decide +kernel
theorem dX10_ring_40 : decode cX10_ring 40 = .ok (.ireturn, 1) := by decide +kernel
theorem dX10_left_0 : decode cX10_left 0 = .ok (.aload_n 0, 1) := by decide +kernel
theorem dX10_left_1 : decode cX10_left 1 = .ok (.iload_n 1, 1) := by decide +kernel
theorem dX10_left_2 : decode cX10_left 2 = .ok (.iload_n 2, 1) := by decide +kernel
theorem dX10_left_3 : decode cX10_left 3 = .ok (.invokevirtual 421, 3) := by decide +kernel
theorem dX10_left_6 : decode cX10_left 6 = .ok (.ifCond .ne 6, 3) := by decide +kernel
theorem dX10_left_9 : decode cX10_left 9 = .ok (.bipush (-2), 2) := by decide +kernel
theorem dX10_left_11 : decode cX10_left 11 = .ok (.ireturn, 1) := by decide +kernel
theorem dX10_left_12 : decode cX10_left 12 = .ok (.aload_n 0, 1) := by decide +kernel
theorem dX10_left_13 : decode cX10_left 13 = .ok (.invokevirtual 424, 3) := by decide +kernel
theorem dX10_left_16 : decode cX10_left 16 = .ok (.aload_n 0, 1) := by decide +kernel
theorem dX10_left_17 : decode cX10_left 17 = .ok (.iload_n 1, 1) := by decide +kernel
theorem dX10_left_18 : decode cX10_left 18 = .ok (.iload_n 2, 1) := by decide +kernel
theorem dX10_left_19 : decode cX10_left 19 = .ok (.invokevirtual 400, 3) := by decide +kernel
theorem dX10_left_22 : decode cX10_left 22 = .ok (.ireturn, 1) := by decide +kernel
theorem dX10_allDebts_0 : decode cX10_allDebts 0 = .ok (.iconst 0, 1) := by decide +kernel
theorem dX10_allDebts_1 : decode cX10_allDebts 1 = .ok (.istore_n 2, 1) := by decide +kernel
theorem dX10_allDebts_2 : decode cX10_allDebts 2 = .ok (.iconst 0, 1) := by decide +kernel
theorem dX10_allDebts_3 : decode cX10_allDebts 3 = .ok (.istore_n 3, 1) := by decide +kernel
theorem dX10_allDebts_4 : decode cX10_allDebts 4 = .ok (.iload_n 3, 1) := by decide +kernel
theorem dX10_allDebts_5 : decode cX10_allDebts 5 = .ok (.aload_n 0, 1) := by decide +kernel
theorem dX10_allDebts_6 : decode cX10_allDebts 6 = .ok (.invokevirtual 89, 3) := by decide +kernel
theorem dX10_allDebts_9 : decode cX10_allDebts 9 = .ok (.if_icmp .ge 18, 3) := by decide +kernel
theorem dX10_allDebts_12 : decode cX10_allDebts 12 = .ok (.iload_n 2, 1) := by decide +kernel
theorem dX10_allDebts_13 : decode cX10_allDebts 13 = .ok (.aload_n 0, 1) := by decide +kernel
theorem dX10_allDebts_14 : decode cX10_allDebts 14 = .ok (.iload_n 1, 1) := by decide +kernel
theorem dX10_allDebts_15 : decode cX10_allDebts 15 = .ok (.iload_n 3, 1) := by decide +kernel
theorem dX10_allDebts_16 : decode cX10_allDebts 16 = .ok (.invokevirtual 400, 3) := by decide +kernel
theorem dX10_allDebts_19 : decode cX10_allDebts 19 = .ok (.iadd, 1) := by decide +kernel
theorem dX10_allDebts_20 : decode cX10_allDebts 20 = .ok (.istore_n 2, 1) := by decide +kernel
theorem dX10_allDebts_21 : decode cX10_allDebts 21 = .ok (.iinc 3 1, 3) := by decide +kernel
theorem dX10_allDebts_24 : decode cX10_allDebts 24 = .ok (.goto (-20), 3) := by decide +kernel
theorem dX10_allDebts_27 : decode cX10_allDebts 27 = .ok (.iload_n 2, 1) := by decide +kernel
theorem dX10_allDebts_28 : decode cX10_allDebts 28 = .ok (.ireturn, 1) := by decide +kernel
theorem dX10_nextPaid_0 : decode cX10_nextPaid 0 = .ok (.iconst (-1), 1) := by decide +kernel
theorem dX10_nextPaid_1 : decode cX10_nextPaid 1 = .ok (.istore 4, 2) := by decide +kernel
theorem dX10_nextPaid_3 : decode cX10_nextPaid 3 = .ok (.iconst 0, 1) := by decide +kernel
theorem dX10_nextPaid_4 : decode cX10_nextPaid 4 = .ok (.istore 5, 2) := by decide +kernel
theorem dX10_nextPaid_6 : decode cX10_nextPaid 6 = .ok (.iload 5, 2) := by decide +kernel
theorem dX10_nextPaid_8 : decode cX10_nextPaid 8 = .ok (.aload_n 0, 1) := by decide +kernel
theorem dX10_nextPaid_9 : decode cX10_nextPaid 9 = .ok (.invokevirtual 89, 3) := by decide +kernel
theorem dX10_nextPaid_12 : decode cX10_nextPaid 12 = .ok (.if_icmp .ge 69, 3) := by decide +kernel
theorem dX10_nextPaid_15 : decode cX10_nextPaid 15 = .ok (.iload_n 3, 1) := by decide +kernel
theorem dX10_nextPaid_16 : decode cX10_nextPaid 16 = .ok (.iload 5, 2) := by decide +kernel
theorem dX10_nextPaid_18 : decode cX10_nextPaid 18 = .ok (.ishr, 1) := by decide +kernel
theorem dX10_nextPaid_19 : decode cX10_nextPaid 19 = .ok (.iconst 1, 1) := by decide +kernel
theorem dX10_nextPaid_20 : decode cX10_nextPaid 20 = .ok (.iand, 1) := by decide +kernel
theorem dX10_nextPaid_21 : decode cX10_nextPaid 21 = .ok (.iconst 1, 1) := by decide +kernel
theorem dX10_nextPaid_22 : decode cX10_nextPaid 22 = .ok (.if_icmp .eq 53, 3) := by decide +kernel
theorem dX10_nextPaid_25 : decode cX10_nextPaid 25 = .ok (.aload_n 0, 1) := by decide +kernel
theorem dX10_nextPaid_26 : decode cX10_nextPaid 26 = .ok (.iload_n 2, 1) := by decide +kernel
theorem dX10_nextPaid_27 : decode cX10_nextPaid 27 = .ok (.iload 5, 2) := by decide +kernel
theorem dX10_nextPaid_29 : decode cX10_nextPaid 29 = .ok (.invokevirtual 400, 3) := by decide +kernel
theorem dX10_nextPaid_32 : decode cX10_nextPaid 32 = .ok (.ifCond .ne 6, 3) := by decide +kernel
theorem dX10_nextPaid_35 : decode cX10_nextPaid 35 = .ok (.goto 40, 3) := by decide +kernel
theorem dX10_nextPaid_38 : decode cX10_nextPaid 38 = .ok (.iload 4, 2) := by decide +kernel
theorem dX10_nextPaid_40 : decode cX10_nextPaid 40 = .ok (.iconst (-1), 1) := by decide +kernel
theorem dX10_nextPaid_41 : decode cX10_nextPaid 41 = .ok (.if_icmp .eq 25, 3) := by decide +kernel
theorem dX10_nextPaid_44 : decode cX10_nextPaid 44 = .ok (.iload_n 1, 1) := by decide +kernel
theorem dX10_nextPaid_45 : decode cX10_nextPaid 45 = .ok (.iconst 1, 1) := by decide +kernel
theorem dX10_nextPaid_46 : decode cX10_nextPaid 46 = .ok (.if_icmp .ne 25, 3) := by decide +kernel
theorem dX10_nextPaid_49 : decode cX10_nextPaid 49 = .ok (.aload_n 0, 1) := by decide +kernel
theorem dX10_nextPaid_50 : decode cX10_nextPaid 50 = .ok (.iload_n 2, 1) := by decide +kernel
theorem dX10_nextPaid_51 : decode cX10_nextPaid 51 = .ok (.iload 5, 2) := by decide +kernel
theorem dX10_nextPaid_53 : decode cX10_nextPaid 53 = .ok (.invokevirtual 400, 3) := by decide +kernel
theorem dX10_nextPaid_56 : decode cX10_nextPaid 56 = .ok (.aload_n 0, 1) := by decide +kernel
theorem dX10_nextPaid_57 : decode cX10_nextPaid 57 = .ok (.iload_n 2, 1) := by decide +kernel
theorem dX10_nextPaid_58 : decode cX10_nextPaid 58 = .ok (.iload 4, 2) := by decide +kernel
theorem dX10_nextPaid_60 : decode cX10_nextPaid 60 = .ok (.invokevirtual 400, 3) := by decide +kernel
theorem dX10_nextPaid_63 : decode cX10_nextPaid 63 = .ok (.if_icmp .ge 8, 3) := by decide +kernel
theorem dX10_nextPaid_66 : decode cX10_nextPaid 66 = .ok (.iload 5, 2) := by decide +kernel
theorem dX10_nextPaid_68 : decode cX10_nextPaid 68 = .ok (.goto 5, 3) := by decide +kernel
theorem dX10_nextPaid_71 : decode cX10_nextPaid 71 = .ok (.iload 4, 2) := by decide +kernel
theorem dX10_nextPaid_73 : decode cX10_nextPaid 73 = .ok (.istore 4, 2) := by decide +kernel
theorem dX10_nextPaid_75 : decode cX10_nextPaid 75 = .ok (.iinc 5 1, 3) := by decide +kernel
theorem dX10_nextPaid_78 : decode cX10_nextPaid 78 = .ok (.goto (-72), 3) := by decide +kernel
theorem dX10_nextPaid_81 : decode cX10_nextPaid 81 = .ok (.iload 4, 2) := by decide +kernel
theorem dX10_nextPaid_83 : decode cX10_nextPaid 83 = .ok (.ireturn, 1) := by decide +kernel
theorem dX10_strikes_0 : decode cX10_strikes 0 = .ok (.aload_n 0, 1) := by decide +kernel
theorem dX10_strikes_1 : decode cX10_strikes 1 = .ok (.invokevirtual 409, 3) := by decide +kernel
theorem dX10_strikes_4 : decode cX10_strikes 4 = .ok (.iconst 0, 1) := by decide +kernel
theorem dX10_strikes_5 : decode cX10_strikes 5 = .ok (.istore_n 2, 1) := by decide +kernel
theorem dX10_strikes_6 : decode cX10_strikes 6 = .ok (.iload_n 2, 1) := by decide +kernel
theorem dX10_strikes_7 : decode cX10_strikes 7 = .ok (.bipush 36, 2) := by decide +kernel
theorem dX10_strikes_9 : decode cX10_strikes 9 = .ok (.if_icmp .ge 16, 3) := by decide +kernel
theorem dX10_strikes_12 : decode cX10_strikes 12 = .ok (.aload_n 0, 1) := by decide +kernel
theorem dX10_strikes_13 : decode cX10_strikes 13 = .ok (.getfield 64, 3) := by decide +kernel
theorem dX10_strikes_16 : decode cX10_strikes 16 = .ok (.iload_n 2, 1) := by decide +kernel
theorem dX10_strikes_17 : decode cX10_strikes 17 = .ok (.iconst 0, 1) := by decide +kernel
theorem dX10_strikes_18 : decode cX10_strikes 18 = .ok (.iastore, 1) := by decide +kernel
theorem dX10_strikes_19 : decode cX10_strikes 19 = .ok (.iinc 2 1, 3) := by decide +kernel
theorem dX10_strikes_22 : decode cX10_strikes 22 = .ok (.goto (-16), 3) := by decide +kernel
theorem dX10_strikes_25 : decode cX10_strikes 25 = .ok (.iconst 0, 1) := by decide +kernel
theorem dX10_strikes_26 : decode cX10_strikes 26 = .ok (.istore_n 2, 1) := by decide +kernel
theorem dX10_strikes_27 : decode cX10_strikes 27 = .ok (.iload_n 2, 1) := by decide +kernel
theorem dX10_strikes_28 : decode cX10_strikes 28 = .ok (.aload_n 0, 1) := by decide +kernel
theorem dX10_strikes_29 : decode cX10_strikes 29 = .ok (.invokevirtual 89, 3) := by decide +kernel
theorem dX10_strikes_32 : decode cX10_strikes 32 = .ok (.if_icmp .ge 136, 3) := by decide +kernel
theorem dX10_strikes_35 : decode cX10_strikes 35 = .ok (.aload_n 0, 1) := by decide +kernel
theorem dX10_strikes_36 : decode cX10_strikes 36 = .ok (.iload_n 2, 1) := by decide +kernel
theorem dX10_strikes_37 : decode cX10_strikes 37 = .ok (.invokevirtual 427, 3) := by decide +kernel
theorem dX10_strikes_40 : decode cX10_strikes 40 = .ok (.istore_n 3, 1) := by decide +kernel
theorem dX10_strikes_41 : decode cX10_strikes 41 = .ok (.aload_n 0, 1) := by decide +kernel
theorem dX10_strikes_42 : decode cX10_strikes 42 = .ok (.getfield 34, 3) := by decide +kernel
theorem dX10_strikes_45 : decode cX10_strikes 45 = .ok (.iload_n 2, 1) := by decide +kernel
theorem dX10_strikes_46 : decode cX10_strikes 46 = .ok (.iaload, 1) := by decide +kernel
theorem dX10_strikes_47 : decode cX10_strikes 47 = .ok (.istore 4, 2) := by decide +kernel
theorem dX10_strikes_49 : decode cX10_strikes 49 = .ok (.iconst 0, 1) := by decide +kernel
theorem dX10_strikes_50 : decode cX10_strikes 50 = .ok (.istore 5, 2) := by decide +kernel
theorem dX10_strikes_52 : decode cX10_strikes 52 = .ok (.aload_n 0, 1) := by decide +kernel
theorem dX10_strikes_53 : decode cX10_strikes 53 = .ok (.iload_n 1, 1) := by decide +kernel
theorem dX10_strikes_54 : decode cX10_strikes 54 = .ok (.iload_n 2, 1) := by decide +kernel
theorem dX10_strikes_55 : decode cX10_strikes 55 = .ok (.iconst 0, 1) := by decide +kernel
theorem dX10_strikes_56 : decode cX10_strikes 56 = .ok (.invokevirtual 430, 3) := by decide +kernel
theorem dX10_strikes_59 : decode cX10_strikes 59 = .ok (.istore 6, 2) := by decide +kernel
theorem dX10_strikes_61 : decode cX10_strikes 61 = .ok (.iload 6, 2) := by decide +kernel
theorem dX10_strikes_63 : decode cX10_strikes 63 = .ok (.iconst (-1), 1) := by decide +kernel
theorem dX10_strikes_64 : decode cX10_strikes 64 = .ok (.if_icmp .eq 98, 3) := by decide +kernel
theorem dX10_strikes_67 : decode cX10_strikes 67 = .ok (.iload_n 1, 1) := by decide +kernel
theorem dX10_strikes_68 : decode cX10_strikes 68 = .ok (.iconst 2, 1) := by decide +kernel
theorem dX10_strikes_69 : decode cX10_strikes 69 = .ok (.if_icmp .ne 36, 3) := by decide +kernel
theorem dX10_strikes_72 : decode cX10_strikes 72 = .ok (.aload_n 0, 1) := by decide +kernel
theorem dX10_strikes_73 : decode cX10_strikes 73 = .ok (.getfield 34, 3) := by decide +kernel
theorem dX10_strikes_76 : decode cX10_strikes 76 = .ok (.iload_n 2, 1) := by decide +kernel
theorem dX10_strikes_77 : decode cX10_strikes 77 = .ok (.iaload, 1) := by decide +kernel
theorem dX10_strikes_78 : decode cX10_strikes 78 = .ok (.iload_n 3, 1) := by decide +kernel
theorem dX10_strikes_79 : decode cX10_strikes 79 = .ok (.if_icmp .ge 26, 3) := by decide +kernel
theorem dX10_strikes_82 : decode cX10_strikes 82 = .ok (.aload_n 0, 1) := by decide +kernel
theorem dX10_strikes_83 : decode cX10_strikes 83 = .ok (.iload_n 2, 1) := by decide +kernel
theorem dX10_strikes_84 : decode cX10_strikes 84 = .ok (.iload 6, 2) := by decide +kernel
theorem dX10_strikes_86 : decode cX10_strikes 86 = .ok (.invokevirtual 400, 3) := by decide +kernel
theorem dX10_strikes_89 : decode cX10_strikes 89 = .ok (.i2l, 1) := by decide +kernel
theorem dX10_strikes_90 : decode cX10_strikes 90 = .ok (.aload_n 0, 1) := by decide +kernel
theorem dX10_strikes_91 : decode cX10_strikes 91 = .ok (.getfield 34, 3) := by decide +kernel
theorem dX10_strikes_94 : decode cX10_strikes 94 = .ok (.iload_n 2, 1) := by decide +kernel
theorem dX10_strikes_95 : decode cX10_strikes 95 = .ok (.iaload, 1) := by decide +kernel
theorem dX10_strikes_96 : decode cX10_strikes 96 = .ok (.i2l, 1) := by decide +kernel
theorem dX10_strikes_97 : decode cX10_strikes 97 = .ok (.lmul, 1) := by decide +kernel
theorem dX10_strikes_98 : decode cX10_strikes 98 = .ok (.iload_n 3, 1) := by decide +kernel
theorem dX10_strikes_99 : decode cX10_strikes 99 = .ok (.i2l, 1) := by decide +kernel
theorem dX10_strikes_100 : decode cX10_strikes 100 = .ok (.ldiv, 1) := by decide +kernel
theorem dX10_strikes_101 : decode cX10_strikes 101 = .ok (.l2i, 1) := by decide +kernel
theorem dX10_strikes_102 : decode cX10_strikes 102 = .ok (.goto 15, 3) := by decide +kernel
theorem dX10_strikes_105 : decode cX10_strikes 105 = .ok (.aload_n 0, 1) := by decide +kernel
theorem dX10_strikes_106 : decode cX10_strikes 106 = .ok (.iload_n 2, 1) := by decide +kernel
theorem dX10_strikes_107 : decode cX10_strikes 107 = .ok (.iload 6, 2) := by decide +kernel
theorem dX10_strikes_109 : decode cX10_strikes 109 = .ok (.invokevirtual 400, 3) := by decide +kernel
theorem dX10_strikes_112 : decode cX10_strikes 112 = .ok (.iload 4, 2) := by decide +kernel
theorem dX10_strikes_114 : decode cX10_strikes 114 = .ok (.invokestatic 128, 3) := by decide +kernel
theorem dX10_strikes_117 : decode cX10_strikes 117 = .ok (.istore 7, 2) := by decide +kernel
theorem dX10_strikes_119 : decode cX10_strikes 119 = .ok (.aload_n 0, 1) := by decide +kernel
theorem dX10_strikes_120 : decode cX10_strikes 120 = .ok (.getfield 64, 3) := by decide +kernel
theorem dX10_strikes_123 : decode cX10_strikes 123 = .ok (.bipush 6, 2) := by decide +kernel
theorem dX10_strikes_125 : decode cX10_strikes 125 = .ok (.iload_n 2, 1) := by decide +kernel
theorem dX10_strikes_126 : decode cX10_strikes 126 = .ok (.imul, 1) := by decide +kernel
theorem dX10_strikes_127 : decode cX10_strikes 127 = .ok (.iload 6, 2) := by decide +kernel
theorem dX10_strikes_129 : decode cX10_strikes 129 = .ok (.iadd, 1) := by decide +kernel
theorem dX10_strikes_130 : decode cX10_strikes 130 = .ok (.iload 7, 2) := by decide +kernel
theorem dX10_strikes_132 : decode cX10_strikes 132 = .ok (.iastore, 1) := by decide +kernel
theorem dX10_strikes_133 : decode cX10_strikes 133 = .ok (.iload 4, 2) := by decide +kernel
theorem dX10_strikes_135 : decode cX10_strikes 135 = .ok (.iload 7, 2) := by decide +kernel
theorem dX10_strikes_137 : decode cX10_strikes 137 = .ok (.isub, 1) := by decide +kernel
theorem dX10_strikes_138 : decode cX10_strikes 138 = .ok (.istore 4, 2) := by decide +kernel
theorem dX10_strikes_140 : decode cX10_strikes 140 = .ok (.iload 5, 2) := by decide +kernel
theorem dX10_strikes_142 : decode cX10_strikes 142 = .ok (.iconst 1, 1) := by decide +kernel
theorem dX10_strikes_143 : decode cX10_strikes 143 = .ok (.iload 6, 2) := by decide +kernel
theorem dX10_strikes_145 : decode cX10_strikes 145 = .ok (.ishl, 1) := by decide +kernel
theorem dX10_strikes_146 : decode cX10_strikes 146 = .ok (.ior, 1) := by decide +kernel
theorem dX10_strikes_147 : decode cX10_strikes 147 = .ok (.istore 5, 2) := by decide +kernel
theorem dX10_strikes_149 : decode cX10_strikes 149 = .ok (.aload_n 0, 1) := by decide +kernel
theorem dX10_strikes_150 : decode cX10_strikes 150 = .ok (.iload_n 1, 1) := by decide +kernel
theorem dX10_strikes_151 : decode cX10_strikes 151 = .ok (.iload_n 2, 1) := by decide +kernel
theorem dX10_strikes_152 : decode cX10_strikes 152 = .ok (.iload 5, 2) := by decide +kernel
theorem dX10_strikes_154 : decode cX10_strikes 154 = .ok (.invokevirtual 430, 3) := by decide +kernel
theorem dX10_strikes_157 : decode cX10_strikes 157 = .ok (.istore 6, 2) := by decide +kernel
theorem dX10_strikes_159 : decode cX10_strikes 159 = .ok (.goto (-98), 3) := by decide +kernel
theorem dX10_strikes_162 : decode cX10_strikes 162 = .ok (.iinc 2 1, 3) := by decide +kernel
theorem dX10_strikes_165 : decode cX10_strikes 165 = .ok (.goto (-138), 3) := by decide +kernel
theorem dX10_strikes_168 : decode cX10_strikes 168 = .ok (.return_, 1) := by decide +kernel
theorem dX10_ruined_0 : decode cX10_ruined 0 = .ok (.iconst 0, 1) := by decide +kernel
theorem dX10_ruined_1 : decode cX10_ruined 1 = .ok (.istore_n 1, 1) := by decide +kernel
theorem dX10_ruined_2 : decode cX10_ruined 2 = .ok (.iconst 0, 1) := by decide +kernel
theorem dX10_ruined_3 : decode cX10_ruined 3 = .ok (.istore_n 2, 1) := by decide +kernel
theorem dX10_ruined_4 : decode cX10_ruined 4 = .ok (.iload_n 2, 1) := by decide +kernel
theorem dX10_ruined_5 : decode cX10_ruined 5 = .ok (.aload_n 0, 1) := by decide +kernel
theorem dX10_ruined_6 : decode cX10_ruined 6 = .ok (.invokevirtual 89, 3) := by decide +kernel
theorem dX10_ruined_9 : decode cX10_ruined 9 = .ok (.if_icmp .ge 77, 3) := by decide +kernel
theorem dX10_ruined_12 : decode cX10_ruined 12 = .ok (.iconst 0, 1) := by decide +kernel
theorem dX10_ruined_13 : decode cX10_ruined 13 = .ok (.istore_n 3, 1) := by decide +kernel
theorem dX10_ruined_14 : decode cX10_ruined 14 = .ok (.iconst 0, 1) := by decide +kernel
theorem dX10_ruined_15 : decode cX10_ruined 15 = .ok (.istore 4, 2) := by decide +kernel
theorem dX10_ruined_17 : decode cX10_ruined 17 = .ok (.iconst 0, 1) := by decide +kernel
theorem dX10_ruined_18 : decode cX10_ruined 18 = .ok (.istore 5, 2) := by decide +kernel
theorem dX10_ruined_20 : decode cX10_ruined 20 = .ok (.iload 5, 2) := by decide +kernel
theorem dX10_ruined_22 : decode cX10_ruined 22 = .ok (.aload_n 0, 1) := by decide +kernel
theorem dX10_ruined_23 : decode cX10_ruined 23 = .ok (.invokevirtual 89, 3) := by decide +kernel
theorem dX10_ruined_26 : decode cX10_ruined 26 = .ok (.if_icmp .ge 36, 3) := by decide +kernel
theorem dX10_ruined_29 : decode cX10_ruined 29 = .ok (.iload_n 3, 1) := by decide +kernel
theorem dX10_ruined_30 : decode cX10_ruined 30 = .ok (.aload_n 0, 1) := by decide +kernel
theorem dX10_ruined_31 : decode cX10_ruined 31 = .ok (.iload 5, 2) := by decide +kernel
theorem dX10_ruined_33 : decode cX10_ruined 33 = .ok (.iload_n 2, 1) := by decide +kernel
theorem dX10_ruined_34 : decode cX10_ruined 34 = .ok (.invokevirtual 400, 3) := by decide +kernel
theorem dX10_ruined_37 : decode cX10_ruined 37 = .ok (.iadd, 1) := by decide +kernel
theorem dX10_ruined_38 : decode cX10_ruined 38 = .ok (.istore_n 3, 1) := by decide +kernel
theorem dX10_ruined_39 : decode cX10_ruined 39 = .ok (.iload 4, 2) := by decide +kernel
theorem dX10_ruined_41 : decode cX10_ruined 41 = .ok (.aload_n 0, 1) := by decide +kernel
theorem dX10_ruined_42 : decode cX10_ruined 42 = .ok (.getfield 64, 3) := by decide +kernel
theorem dX10_ruined_45 : decode cX10_ruined 45 = .ok (.bipush 6, 2) := by decide +kernel
theorem dX10_ruined_47 : decode cX10_ruined 47 = .ok (.iload 5, 2) := by decide +kernel
theorem dX10_ruined_49 : decode cX10_ruined 49 = .ok (.imul, 1) := by decide +kernel
theorem dX10_ruined_50 : decode cX10_ruined 50 = .ok (.iload_n 2, 1) := by decide +kernel
theorem dX10_ruined_51 : decode cX10_ruined 51 = .ok (.iadd, 1) := by decide +kernel
theorem dX10_ruined_52 : decode cX10_ruined 52 = .ok (.iaload, 1) := by decide +kernel
theorem dX10_ruined_53 : decode cX10_ruined 53 = .ok (.iadd, 1) := by decide +kernel
theorem dX10_ruined_54 : decode cX10_ruined 54 = .ok (.istore 4, 2) := by decide +kernel
theorem dX10_ruined_56 : decode cX10_ruined 56 = .ok (.iinc 5 1, 3) := by decide +kernel
theorem dX10_ruined_59 : decode cX10_ruined 59 = .ok (.goto (-39), 3) := by decide +kernel
theorem dX10_ruined_62 : decode cX10_ruined 62 = .ok (.iload_n 1, 1) := by decide +kernel
theorem dX10_ruined_63 : decode cX10_ruined 63 = .ok (.iconst 2, 1) := by decide +kernel
theorem dX10_ruined_64 : decode cX10_ruined 64 = .ok (.iload 4, 2) := by decide +kernel
theorem dX10_ruined_66 : decode cX10_ruined 66 = .ok (.imul, 1) := by decide +kernel
theorem dX10_ruined_67 : decode cX10_ruined 67 = .ok (.iload_n 3, 1) := by decide +kernel
theorem dX10_ruined_68 : decode cX10_ruined 68 = .ok (.if_icmp .ge 9, 3) := by decide +kernel
theorem dX10_ruined_71 : decode cX10_ruined 71 = .ok (.iconst 1, 1) := by decide +kernel
theorem dX10_ruined_72 : decode cX10_ruined 72 = .ok (.iload_n 2, 1) := by decide +kernel
theorem dX10_ruined_73 : decode cX10_ruined 73 = .ok (.ishl, 1) := by decide +kernel
theorem dX10_ruined_74 : decode cX10_ruined 74 = .ok (.goto 4, 3) := by decide +kernel
theorem dX10_ruined_77 : decode cX10_ruined 77 = .ok (.iconst 0, 1) := by decide +kernel
theorem dX10_ruined_78 : decode cX10_ruined 78 = .ok (.ior, 1) := by decide +kernel
theorem dX10_ruined_79 : decode cX10_ruined 79 = .ok (.istore_n 1, 1) := by decide +kernel
theorem dX10_ruined_80 : decode cX10_ruined 80 = .ok (.iinc 2 1, 3) := by decide +kernel
theorem dX10_ruined_83 : decode cX10_ruined 83 = .ok (.goto (-79), 3) := by decide +kernel
theorem dX10_ruined_86 : decode cX10_ruined 86 = .ok (.iload_n 1, 1) := by decide +kernel
theorem dX10_ruined_87 : decode cX10_ruined 87 = .ok (.ireturn, 1) := by decide +kernel
theorem dX10_bits_0 : decode cX10_bits 0 = .ok (.iconst 0, 1) := by decide +kernel
theorem dX10_bits_1 : decode cX10_bits 1 = .ok (.istore_n 1, 1) := by decide +kernel
theorem dX10_bits_2 : decode cX10_bits 2 = .ok (.iconst 0, 1) := by decide +kernel
theorem dX10_bits_3 : decode cX10_bits 3 = .ok (.istore_n 2, 1) := by decide +kernel
theorem dX10_bits_4 : decode cX10_bits 4 = .ok (.iload_n 2, 1) := by decide +kernel
theorem dX10_bits_5 : decode cX10_bits 5 = .ok (.bipush 6, 2) := by decide +kernel
theorem dX10_bits_7 : decode cX10_bits 7 = .ok (.if_icmp .ge 17, 3) := by decide +kernel
theorem dX10_bits_10 : decode cX10_bits 10 = .ok (.iload_n 1, 1) := by decide +kernel
theorem dX10_bits_11 : decode cX10_bits 11 = .ok (.iload_n 0, 1) := by decide +kernel
theorem dX10_bits_12 : decode cX10_bits 12 = .ok (.iload_n 2, 1) := by decide +kernel
theorem dX10_bits_13 : decode cX10_bits 13 = .ok (.ishr, 1) := by decide +kernel
theorem dX10_bits_14 : decode cX10_bits 14 = .ok (.iconst 1, 1) := by decide +kernel
theorem dX10_bits_15 : decode cX10_bits 15 = .ok (.iand, 1) := by decide +kernel
theorem dX10_bits_16 : decode cX10_bits 16 = .ok (.iadd, 1) := by decide +kernel
theorem dX10_bits_17 : decode cX10_bits 17 = .ok (.istore_n 1, 1) := by decide +kernel
theorem dX10_bits_18 : decode cX10_bits 18 = .ok (.iinc 2 1, 3) := by decide +kernel
theorem dX10_bits_21 : decode cX10_bits 21 = .ok (.goto (-17), 3) := by decide +kernel
theorem dX10_bits_24 : decode cX10_bits 24 = .ok (.iload_n 1, 1) := by decide +kernel
theorem dX10_bits_25 : decode cX10_bits 25 = .ok (.ireturn, 1) := by decide +kernel
theorem dX10_struck_0 : decode cX10_struck 0 = .ok (.aload_n 0, 1) := by decide +kernel
theorem dX10_struck_1 : decode cX10_struck 1 = .ok (.invokevirtual 322, 3) := by decide +kernel
theorem dX10_struck_4 : decode cX10_struck 4 = .ok (.ifCond .eq 25, 3) := by decide +kernel
theorem dX10_struck_7 : decode cX10_struck 7 = .ok (.iload_n 1, 1) := by decide +kernel
theorem dX10_struck_8 : decode cX10_struck 8 = .ok (.i2l, 1) := by decide +kernel
theorem dX10_struck_9 : decode cX10_struck 9 = .ok (.lconst 0, 1) := by decide +kernel
theorem dX10_struck_10 : decode cX10_struck 10 = .ok (.ldc2_w 83, 3) := by decide +kernel
theorem dX10_struck_13 : decode cX10_struck 13 = .ok (.invokestatic 85, 3) := by decide +kernel
theorem dX10_struck_16 : decode cX10_struck 16 = .ok (.ifCond .eq 13, 3) := by decide +kernel
theorem dX10_struck_19 : decode cX10_struck 19 = .ok (.iload_n 2, 1) := by decide +kernel
theorem dX10_struck_20 : decode cX10_struck 20 = .ok (.i2l, 1) := by decide +kernel
theorem dX10_struck_21 : decode cX10_struck 21 = .ok (.lconst 0, 1) := by decide +kernel
theorem dX10_struck_22 : decode cX10_struck 22 = .ok (.lconst 1, 1) := by decide +kernel
theorem dX10_struck_23 : decode cX10_struck 23 = .ok (.invokestatic 85, 3) := by decide +kernel
theorem dX10_struck_26 : decode cX10_struck 26 = .ok (.ifCond .ne 6, 3) := by decide +kernel
theorem dX10_struck_29 : decode cX10_struck 29 = .ok (.bipush (-2), 2) := by decide +kernel
theorem dX10_struck_31 : decode cX10_struck 31 = .ok (.ireturn, 1) := by decide +kernel
theorem dX10_struck_32 : decode cX10_struck 32 = .ok (.aload_n 0, 1) := by decide +kernel
theorem dX10_struck_33 : decode cX10_struck 33 = .ok (.iload_n 1, 1) := by decide +kernel
theorem dX10_struck_34 : decode cX10_struck 34 = .ok (.invokevirtual 434, 3) := by decide +kernel
theorem dX10_struck_37 : decode cX10_struck 37 = .ok (.iload_n 2, 1) := by decide +kernel
theorem dX10_struck_38 : decode cX10_struck 38 = .ok (.iconst 1, 1) := by decide +kernel
theorem dX10_struck_39 : decode cX10_struck 39 = .ok (.if_icmp .ne 8, 3) := by decide +kernel
theorem dX10_struck_42 : decode cX10_struck 42 = .ok (.aload_n 0, 1) := by decide +kernel
theorem dX10_struck_43 : decode cX10_struck 43 = .ok (.invokevirtual 437, 3) := by decide +kernel
theorem dX10_struck_46 : decode cX10_struck 46 = .ok (.ireturn, 1) := by decide +kernel
theorem dX10_struck_47 : decode cX10_struck 47 = .ok (.iconst 0, 1) := by decide +kernel
theorem dX10_struck_48 : decode cX10_struck 48 = .ok (.istore_n 3, 1) := by decide +kernel
theorem dX10_struck_49 : decode cX10_struck 49 = .ok (.iconst 0, 1) := by decide +kernel
theorem dX10_struck_50 : decode cX10_struck 50 = .ok (.istore 4, 2) := by decide +kernel
theorem dX10_struck_52 : decode cX10_struck 52 = .ok (.iload 4, 2) := by decide +kernel
theorem dX10_struck_54 : decode cX10_struck 54 = .ok (.bipush 36, 2) := by decide +kernel
theorem dX10_struck_56 : decode cX10_struck 56 = .ok (.if_icmp .ge 19, 3) := by decide +kernel
theorem dX10_struck_59 : decode cX10_struck 59 = .ok (.iload_n 3, 1) := by decide +kernel
theorem dX10_struck_60 : decode cX10_struck 60 = .ok (.aload_n 0, 1) := by decide +kernel
theorem dX10_struck_61 : decode cX10_struck 61 = .ok (.getfield 64, 3) := by decide +kernel
theorem dX10_struck_64 : decode cX10_struck 64 = .ok (.iload 4, 2) := by decide +kernel
theorem dX10_struck_66 : decode cX10_struck 66 = .ok (.iaload, 1) := by decide +kernel
theorem dX10_struck_67 : decode cX10_struck 67 = .ok (.iadd, 1) := by decide +kernel
theorem dX10_struck_68 : decode cX10_struck 68 = .ok (.istore_n 3, 1) := by decide +kernel
theorem dX10_struck_69 : decode cX10_struck 69 = .ok (.iinc 4 1, 3) := by decide +kernel
theorem dX10_struck_72 : decode cX10_struck 72 = .ok (.goto (-20), 3) := by decide +kernel
theorem dX10_struck_75 : decode cX10_struck 75 = .ok (.iload_n 3, 1) := by decide +kernel
theorem dX10_struck_76 : decode cX10_struck 76 = .ok (.ireturn, 1) := by decide +kernel
theorem dX10_pays_0 : decode cX10_pays 0 = .ok (.iload_n 1, 1) := by decide +kernel
theorem dX10_pays_1 : decode cX10_pays 1 = .ok (.i2l, 1) := by decide +kernel
theorem dX10_pays_2 : decode cX10_pays 2 = .ok (.lconst 0, 1) := by decide +kernel
theorem dX10_pays_3 : decode cX10_pays 3 = .ok (.ldc2_w 83, 3) := by decide +kernel
theorem dX10_pays_6 : decode cX10_pays 6 = .ok (.invokestatic 85, 3) := by decide +kernel
theorem dX10_pays_9 : decode cX10_pays 9 = .ok (.ifCond .eq 12, 3) := by decide +kernel
theorem dX10_pays_12 : decode cX10_pays 12 = .ok (.aload_n 0, 1) := by decide +kernel
theorem dX10_pays_13 : decode cX10_pays 13 = .ok (.iload_n 2, 1) := by decide +kernel
theorem dX10_pays_14 : decode cX10_pays 14 = .ok (.iload_n 3, 1) := by decide +kernel
theorem dX10_pays_15 : decode cX10_pays 15 = .ok (.invokevirtual 421, 3) := by decide +kernel
theorem dX10_pays_18 : decode cX10_pays 18 = .ok (.ifCond .ne 6, 3) := by decide +kernel
theorem dX10_pays_21 : decode cX10_pays 21 = .ok (.bipush (-2), 2) := by decide +kernel
theorem dX10_pays_23 : decode cX10_pays 23 = .ok (.ireturn, 1) := by decide +kernel
theorem dX10_pays_24 : decode cX10_pays 24 = .ok (.aload_n 0, 1) := by decide +kernel
theorem dX10_pays_25 : decode cX10_pays 25 = .ok (.iload_n 1, 1) := by decide +kernel
theorem dX10_pays_26 : decode cX10_pays 26 = .ok (.invokevirtual 434, 3) := by decide +kernel
theorem dX10_pays_29 : decode cX10_pays 29 = .ok (.aload_n 0, 1) := by decide +kernel
theorem dX10_pays_30 : decode cX10_pays 30 = .ok (.getfield 64, 3) := by decide +kernel
theorem dX10_pays_33 : decode cX10_pays 33 = .ok (.bipush 6, 2) := by decide +kernel
theorem dX10_pays_35 : decode cX10_pays 35 = .ok (.iload_n 2, 1) := by decide +kernel
theorem dX10_pays_36 : decode cX10_pays 36 = .ok (.imul, 1) := by decide +kernel
theorem dX10_pays_37 : decode cX10_pays 37 = .ok (.iload_n 3, 1) := by decide +kernel
theorem dX10_pays_38 : decode cX10_pays 38 = .ok (.iadd, 1) := by decide +kernel
theorem dX10_pays_39 : decode cX10_pays 39 = .ok (.iaload, 1) := by decide +kernel
theorem dX10_pays_40 : decode cX10_pays 40 = .ok (.ireturn, 1) := by decide +kernel
theorem dX10_law_0 : decode cX10_law 0 = .ok (.aload_n 0, 1) := by decide +kernel
theorem dX10_law_1 : decode cX10_law 1 = .ok (.invokevirtual 322, 3) := by decide +kernel
theorem dX10_law_4 : decode cX10_law 4 = .ok (.ifCond .ne 6, 3) := by decide +kernel
theorem dX10_law_7 : decode cX10_law 7 = .ok (.bipush (-2), 2) := by decide +kernel
theorem dX10_law_9 : decode cX10_law 9 = .ok (.ireturn, 1) := by decide +kernel
theorem dX10_law_10 : decode cX10_law 10 = .ok (.iconst (-1), 1) := by decide +kernel
theorem dX10_law_11 : decode cX10_law 11 = .ok (.istore_n 1, 1) := by decide +kernel
theorem dX10_law_12 : decode cX10_law 12 = .ok (.bipush 7, 2) := by decide +kernel
theorem dX10_law_14 : decode cX10_law 14 = .ok (.istore_n 2, 1) := by decide +kernel
theorem dX10_law_15 : decode cX10_law 15 = .ok (.iconst 0, 1) := by decide +kernel
theorem dX10_law_16 : decode cX10_law 16 = .ok (.istore_n 3, 1) := by decide +kernel
theorem dX10_law_17 : decode cX10_law 17 = .ok (.iload_n 3, 1) := by decide +kernel
theorem dX10_law_18 : decode cX10_law 18 = .ok (.iconst 3, 1) := by decide +kernel
theorem dX10_law_19 : decode cX10_law 19 = .ok (.if_icmp .ge 38, 3) := by decide +kernel
theorem dX10_law_22 : decode cX10_law 22 = .ok (.aload_n 0, 1) := by decide +kernel
theorem dX10_law_23 : decode cX10_law 23 = .ok (.iload_n 3, 1) := by decide +kernel
theorem dX10_law_24 : decode cX10_law 24 = .ok (.invokevirtual 434, 3) := by decide +kernel
theorem dX10_law_27 : decode cX10_law 27 = .ok (.aload_n 0, 1) := by decide +kernel
theorem dX10_law_28 : decode cX10_law 28 = .ok (.invokevirtual 437, 3) := by decide +kernel
theorem dX10_law_31 : decode cX10_law 31 = .ok (.invokestatic 440, 3) := by decide +kernel
theorem dX10_law_34 : decode cX10_law 34 = .ok (.iload_n 2, 1) := by decide +kernel
theorem dX10_law_35 : decode cX10_law 35 = .ok (.if_icmp .lt 6, 3) := by decide +kernel
theorem dX10_law_38 : decode cX10_law 38 = .ok (.goto 13, 3) := by decide +kernel
theorem dX10_law_41 : decode cX10_law 41 = .ok (.iload_n 3, 1) := by decide +kernel
theorem dX10_law_42 : decode cX10_law 42 = .ok (.istore_n 1, 1) := by decide +kernel
theorem dX10_law_43 : decode cX10_law 43 = .ok (.aload_n 0, 1) := by decide +kernel
theorem dX10_law_44 : decode cX10_law 44 = .ok (.invokevirtual 437, 3) := by decide +kernel
theorem dX10_law_47 : decode cX10_law 47 = .ok (.invokestatic 440, 3) := by decide +kernel
theorem dX10_law_50 : decode cX10_law 50 = .ok (.istore_n 2, 1) := by decide +kernel
theorem dX10_law_51 : decode cX10_law 51 = .ok (.iinc 3 1, 3) := by decide +kernel
theorem dX10_law_54 : decode cX10_law 54 = .ok (.goto (-37), 3) := by decide +kernel
theorem dX10_law_57 : decode cX10_law 57 = .ok (.iload_n 1, 1) := by decide +kernel
theorem dX10_law_58 : decode cX10_law 58 = .ok (.ireturn, 1) := by decide +kernel
theorem dX10_firstCrop_0 : decode cX10_firstCrop 0 = .ok (.iconst 0, 1) := by decide +kernel
theorem dX10_firstCrop_1 : decode cX10_firstCrop 1 = .ok (.istore_n 2, 1) := by decide +kernel
theorem dX10_firstCrop_2 : decode cX10_firstCrop 2 = .ok (.iload_n 2, 1) := by decide +kernel
theorem dX10_firstCrop_3 : decode cX10_firstCrop 3 = .ok (.aload_n 0, 1) := by decide +kernel
theorem dX10_firstCrop_4 : decode cX10_firstCrop 4 = .ok (.getfield 9, 3) := by decide +kernel
theorem dX10_firstCrop_7 : decode cX10_firstCrop 7 = .ok (.iconst 1, 1) := by decide +kernel
theorem dX10_firstCrop_8 : decode cX10_firstCrop 8 = .ok (.iaload, 1) := by decide +kernel
theorem dX10_firstCrop_9 : decode cX10_firstCrop 9 = .ok (.if_icmp .ge 21, 3) := by decide +kernel
theorem dX10_firstCrop_12 : decode cX10_firstCrop 12 = .ok (.aload_n 0, 1) := by decide +kernel
theorem dX10_firstCrop_13 : decode cX10_firstCrop 13 = .ok (.iload_n 2, 1) := by decide +kernel
theorem dX10_firstCrop_14 : decode cX10_firstCrop 14 = .ok (.iconst 0, 1) := by decide +kernel
theorem dX10_firstCrop_15 : decode cX10_firstCrop 15 = .ok (.invokevirtual 267, 3) := by decide +kernel
theorem dX10_firstCrop_18 : decode cX10_firstCrop 18 = .ok (.iload_n 1, 1) := by decide +kernel
theorem dX10_firstCrop_19 : decode cX10_firstCrop 19 = .ok (.if_icmp .ne 5, 3) := by decide +kernel
theorem dX10_firstCrop_22 : decode cX10_firstCrop 22 = .ok (.iload_n 2, 1) := by decide +kernel
theorem dX10_firstCrop_23 : decode cX10_firstCrop 23 = .ok (.ireturn, 1) := by decide +kernel
theorem dX10_firstCrop_24 : decode cX10_firstCrop 24 = .ok (.iinc 2 1, 3) := by decide +kernel
theorem dX10_firstCrop_27 : decode cX10_firstCrop 27 = .ok (.goto (-25), 3) := by decide +kernel
theorem dX10_firstCrop_30 : decode cX10_firstCrop 30 = .ok (.iconst (-1), 1) := by decide +kernel
theorem dX10_firstCrop_31 : decode cX10_firstCrop 31 = .ok (.ireturn, 1) := by decide +kernel
theorem dX10_melons_0 : decode cX10_melons 0 = .ok (.aload_n 0, 1) := by decide +kernel
theorem dX10_melons_1 : decode cX10_melons 1 = .ok (.iload_n 1, 1) := by decide +kernel
theorem dX10_melons_2 : decode cX10_melons 2 = .ok (.invokevirtual 93, 3) := by decide +kernel
theorem dX10_melons_5 : decode cX10_melons 5 = .ok (.ifCond .ne 6, 3) := by decide +kernel
theorem dX10_melons_8 : decode cX10_melons 8 = .ok (.bipush (-2), 2) := by decide +kernel
theorem dX10_melons_10 : decode cX10_melons 10 = .ok (.ireturn, 1) := by decide +kernel
theorem dX10_melons_11 : decode cX10_melons 11 = .ok (.aload_n 0, 1) := by decide +kernel
theorem dX10_melons_12 : decode cX10_melons 12 = .ok (.iload_n 1, 1) := by decide +kernel
theorem dX10_melons_13 : decode cX10_melons 13 = .ok (.invokevirtual 443, 3) := by decide +kernel
theorem dX10_melons_16 : decode cX10_melons 16 = .ok (.istore_n 2, 1) := by decide +kernel
theorem dX10_melons_17 : decode cX10_melons 17 = .ok (.iload_n 2, 1) := by decide +kernel
theorem dX10_melons_18 : decode cX10_melons 18 = .ok (.iconst (-1), 1) := by decide +kernel
theorem dX10_melons_19 : decode cX10_melons 19 = .ok (.if_icmp .ne 5, 3) := by decide +kernel
theorem dX10_melons_22 : decode cX10_melons 22 = .ok (.iconst (-1), 1) := by decide +kernel
theorem dX10_melons_23 : decode cX10_melons 23 = .ok (.ireturn, 1) := by decide +kernel
theorem dX10_melons_24 : decode cX10_melons 24 = .ok (.aload_n 0, 1) := by decide +kernel
theorem dX10_melons_25 : decode cX10_melons 25 = .ok (.invokevirtual 317, 3) := by decide +kernel
theorem dX10_melons_28 : decode cX10_melons 28 = .ok (.iconst 0, 1) := by decide +kernel
theorem dX10_melons_29 : decode cX10_melons 29 = .ok (.istore_n 3, 1) := by decide +kernel
theorem dX10_melons_30 : decode cX10_melons 30 = .ok (.iconst 0, 1) := by decide +kernel
theorem dX10_melons_31 : decode cX10_melons 31 = .ok (.istore 4, 2) := by decide +kernel
theorem dX10_melons_33 : decode cX10_melons 33 = .ok (.iload 4, 2) := by decide +kernel
theorem dX10_melons_35 : decode cX10_melons 35 = .ok (.aload_n 0, 1) := by decide +kernel
theorem dX10_melons_36 : decode cX10_melons 36 = .ok (.getfield 9, 3) := by decide +kernel
theorem dX10_melons_39 : decode cX10_melons 39 = .ok (.iconst 3, 1) := by decide +kernel
theorem dX10_melons_40 : decode cX10_melons 40 = .ok (.iaload, 1) := by decide +kernel
theorem dX10_melons_41 : decode cX10_melons 41 = .ok (.if_icmp .ge 33, 3) := by decide +kernel
theorem dX10_melons_44 : decode cX10_melons 44 = .ok (.iload_n 3, 1) := by decide +kernel
theorem dX10_melons_45 : decode cX10_melons 45 = .ok (.aload_n 0, 1) := by decide +kernel
theorem dX10_melons_46 : decode cX10_melons 46 = .ok (.iload 4, 2) := by decide +kernel
theorem dX10_melons_48 : decode cX10_melons 48 = .ok (.iconst 1, 1) := by decide +kernel
theorem dX10_melons_49 : decode cX10_melons 49 = .ok (.invokevirtual 261, 3) := by decide +kernel
theorem dX10_melons_52 : decode cX10_melons 52 = .ok (.iload_n 1, 1) := by decide +kernel
theorem dX10_melons_53 : decode cX10_melons 53 = .ok (.if_icmp .ne 12, 3) := by decide +kernel
theorem dX10_melons_56 : decode cX10_melons 56 = .ok (.aload_n 0, 1) := by decide +kernel
theorem dX10_melons_57 : decode cX10_melons 57 = .ok (.iload 4, 2) := by decide +kernel
theorem dX10_melons_59 : decode cX10_melons 59 = .ok (.invokevirtual 300, 3) := by decide +kernel
theorem dX10_melons_62 : decode cX10_melons 62 = .ok (.goto 4, 3) := by decide +kernel
theorem dX10_melons_65 : decode cX10_melons 65 = .ok (.iconst 0, 1) := by decide +kernel
theorem dX10_melons_66 : decode cX10_melons 66 = .ok (.iadd, 1) := by decide +kernel
theorem dX10_melons_67 : decode cX10_melons 67 = .ok (.istore_n 3, 1) := by decide +kernel
theorem dX10_melons_68 : decode cX10_melons 68 = .ok (.iinc 4 1, 3) := by decide +kernel
theorem dX10_melons_71 : decode cX10_melons 71 = .ok (.goto (-38), 3) := by decide +kernel
theorem dX10_melons_74 : decode cX10_melons 74 = .ok (.iconst 0, 1) := by decide +kernel
theorem dX10_melons_75 : decode cX10_melons 75 = .ok (.istore 4, 2) := by decide +kernel
theorem dX10_melons_77 : decode cX10_melons 77 = .ok (.iload 4, 2) := by decide +kernel
theorem dX10_melons_79 : decode cX10_melons 79 = .ok (.aload_n 0, 1) := by decide +kernel
theorem dX10_melons_80 : decode cX10_melons 80 = .ok (.getfield 9, 3) := by decide +kernel
theorem dX10_melons_83 : decode cX10_melons 83 = .ok (.iconst 2, 1) := by decide +kernel
theorem dX10_melons_84 : decode cX10_melons 84 = .ok (.iaload, 1) := by decide +kernel
theorem dX10_melons_85 : decode cX10_melons 85 = .ok (.if_icmp .ge 37, 3) := by decide +kernel
theorem dX10_melons_88 : decode cX10_melons 88 = .ok (.iload_n 3, 1) := by decide +kernel
theorem dX10_melons_89 : decode cX10_melons 89 = .ok (.aload_n 0, 1) := by decide +kernel
theorem dX10_melons_90 : decode cX10_melons 90 = .ok (.getfield 9, 3) := by decide +kernel
theorem dX10_melons_93 : decode cX10_melons 93 = .ok (.sipush 157, 3) := by decide +kernel
theorem dX10_melons_96 : decode cX10_melons 96 = .ok (.iload 4, 2) := by decide +kernel
theorem dX10_melons_98 : decode cX10_melons 98 = .ok (.iadd, 1) := by decide +kernel
theorem dX10_melons_99 : decode cX10_melons 99 = .ok (.iaload, 1) := by decide +kernel
theorem dX10_melons_100 : decode cX10_melons 100 = .ok (.iload_n 1, 1) := by decide +kernel
theorem dX10_melons_101 : decode cX10_melons 101 = .ok (.if_icmp .ne 12, 3) := by decide +kernel
theorem dX10_melons_104 : decode cX10_melons 104 = .ok (.aload_n 0, 1) := by decide +kernel
theorem dX10_melons_105 : decode cX10_melons 105 = .ok (.iload 4, 2) := by decide +kernel
theorem dX10_melons_107 : decode cX10_melons 107 = .ok (.invokevirtual 297, 3) := by decide +kernel
theorem dX10_melons_110 : decode cX10_melons 110 = .ok (.goto 4, 3) := by decide +kernel
theorem dX10_melons_113 : decode cX10_melons 113 = .ok (.iconst 0, 1) := by decide +kernel
theorem dX10_melons_114 : decode cX10_melons 114 = .ok (.iadd, 1) := by decide +kernel
theorem dX10_melons_115 : decode cX10_melons 115 = .ok (.istore_n 3, 1) := by decide +kernel
theorem dX10_melons_116 : decode cX10_melons 116 = .ok (.iinc 4 1, 3) := by decide +kernel
theorem dX10_melons_119 : decode cX10_melons 119 = .ok (.goto (-42), 3) := by decide +kernel
theorem dX10_melons_122 : decode cX10_melons 122 = .ok (.iload_n 3, 1) := by decide +kernel
theorem dX10_melons_123 : decode cX10_melons 123 = .ok (.aload_n 0, 1) := by decide +kernel
theorem dX10_melons_124 : decode cX10_melons 124 = .ok (.iload_n 2, 1) := by decide +kernel
theorem dX10_melons_125 : decode cX10_melons 125 = .ok (.iconst 1, 1) := by decide +kernel
theorem dX10_melons_126 : decode cX10_melons 126 = .ok (.invokevirtual 267, 3) := by decide +kernel
theorem dX10_melons_129 : decode cX10_melons 129 = .ok (.iadd, 1) := by decide +kernel
theorem dX10_melons_130 : decode cX10_melons 130 = .ok (.iconst 1, 1) := by decide +kernel
theorem dX10_melons_131 : decode cX10_melons 131 = .ok (.isub, 1) := by decide +kernel
theorem dX10_melons_132 : decode cX10_melons 132 = .ok (.aload_n 0, 1) := by decide +kernel
theorem dX10_melons_133 : decode cX10_melons 133 = .ok (.iload_n 2, 1) := by decide +kernel
theorem dX10_melons_134 : decode cX10_melons 134 = .ok (.iconst 1, 1) := by decide +kernel
theorem dX10_melons_135 : decode cX10_melons 135 = .ok (.invokevirtual 267, 3) := by decide +kernel
theorem dX10_melons_138 : decode cX10_melons 138 = .ok (.idiv, 1) := by decide +kernel
theorem dX10_melons_139 : decode cX10_melons 139 = .ok (.ireturn, 1) := by decide +kernel
theorem dX10_shareOf_0 : decode cX10_shareOf 0 = .ok (.iconst 0, 1) := by decide +kernel
theorem dX10_shareOf_1 : decode cX10_shareOf 1 = .ok (.istore_n 2, 1) := by decide +kernel
theorem dX10_shareOf_2 : decode cX10_shareOf 2 = .ok (.iconst 0, 1) := by decide +kernel
theorem dX10_shareOf_3 : decode cX10_shareOf 3 = .ok (.istore_n 3, 1) := by decide +kernel
theorem dX10_shareOf_4 : decode cX10_shareOf 4 = .ok (.iload_n 3, 1) := by decide +kernel
theorem dX10_shareOf_5 : decode cX10_shareOf 5 = .ok (.iload_n 1, 1) := by decide +kernel
theorem dX10_shareOf_6 : decode cX10_shareOf 6 = .ok (.if_icmp .gt 25, 3) := by decide +kernel
theorem dX10_shareOf_9 : decode cX10_shareOf 9 = .ok (.iload_n 2, 1) := by decide +kernel
theorem dX10_shareOf_10 : decode cX10_shareOf 10 = .ok (.aload_n 0, 1) := by decide +kernel
theorem dX10_shareOf_11 : decode cX10_shareOf 11 = .ok (.iload_n 3, 1) := by decide +kernel
theorem dX10_shareOf_12 : decode cX10_shareOf 12 = .ok (.iconst 4, 1) := by decide +kernel
theorem dX10_shareOf_13 : decode cX10_shareOf 13 = .ok (.invokevirtual 241, 3) := by decide +kernel
theorem dX10_shareOf_16 : decode cX10_shareOf 16 = .ok (.aload_n 0, 1) := by decide +kernel
theorem dX10_shareOf_17 : decode cX10_shareOf 17 = .ok (.invokevirtual 89, 3) := by decide +kernel
theorem dX10_shareOf_20 : decode cX10_shareOf 20 = .ok (.iload_n 3, 1) := by decide +kernel
theorem dX10_shareOf_21 : decode cX10_shareOf 21 = .ok (.isub, 1) := by decide +kernel
theorem dX10_shareOf_22 : decode cX10_shareOf 22 = .ok (.idiv, 1) := by decide +kernel
theorem dX10_shareOf_23 : decode cX10_shareOf 23 = .ok (.iadd, 1) := by decide +kernel
theorem dX10_shareOf_24 : decode cX10_shareOf 24 = .ok (.istore_n 2, 1) := by decide +kernel
theorem dX10_shareOf_25 : decode cX10_shareOf 25 = .ok (.iinc 3 1, 3) := by decide +kernel
theorem dX10_shareOf_28 : decode cX10_shareOf 28 = .ok (.goto (-24), 3) := by decide +kernel
theorem dX10_shareOf_31 : decode cX10_shareOf 31 = .ok (.iload_n 2, 1) := by decide +kernel
theorem dX10_shareOf_32 : decode cX10_shareOf 32 = .ok (.ireturn, 1) := by decide +kernel
theorem dX10_share_0 : decode cX10_share 0 = .ok (.aload_n 0, 1) := by decide +kernel
theorem dX10_share_1 : decode cX10_share 1 = .ok (.iload_n 1, 1) := by decide +kernel
theorem dX10_share_2 : decode cX10_share 2 = .ok (.invokevirtual 93, 3) := by decide +kernel
theorem dX10_share_5 : decode cX10_share 5 = .ok (.ifCond .ne 6, 3) := by decide +kernel
theorem dX10_share_8 : decode cX10_share 8 = .ok (.bipush (-2), 2) := by decide +kernel
theorem dX10_share_10 : decode cX10_share 10 = .ok (.ireturn, 1) := by decide +kernel
theorem dX10_share_11 : decode cX10_share 11 = .ok (.iload_n 1, 1) := by decide +kernel
theorem dX10_share_12 : decode cX10_share 12 = .ok (.aload_n 0, 1) := by decide +kernel
theorem dX10_share_13 : decode cX10_share 13 = .ok (.invokevirtual 89, 3) := by decide +kernel
theorem dX10_share_16 : decode cX10_share 16 = .ok (.iconst 1, 1) := by decide +kernel
theorem dX10_share_17 : decode cX10_share 17 = .ok (.isub, 1) := by decide +kernel
theorem dX10_share_18 : decode cX10_share 18 = .ok (.if_icmp .ge 9, 3) := by decide +kernel
theorem dX10_share_21 : decode cX10_share 21 = .ok (.aload_n 0, 1) := by decide +kernel
theorem dX10_share_22 : decode cX10_share 22 = .ok (.iload_n 1, 1) := by decide +kernel
theorem dX10_share_23 : decode cX10_share 23 = .ok (.invokevirtual 446, 3) := by decide +kernel
theorem dX10_share_26 : decode cX10_share 26 = .ok (.ireturn, 1) := by decide +kernel
theorem dX10_share_27 : decode cX10_share 27 = .ok (.iconst 0, 1) := by decide +kernel
theorem dX10_share_28 : decode cX10_share 28 = .ok (.istore_n 2, 1) := by decide +kernel
theorem dX10_share_29 : decode cX10_share 29 = .ok (.iconst 0, 1) := by decide +kernel
theorem dX10_share_30 : decode cX10_share 30 = .ok (.istore_n 3, 1) := by decide +kernel
theorem dX10_share_31 : decode cX10_share 31 = .ok (.iload_n 3, 1) := by decide +kernel
theorem dX10_share_32 : decode cX10_share 32 = .ok (.aload_n 0, 1) := by decide +kernel
theorem dX10_share_33 : decode cX10_share 33 = .ok (.invokevirtual 89, 3) := by decide +kernel
theorem dX10_share_36 : decode cX10_share 36 = .ok (.if_icmp .ge 33, 3) := by decide +kernel
theorem dX10_share_39 : decode cX10_share 39 = .ok (.iload_n 2, 1) := by decide +kernel
theorem dX10_share_40 : decode cX10_share 40 = .ok (.aload_n 0, 1) := by decide +kernel
theorem dX10_share_41 : decode cX10_share 41 = .ok (.iload_n 3, 1) := by decide +kernel
theorem dX10_share_42 : decode cX10_share 42 = .ok (.iconst 4, 1) := by decide +kernel
theorem dX10_share_43 : decode cX10_share 43 = .ok (.invokevirtual 241, 3) := by decide +kernel
theorem dX10_share_46 : decode cX10_share 46 = .ok (.iload_n 3, 1) := by decide +kernel
theorem dX10_share_47 : decode cX10_share 47 = .ok (.iload_n 1, 1) := by decide +kernel
theorem dX10_share_48 : decode cX10_share 48 = .ok (.if_icmp .ge 11, 3) := by decide +kernel
theorem dX10_share_51 : decode cX10_share 51 = .ok (.aload_n 0, 1) := by decide +kernel
theorem dX10_share_52 : decode cX10_share 52 = .ok (.iload_n 3, 1) := by decide +kernel
theorem dX10_share_53 : decode cX10_share 53 = .ok (.invokevirtual 446, 3) := by decide +kernel
theorem dX10_share_56 : decode cX10_share 56 = .ok (.goto 4, 3) := by decide +kernel
theorem dX10_share_59 : decode cX10_share 59 = .ok (.iconst 0, 1) := by decide +kernel
theorem dX10_share_60 : decode cX10_share 60 = .ok (.isub, 1) := by decide +kernel
theorem dX10_share_61 : decode cX10_share 61 = .ok (.iadd, 1) := by decide +kernel
theorem dX10_share_62 : decode cX10_share 62 = .ok (.istore_n 2, 1) := by decide +kernel
theorem dX10_share_63 : decode cX10_share 63 = .ok (.iinc 3 1, 3) := by decide +kernel
theorem dX10_share_66 : decode cX10_share 66 = .ok (.goto (-35), 3) := by decide +kernel
theorem dX10_share_69 : decode cX10_share 69 = .ok (.iload_n 2, 1) := by decide +kernel
theorem dX10_share_70 : decode cX10_share 70 = .ok (.ireturn, 1) := by decide +kernel
theorem dX10_isNeverDry_0 : decode cX10_isNeverDry 0 = .ok (.iconst 0, 1) := by decide +kernel
theorem dX10_isNeverDry_1 : decode cX10_isNeverDry 1 = .ok (.istore_n 2, 1) := by decide +kernel
theorem dX10_isNeverDry_2 : decode cX10_isNeverDry 2 = .ok (.iload_n 2, 1) := by decide +kernel
theorem dX10_isNeverDry_3 : decode cX10_isNeverDry 3 = .ok (.aload_n 0, 1) := by decide +kernel
theorem dX10_isNeverDry_4 : decode cX10_isNeverDry 4 = .ok (.getfield 9, 3) := by decide +kernel
theorem dX10_isNeverDry_7 : decode cX10_isNeverDry 7 = .ok (.iconst 1, 1) := by decide +kernel
theorem dX10_isNeverDry_8 : decode cX10_isNeverDry 8 = .ok (.iaload, 1) := by decide +kernel
theorem dX10_isNeverDry_9 : decode cX10_isNeverDry 9 = .ok (.if_icmp .ge 34, 3) := by decide +kernel
theorem dX10_isNeverDry_12 : decode cX10_isNeverDry 12 = .ok (.aload_n 0, 1) := by decide +kernel
theorem dX10_isNeverDry_13 : decode cX10_isNeverDry 13 = .ok (.iload_n 2, 1) := by decide +kernel
theorem dX10_isNeverDry_14 : decode cX10_isNeverDry 14 = .ok (.iconst 0, 1) := by decide +kernel
theorem dX10_isNeverDry_15 : decode cX10_isNeverDry 15 = .ok (.invokevirtual 267, 3) := by decide +kernel
theorem dX10_isNeverDry_18 : decode cX10_isNeverDry 18 = .ok (.iload_n 1, 1) := by decide +kernel
theorem dX10_isNeverDry_19 : decode cX10_isNeverDry 19 = .ok (.if_icmp .ne 18, 3) := by decide +kernel
theorem dX10_isNeverDry_22 : decode cX10_isNeverDry 22 = .ok (.aload_n 0, 1) := by decide +kernel
theorem dX10_isNeverDry_23 : decode cX10_isNeverDry 23 = .ok (.getfield 46, 3) := by decide +kernel
theorem dX10_isNeverDry_26 : decode cX10_isNeverDry 26 = .ok (.iconst 3, 1) := by decide +kernel
theorem dX10_isNeverDry_27 : decode cX10_isNeverDry 27 = .ok (.iload_n 2, 1) := by decide +kernel
theorem dX10_isNeverDry_28 : decode cX10_isNeverDry 28 = .ok (.imul, 1) := by decide +kernel
theorem dX10_isNeverDry_29 : decode cX10_isNeverDry 29 = .ok (.iconst 1, 1) := by decide +kernel
theorem dX10_isNeverDry_30 : decode cX10_isNeverDry 30 = .ok (.iadd, 1) := by decide +kernel
theorem dX10_isNeverDry_31 : decode cX10_isNeverDry 31 = .ok (.iaload, 1) := by decide +kernel
theorem dX10_isNeverDry_32 : decode cX10_isNeverDry 32 = .ok (.ifCond .le 5, 3) := by decide +kernel
theorem dX10_isNeverDry_35 : decode cX10_isNeverDry 35 = .ok (.iconst 0, 1) := by decide +kernel
theorem dX10_isNeverDry_36 : decode cX10_isNeverDry 36 = .ok (.ireturn, 1) := by decide +kernel
theorem dX10_isNeverDry_37 : decode cX10_isNeverDry 37 = .ok (.iinc 2 1, 3) := by decide +kernel
theorem dX10_isNeverDry_40 : decode cX10_isNeverDry 40 = .ok (.goto (-38), 3) := by decide +kernel
theorem dX10_isNeverDry_43 : decode cX10_isNeverDry 43 = .ok (.iconst 1, 1) := by decide +kernel
theorem dX10_isNeverDry_44 : decode cX10_isNeverDry 44 = .ok (.ireturn, 1) := by decide +kernel
theorem dX10_enough_0 : decode cX10_enough 0 = .ok (.aload_n 0, 1) := by decide +kernel
theorem dX10_enough_1 : decode cX10_enough 1 = .ok (.iload_n 1, 1) := by decide +kernel
theorem dX10_enough_2 : decode cX10_enough 2 = .ok (.invokevirtual 93, 3) := by decide +kernel
theorem dX10_enough_5 : decode cX10_enough 5 = .ok (.ifCond .ne 6, 3) := by decide +kernel
theorem dX10_enough_8 : decode cX10_enough 8 = .ok (.bipush (-2), 2) := by decide +kernel
theorem dX10_enough_10 : decode cX10_enough 10 = .ok (.ireturn, 1) := by decide +kernel
theorem dX10_enough_11 : decode cX10_enough 11 = .ok (.bipush 8, 2) := by decide +kernel
theorem dX10_enough_13 : decode cX10_enough 13 = .ok (.iconst 5, 1) := by decide +kernel
theorem dX10_enough_14 : decode cX10_enough 14 = .ok (.iload_n 1, 1) := by decide +kernel
theorem dX10_enough_15 : decode cX10_enough 15 = .ok (.imul, 1) := by decide +kernel
theorem dX10_enough_16 : decode cX10_enough 16 = .ok (.iadd, 1) := by decide +kernel
theorem dX10_enough_17 : decode cX10_enough 17 = .ok (.iconst 1, 1) := by decide +kernel
theorem dX10_enough_18 : decode cX10_enough 18 = .ok (.iadd, 1) := by decide +kernel
theorem dX10_enough_19 : decode cX10_enough 19 = .ok (.istore_n 2, 1) := by decide +kernel
theorem dX10_enough_20 : decode cX10_enough 20 = .ok (.aload_n 0, 1) := by decide +kernel
theorem dX10_enough_21 : decode cX10_enough 21 = .ok (.getfield 9, 3) := by decide +kernel
theorem dX10_enough_24 : decode cX10_enough 24 = .ok (.iload_n 2, 1) := by decide +kernel
theorem dX10_enough_25 : decode cX10_enough 25 = .ok (.iaload, 1) := by decide +kernel
theorem dX10_enough_26 : decode cX10_enough 26 = .ok (.istore_n 3, 1) := by decide +kernel
theorem dX10_enough_27 : decode cX10_enough 27 = .ok (.iconst (-1), 1) := by decide +kernel
theorem dX10_enough_28 : decode cX10_enough 28 = .ok (.istore 4, 2) := by decide +kernel
theorem dX10_enough_30 : decode cX10_enough 30 = .ok (.iconst 0, 1) := by decide +kernel
theorem dX10_enough_31 : decode cX10_enough 31 = .ok (.istore 5, 2) := by decide +kernel
theorem dX10_enough_33 : decode cX10_enough 33 = .ok (.iload 5, 2) := by decide +kernel
theorem dX10_enough_35 : decode cX10_enough 35 = .ok (.aload_n 0, 1) := by decide +kernel
theorem dX10_enough_36 : decode cX10_enough 36 = .ok (.iload_n 1, 1) := by decide +kernel
theorem dX10_enough_37 : decode cX10_enough 37 = .ok (.iconst 0, 1) := by decide +kernel
theorem dX10_enough_38 : decode cX10_enough 38 = .ok (.invokevirtual 241, 3) := by decide +kernel
theorem dX10_enough_41 : decode cX10_enough 41 = .ok (.if_icmp .gt 43, 3) := by decide +kernel
theorem dX10_enough_44 : decode cX10_enough 44 = .ok (.iload 4, 2) := by decide +kernel
theorem dX10_enough_46 : decode cX10_enough 46 = .ok (.iconst (-1), 1) := by decide +kernel
theorem dX10_enough_47 : decode cX10_enough 47 = .ok (.if_icmp .ne 37, 3) := by decide +kernel
theorem dX10_enough_50 : decode cX10_enough 50 = .ok (.aload_n 0, 1) := by decide +kernel
theorem dX10_enough_51 : decode cX10_enough 51 = .ok (.getfield 9, 3) := by decide +kernel
theorem dX10_enough_54 : decode cX10_enough 54 = .ok (.iload_n 2, 1) := by decide +kernel
theorem dX10_enough_55 : decode cX10_enough 55 = .ok (.iload 5, 2) := by decide +kernel
theorem dX10_enough_57 : decode cX10_enough 57 = .ok (.iastore, 1) := by decide +kernel
theorem dX10_enough_58 : decode cX10_enough 58 = .ok (.aload_n 0, 1) := by decide +kernel
theorem dX10_enough_59 : decode cX10_enough 59 = .ok (.invokevirtual 317, 3) := by decide +kernel
theorem dX10_enough_62 : decode cX10_enough 62 = .ok (.aload_n 0, 1) := by decide +kernel
theorem dX10_enough_63 : decode cX10_enough 63 = .ok (.iload_n 1, 1) := by decide +kernel
theorem dX10_enough_64 : decode cX10_enough 64 = .ok (.invokevirtual 449, 3) := by decide +kernel
theorem dX10_enough_67 : decode cX10_enough 67 = .ok (.ifCond .eq 8, 3) := by decide +kernel
theorem dX10_enough_70 : decode cX10_enough 70 = .ok (.iload 5, 2) := by decide +kernel
theorem dX10_enough_72 : decode cX10_enough 72 = .ok (.goto 4, 3) := by decide +kernel
theorem dX10_enough_75 : decode cX10_enough 75 = .ok (.iconst (-1), 1) := by decide +kernel
theorem dX10_enough_76 : decode cX10_enough 76 = .ok (.istore 4, 2) := by decide +kernel
theorem dX10_enough_78 : decode cX10_enough 78 = .ok (.iinc 5 1, 3) := by decide +kernel
theorem dX10_enough_81 : decode cX10_enough 81 = .ok (.goto (-48), 3) := by decide +kernel
theorem dX10_enough_84 : decode cX10_enough 84 = .ok (.aload_n 0, 1) := by decide +kernel
theorem dX10_enough_85 : decode cX10_enough 85 = .ok (.getfield 9, 3) := by decide +kernel
theorem dX10_enough_88 : decode cX10_enough 88 = .ok (.iload_n 2, 1) := by decide +kernel
theorem dX10_enough_89 : decode cX10_enough 89 = .ok (.iload_n 3, 1) := by decide +kernel
theorem dX10_enough_90 : decode cX10_enough 90 = .ok (.iastore, 1) := by decide +kernel
theorem dX10_enough_91 : decode cX10_enough 91 = .ok (.iload 4, 2) := by decide +kernel
theorem dX10_enough_93 : decode cX10_enough 93 = .ok (.ireturn, 1) := by decide +kernel
theorem dX10_draw_0 : decode cX10_draw 0 = .ok (.aload_n 0, 1) := by decide +kernel
theorem dX10_draw_1 : decode cX10_draw 1 = .ok (.ldc2_w 452, 3) := by decide +kernel
theorem dX10_draw_4 : decode cX10_draw 4 = .ok (.aload_n 0, 1) := by decide +kernel
theorem dX10_draw_5 : decode cX10_draw 5 = .ok (.getfield 454, 3) := by decide +kernel
theorem dX10_draw_8 : decode cX10_draw 8 = .ok (.lmul, 1) := by decide +kernel
theorem dX10_draw_9 : decode cX10_draw 9 = .ok (.ldc2_w 457, 3) := by decide +kernel
theorem dX10_draw_12 : decode cX10_draw 12 = .ok (.ladd, 1) := by decide +kernel
theorem dX10_draw_13 : decode cX10_draw 13 = .ok (.ldc2_w 459, 3) := by decide +kernel
theorem dX10_draw_16 : decode cX10_draw 16 = .ok (.lrem, 1) := by decide +kernel
theorem dX10_draw_17 : decode cX10_draw 17 = .ok (.putfield 454, 3) := by decide +kernel
theorem dX10_draw_20 : decode cX10_draw 20 = .ok (.aload_n 0, 1) := by decide +kernel
theorem dX10_draw_21 : decode cX10_draw 21 = .ok (.getfield 454, 3) := by decide +kernel
theorem dX10_draw_24 : decode cX10_draw 24 = .ok (.ldc2_w 461, 3) := by decide +kernel
theorem dX10_draw_27 : decode cX10_draw 27 = .ok (.ldiv, 1) := by decide +kernel
theorem dX10_draw_28 : decode cX10_draw 28 = .ok (.ldc2_w 357, 3) := by decide +kernel
theorem dX10_draw_31 : decode cX10_draw 31 = .ok (.lrem, 1) := by decide +kernel
theorem dX10_draw_32 : decode cX10_draw 32 = .ok (.l2i, 1) := by decide +kernel
theorem dX10_draw_33 : decode cX10_draw 33 = .ok (.ireturn, 1) := by decide +kernel
theorem dX10_floodsDrawn_0 : decode cX10_floodsDrawn 0 = .ok (.aload_n 0, 1) := by decide +kernel
theorem dX10_floodsDrawn_1 : decode cX10_floodsDrawn 1 = .ok (.lload_n 1, 1) := by decide +kernel
theorem dX10_floodsDrawn_2 : decode cX10_floodsDrawn 2 = .ok (.putfield 454, 3) := by decide +kernel
theorem dX10_floodsDrawn_5 : decode cX10_floodsDrawn 5 = .ok (.iconst 0, 1) := by decide +kernel
theorem dX10_floodsDrawn_6 : decode cX10_floodsDrawn 6 = .ok (.istore_n 3, 1) := by decide +kernel
theorem dX10_floodsDrawn_7 : decode cX10_floodsDrawn 7 = .ok (.iconst 0, 1) := by decide +kernel
theorem dX10_floodsDrawn_8 : decode cX10_floodsDrawn 8 = .ok (.istore 4, 2) := by decide +kernel
theorem dX10_floodsDrawn_10 : decode cX10_floodsDrawn 10 = .ok (.iload 4, 2) := by decide +kernel
theorem dX10_floodsDrawn_12 : decode cX10_floodsDrawn 12 = .ok (.aload_n 0, 1) := by decide +kernel
theorem dX10_floodsDrawn_13 : decode cX10_floodsDrawn 13 = .ok (.getfield 9, 3) := by decide +kernel
theorem dX10_floodsDrawn_16 : decode cX10_floodsDrawn 16 = .ok (.iconst 2, 1) := by decide +kernel
theorem dX10_floodsDrawn_17 : decode cX10_floodsDrawn 17 = .ok (.iaload, 1) := by decide +kernel
theorem dX10_floodsDrawn_18 : decode cX10_floodsDrawn 18 = .ok (.if_icmp .ge 34, 3) := by decide +kernel
theorem dX10_floodsDrawn_21 : decode cX10_floodsDrawn 21 = .ok (.iload_n 3, 1) := by decide +kernel
theorem dX10_floodsDrawn_22 : decode cX10_floodsDrawn 22 = .ok (.aload_n 0, 1) := by decide +kernel
theorem dX10_floodsDrawn_23 : decode cX10_floodsDrawn 23 = .ok (.invokevirtual 463, 3) := by decide +kernel
theorem dX10_floodsDrawn_26 : decode cX10_floodsDrawn 26 = .ok (.aload_n 0, 1) := by decide +kernel
theorem dX10_floodsDrawn_27 : decode cX10_floodsDrawn 27 = .ok (.iload 4, 2) := by decide +kernel
theorem dX10_floodsDrawn_29 : decode cX10_floodsDrawn 29 = .ok (.iconst 2, 1) := by decide +kernel
theorem dX10_floodsDrawn_30 : decode cX10_floodsDrawn 30 = .ok (.invokevirtual 252, 3) := by decide +kernel
theorem dX10_floodsDrawn_33 : decode cX10_floodsDrawn 33 = .ok (.if_icmp .ge 10, 3) := by decide +kernel
theorem dX10_floodsDrawn_36 : decode cX10_floodsDrawn 36 = .ok (.iconst 1, 1) := by decide +kernel
theorem dX10_floodsDrawn_37 : decode cX10_floodsDrawn 37 = .ok (.iload 4, 2) := by decide +kernel
theorem dX10_floodsDrawn_39 : decode cX10_floodsDrawn 39 = .ok (.ishl, 1) := by decide +kernel
theorem dX10_floodsDrawn_40 : decode cX10_floodsDrawn 40 = .ok (.goto 4, 3) := by decide +kernel
theorem dX10_floodsDrawn_43 : decode cX10_floodsDrawn 43 = .ok (.iconst 0, 1) := by decide +kernel
theorem dX10_floodsDrawn_44 : decode cX10_floodsDrawn 44 = .ok (.ior, 1) := by decide +kernel
theorem dX10_floodsDrawn_45 : decode cX10_floodsDrawn 45 = .ok (.istore_n 3, 1) := by decide +kernel
theorem dX10_floodsDrawn_46 : decode cX10_floodsDrawn 46 = .ok (.iinc 4 1, 3) := by decide +kernel
theorem dX10_floodsDrawn_49 : decode cX10_floodsDrawn 49 = .ok (.goto (-39), 3) := by decide +kernel
theorem dX10_floodsDrawn_52 : decode cX10_floodsDrawn 52 = .ok (.iload_n 3, 1) := by decide +kernel
theorem dX10_floodsDrawn_53 : decode cX10_floodsDrawn 53 = .ok (.ireturn, 1) := by decide +kernel
theorem dX10_year__0 : decode cX10_year_ 0 = .ok (.aload_n 0, 1) := by decide +kernel
theorem dX10_year__1 : decode cX10_year_ 1 = .ok (.invokevirtual 322, 3) := by decide +kernel
theorem dX10_year__4 : decode cX10_year_ 4 = .ok (.ifCond .eq 27, 3) := by decide +kernel
theorem dX10_year__7 : decode cX10_year_ 7 = .ok (.iload_n 1, 1) := by decide +kernel
theorem dX10_year__8 : decode cX10_year_ 8 = .ok (.i2l, 1) := by decide +kernel
theorem dX10_year__9 : decode cX10_year_ 9 = .ok (.lconst 0, 1) := by decide +kernel
theorem dX10_year__10 : decode cX10_year_ 10 = .ok (.ldc2_w 466, 3) := by decide +kernel
theorem dX10_year__13 : decode cX10_year_ 13 = .ok (.invokestatic 85, 3) := by decide +kernel
theorem dX10_year__16 : decode cX10_year_ 16 = .ok (.ifCond .eq 15, 3) := by decide +kernel
theorem dX10_year__19 : decode cX10_year_ 19 = .ok (.iload_n 2, 1) := by decide +kernel
theorem dX10_year__20 : decode cX10_year_ 20 = .ok (.i2l, 1) := by decide +kernel
theorem dX10_year__21 : decode cX10_year_ 21 = .ok (.lconst 0, 1) := by decide +kernel
theorem dX10_year__22 : decode cX10_year_ 22 = .ok (.ldc2_w 83, 3) := by decide +kernel
theorem dX10_year__25 : decode cX10_year_ 25 = .ok (.invokestatic 85, 3) := by decide +kernel
theorem dX10_year__28 : decode cX10_year_ 28 = .ok (.ifCond .ne 6, 3) := by decide +kernel
theorem dX10_year__31 : decode cX10_year_ 31 = .ok (.bipush (-2), 2) := by decide +kernel
theorem dX10_year__33 : decode cX10_year_ 33 = .ok (.ireturn, 1) := by decide +kernel
theorem dX10_year__34 : decode cX10_year_ 34 = .ok (.aload_n 0, 1) := by decide +kernel
theorem dX10_year__35 : decode cX10_year_ 35 = .ok (.iload_n 1, 1) := by decide +kernel
theorem dX10_year__36 : decode cX10_year_ 36 = .ok (.i2l, 1) := by decide +kernel
theorem dX10_year__37 : decode cX10_year_ 37 = .ok (.invokevirtual 468, 3) := by decide +kernel
theorem dX10_year__40 : decode cX10_year_ 40 = .ok (.istore_n 3, 1) := by decide +kernel
theorem dX10_year__41 : decode cX10_year_ 41 = .ok (.aload_n 0, 1) := by decide +kernel
theorem dX10_year__42 : decode cX10_year_ 42 = .ok (.iload_n 3, 1) := by decide +kernel
theorem dX10_year__43 : decode cX10_year_ 43 = .ok (.invokevirtual 294, 3) := by decide +kernel
theorem dX10_year__46 : decode cX10_year_ 46 = .ok (.iload_n 2, 1) := by decide +kernel
theorem dX10_year__47 : decode cX10_year_ 47 = .ok (.ifCond .ne 10, 3) := by decide +kernel
theorem dX10_year__50 : decode cX10_year_ 50 = .ok (.aload_n 0, 1) := by decide +kernel
theorem dX10_year__51 : decode cX10_year_ 51 = .ok (.invokevirtual 327, 3) := by decide +kernel
theorem dX10_year__54 : decode cX10_year_ 54 = .ok (.goto 16, 3) := by decide +kernel
theorem dX10_year__57 : decode cX10_year_ 57 = .ok (.iload_n 2, 1) := by decide +kernel
theorem dX10_year__58 : decode cX10_year_ 58 = .ok (.iconst 1, 1) := by decide +kernel
theorem dX10_year__59 : decode cX10_year_ 59 = .ok (.if_icmp .ne 10, 3) := by decide +kernel
theorem dX10_year__62 : decode cX10_year_ 62 = .ok (.aload_n 0, 1) := by decide +kernel
theorem dX10_year__63 : decode cX10_year_ 63 = .ok (.invokevirtual 345, 3) := by decide +kernel
theorem dX10_year__66 : decode cX10_year_ 66 = .ok (.goto 4, 3) := by decide +kernel
theorem dX10_year__69 : decode cX10_year_ 69 = .ok (.iload_n 3, 1) := by decide +kernel
theorem dX10_year__70 : decode cX10_year_ 70 = .ok (.ireturn, 1) := by decide +kernel
theorem dX10_years_0 : decode cX10_years 0 = .ok (.aload_n 0, 1) := by decide +kernel
theorem dX10_years_1 : decode cX10_years 1 = .ok (.invokevirtual 322, 3) := by decide +kernel
theorem dX10_years_4 : decode cX10_years 4 = .ok (.ifCond .eq 27, 3) := by decide +kernel
theorem dX10_years_7 : decode cX10_years 7 = .ok (.iload_n 1, 1) := by decide +kernel
theorem dX10_years_8 : decode cX10_years 8 = .ok (.i2l, 1) := by decide +kernel
theorem dX10_years_9 : decode cX10_years 9 = .ok (.lconst 0, 1) := by decide +kernel
theorem dX10_years_10 : decode cX10_years 10 = .ok (.ldc2_w 466, 3) := by decide +kernel
theorem dX10_years_13 : decode cX10_years 13 = .ok (.invokestatic 85, 3) := by decide +kernel
theorem dX10_years_16 : decode cX10_years 16 = .ok (.ifCond .eq 15, 3) := by decide +kernel
theorem dX10_years_19 : decode cX10_years 19 = .ok (.iload_n 2, 1) := by decide +kernel
theorem dX10_years_20 : decode cX10_years 20 = .ok (.i2l, 1) := by decide +kernel
theorem dX10_years_21 : decode cX10_years 21 = .ok (.lconst 1, 1) := by decide +kernel
theorem dX10_years_22 : decode cX10_years 22 = .ok (.ldc2_w 472, 3) := by decide +kernel
theorem dX10_years_25 : decode cX10_years 25 = .ok (.invokestatic 85, 3) := by decide +kernel
theorem dX10_years_28 : decode cX10_years 28 = .ok (.ifCond .ne 6, 3) := by decide +kernel
theorem dX10_years_31 : decode cX10_years 31 = .ok (.bipush (-2), 2) := by decide +kernel
theorem dX10_years_33 : decode cX10_years 33 = .ok (.ireturn, 1) := by decide +kernel
theorem dX10_years_34 : decode cX10_years 34 = .ok (.iconst 0, 1) := by decide +kernel
theorem dX10_years_35 : decode cX10_years 35 = .ok (.istore_n 3, 1) := by decide +kernel
theorem dX10_years_36 : decode cX10_years 36 = .ok (.iconst 0, 1) := by decide +kernel
theorem dX10_years_37 : decode cX10_years 37 = .ok (.istore 4, 2) := by decide +kernel
theorem dX10_years_39 : decode cX10_years 39 = .ok (.iload 4, 2) := by decide +kernel
theorem dX10_years_41 : decode cX10_years 41 = .ok (.iload_n 2, 1) := by decide +kernel
theorem dX10_years_42 : decode cX10_years 42 = .ok (.if_icmp .ge 38, 3) := by decide +kernel
theorem dX10_years_45 : decode cX10_years 45 = .ok (.aload_n 0, 1) := by decide +kernel
theorem dX10_years_46 : decode cX10_years 46 = .ok (.aload_n 0, 1) := by decide +kernel
theorem dX10_years_47 : decode cX10_years 47 = .ok (.iload_n 1, 1) := by decide +kernel
theorem dX10_years_48 : decode cX10_years 48 = .ok (.i2l, 1) := by decide +kernel
theorem dX10_years_49 : decode cX10_years 49 = .ok (.iload 4, 2) := by decide +kernel
theorem dX10_years_51 : decode cX10_years 51 = .ok (.i2l, 1) := by decide +kernel
theorem dX10_years_52 : decode cX10_years 52 = .ok (.ladd, 1) := by decide +kernel
theorem dX10_years_53 : decode cX10_years 53 = .ok (.invokevirtual 468, 3) := by decide +kernel
theorem dX10_years_56 : decode cX10_years 56 = .ok (.invokevirtual 294, 3) := by decide +kernel
theorem dX10_years_59 : decode cX10_years 59 = .ok (.iload_n 3, 1) := by decide +kernel
theorem dX10_years_60 : decode cX10_years 60 = .ok (.aload_n 0, 1) := by decide +kernel
theorem dX10_years_61 : decode cX10_years 61 = .ok (.invokevirtual 345, 3) := by decide +kernel
theorem dX10_years_64 : decode cX10_years 64 = .ok (.ifCond .ne 7, 3) := by decide +kernel
theorem dX10_years_67 : decode cX10_years 67 = .ok (.iconst 1, 1) := by decide +kernel
theorem dX10_years_68 : decode cX10_years 68 = .ok (.goto 4, 3) := by decide +kernel
theorem dX10_years_71 : decode cX10_years 71 = .ok (.iconst 0, 1) := by decide +kernel
theorem dX10_years_72 : decode cX10_years 72 = .ok (.iadd, 1) := by decide +kernel
theorem dX10_years_73 : decode cX10_years 73 = .ok (.istore_n 3, 1) := by decide +kernel
theorem dX10_years_74 : decode cX10_years 74 = .ok (.iinc 4 1, 3) := by decide +kernel
theorem dX10_years_77 : decode cX10_years 77 = .ok (.goto (-38), 3) := by decide +kernel
theorem dX10_years_80 : decode cX10_years 80 = .ok (.iload_n 3, 1) := by decide +kernel
theorem dX10_years_81 : decode cX10_years 81 = .ok (.ireturn, 1) := by decide +kernel
theorem dX10_count_0 : decode cX10_count 0 = .ok (.iconst 0, 1) := by decide +kernel
theorem dX10_count_1 : decode cX10_count 1 = .ok (.istore_n 2, 1) := by decide +kernel
theorem dX10_count_2 : decode cX10_count 2 = .ok (.iload_n 1, 1) := by decide +kernel
theorem dX10_count_3 : decode cX10_count 3 = .ok (.tableswitch 147 0 9 #[53, 60, 65, 72, 79, 86, 93, 98, 106, 114], 53) := by decide +kernel
theorem dX10_count_56 : decode cX10_count 56 = .ok (.aload_n 0, 1) := by decide +kernel
theorem dX10_count_57 : decode cX10_count 57 = .ok (.getfield 9, 3) := by decide +kernel
theorem dX10_count_60 : decode cX10_count 60 = .ok (.iconst 5, 1) := by decide +kernel
theorem dX10_count_61 : decode cX10_count 61 = .ok (.iaload, 1) := by decide +kernel
theorem dX10_count_62 : decode cX10_count 62 = .ok (.ireturn, 1) := by decide +kernel
theorem dX10_count_63 : decode cX10_count 63 = .ok (.aload_n 0, 1) := by decide +kernel
theorem dX10_count_64 : decode cX10_count 64 = .ok (.invokevirtual 89, 3) := by decide +kernel
theorem dX10_count_67 : decode cX10_count 67 = .ok (.ireturn, 1) := by decide +kernel
theorem dX10_count_68 : decode cX10_count 68 = .ok (.aload_n 0, 1) := by decide +kernel
theorem dX10_count_69 : decode cX10_count 69 = .ok (.getfield 9, 3) := by decide +kernel
theorem dX10_count_72 : decode cX10_count 72 = .ok (.iconst 1, 1) := by decide +kernel
theorem dX10_count_73 : decode cX10_count 73 = .ok (.iaload, 1) := by decide +kernel
theorem dX10_count_74 : decode cX10_count 74 = .ok (.ireturn, 1) := by decide +kernel
theorem dX10_count_75 : decode cX10_count 75 = .ok (.aload_n 0, 1) := by decide +kernel
theorem dX10_count_76 : decode cX10_count 76 = .ok (.getfield 9, 3) := by decide +kernel
theorem dX10_count_79 : decode cX10_count 79 = .ok (.iconst 2, 1) := by decide +kernel
theorem dX10_count_80 : decode cX10_count 80 = .ok (.iaload, 1) := by decide +kernel
theorem dX10_count_81 : decode cX10_count 81 = .ok (.ireturn, 1) := by decide +kernel
theorem dX10_count_82 : decode cX10_count 82 = .ok (.aload_n 0, 1) := by decide +kernel
theorem dX10_count_83 : decode cX10_count 83 = .ok (.getfield 9, 3) := by decide +kernel
theorem dX10_count_86 : decode cX10_count 86 = .ok (.iconst 3, 1) := by decide +kernel
theorem dX10_count_87 : decode cX10_count 87 = .ok (.iaload, 1) := by decide +kernel
theorem dX10_count_88 : decode cX10_count 88 = .ok (.ireturn, 1) := by decide +kernel
theorem dX10_count_89 : decode cX10_count 89 = .ok (.aload_n 0, 1) := by decide +kernel
theorem dX10_count_90 : decode cX10_count 90 = .ok (.getfield 9, 3) := by decide +kernel
theorem dX10_count_93 : decode cX10_count 93 = .ok (.iconst 4, 1) := by decide +kernel
theorem dX10_count_94 : decode cX10_count 94 = .ok (.iaload, 1) := by decide +kernel
theorem dX10_count_95 : decode cX10_count 95 = .ok (.ireturn, 1) := by decide +kernel
theorem dX10_count_96 : decode cX10_count 96 = .ok (.aload_n 0, 1) := by decide +kernel
theorem dX10_count_97 : decode cX10_count 97 = .ok (.getfield 97, 3) := by decide +kernel
theorem dX10_count_100 : decode cX10_count 100 = .ok (.ireturn, 1) := by decide +kernel
theorem dX10_count_101 : decode cX10_count 101 = .ok (.aload_n 0, 1) := by decide +kernel
theorem dX10_count_102 : decode cX10_count 102 = .ok (.getfield 9, 3) := by decide +kernel
theorem dX10_count_105 : decode cX10_count 105 = .ok (.bipush 6, 2) := by decide +kernel
theorem dX10_count_107 : decode cX10_count 107 = .ok (.iaload, 1) := by decide +kernel
theorem dX10_count_108 : decode cX10_count 108 = .ok (.ireturn, 1) := by decide +kernel
theorem dX10_count_109 : decode cX10_count 109 = .ok (.aload_n 0, 1) := by decide +kernel
theorem dX10_count_110 : decode cX10_count 110 = .ok (.getfield 9, 3) := by decide +kernel
theorem dX10_count_113 : decode cX10_count 113 = .ok (.bipush 7, 2) := by decide +kernel
theorem dX10_count_115 : decode cX10_count 115 = .ok (.iaload, 1) := by decide +kernel
theorem dX10_count_116 : decode cX10_count 116 = .ok (.ireturn, 1) := by decide +kernel
theorem dX10_count_117 : decode cX10_count 117 = .ok (.iconst 0, 1) := by decide +kernel
theorem dX10_count_118 : decode cX10_count 118 = .ok (.istore_n 3, 1) := by decide +kernel
theorem dX10_count_119 : decode cX10_count 119 = .ok (.iload_n 3, 1) := by decide +kernel
theorem dX10_count_120 : decode cX10_count 120 = .ok (.iconst 4, 1) := by decide +kernel
theorem dX10_count_121 : decode cX10_count 121 = .ok (.if_icmp .ge 27, 3) := by decide +kernel
theorem dX10_count_124 : decode cX10_count 124 = .ok (.iload_n 2, 1) := by decide +kernel
theorem dX10_count_125 : decode cX10_count 125 = .ok (.aload_n 0, 1) := by decide +kernel
theorem dX10_count_126 : decode cX10_count 126 = .ok (.getfield 67, 3) := by decide +kernel
theorem dX10_count_129 : decode cX10_count 129 = .ok (.iload_n 3, 1) := by decide +kernel
theorem dX10_count_130 : decode cX10_count 130 = .ok (.iaload, 1) := by decide +kernel
theorem dX10_count_131 : decode cX10_count 131 = .ok (.iconst (-1), 1) := by decide +kernel
theorem dX10_count_132 : decode cX10_count 132 = .ok (.if_icmp .ne 7, 3) := by decide +kernel
theorem dX10_count_135 : decode cX10_count 135 = .ok (.iconst 0, 1) := by decide +kernel
theorem dX10_count_136 : decode cX10_count 136 = .ok (.goto 4, 3) := by decide +kernel
theorem dX10_count_139 : decode cX10_count 139 = .ok (.iconst 1, 1) := by decide +kernel
theorem dX10_count_140 : decode cX10_count 140 = .ok (.iadd, 1) := by decide +kernel
theorem dX10_count_141 : decode cX10_count 141 = .ok (.istore_n 2, 1) := by decide +kernel
theorem dX10_count_142 : decode cX10_count 142 = .ok (.iinc 3 1, 3) := by decide +kernel
theorem dX10_count_145 : decode cX10_count 145 = .ok (.goto (-26), 3) := by decide +kernel
theorem dX10_count_148 : decode cX10_count 148 = .ok (.iload_n 2, 1) := by decide +kernel
theorem dX10_count_149 : decode cX10_count 149 = .ok (.ireturn, 1) := by decide +kernel
theorem dX10_count_150 : decode cX10_count 150 = .ok (.iconst (-1), 1) := by decide +kernel
theorem dX10_count_151 : decode cX10_count 151 = .ok (.ireturn, 1) := by decide +kernel
theorem dX10_isSlot_0 : decode cX10_isSlot 0 = .ok (.iload_n 0, 1) := by decide +kernel
theorem dX10_isSlot_1 : decode cX10_isSlot 1 = .ok (.i2l, 1) := by decide +kernel
theorem dX10_isSlot_2 : decode cX10_isSlot 2 = .ok (.lconst 0, 1) := by decide +kernel
theorem dX10_isSlot_3 : decode cX10_isSlot 3 = .ok (.ldc2_w 320, 3) := by decide +kernel
theorem dX10_isSlot_6 : decode cX10_isSlot 6 = .ok (.invokestatic 85, 3) := by decide +kernel
theorem dX10_isSlot_9 : decode cX10_isSlot 9 = .ok (.ireturn, 1) := by decide +kernel
theorem dX10_cut_0 : decode cX10_cut 0 = .ok (.bipush 64, 2) := by decide +kernel
theorem dX10_cut_2 : decode cX10_cut 2 = .ok (.bipush 8, 2) := by decide +kernel
theorem dX10_cut_4 : decode cX10_cut 4 = .ok (.iload_n 2, 1) := by decide +kernel
theorem dX10_cut_5 : decode cX10_cut 5 = .ok (.ishl, 1) := by decide +kernel
theorem dX10_cut_6 : decode cX10_cut 6 = .ok (.isub, 1) := by decide +kernel
theorem dX10_cut_7 : decode cX10_cut 7 = .ok (.istore_n 3, 1) := by decide +kernel
theorem dX10_cut_8 : decode cX10_cut 8 = .ok (.lload_n 0, 1) := by decide +kernel
theorem dX10_cut_9 : decode cX10_cut 9 = .ok (.iload_n 3, 1) := by decide +kernel
theorem dX10_cut_10 : decode cX10_cut 10 = .ok (.lshl, 1) := by decide +kernel
theorem dX10_cut_11 : decode cX10_cut 11 = .ok (.iload_n 3, 1) := by decide +kernel
theorem dX10_cut_12 : decode cX10_cut 12 = .ok (.lshr, 1) := by decide +kernel
theorem dX10_cut_13 : decode cX10_cut 13 = .ok (.lreturn, 1) := by decide +kernel
theorem dX10_row_0 : decode cX10_row 0 = .ok (.iload_n 1, 1) := by decide +kernel
theorem dX10_row_1 : decode cX10_row 1 = .ok (.invokestatic 383, 3) := by decide +kernel
theorem dX10_row_4 : decode cX10_row 4 = .ok (.ifCond .eq 21, 3) := by decide +kernel
theorem dX10_row_7 : decode cX10_row 7 = .ok (.iload_n 2, 1) := by decide +kernel
theorem dX10_row_8 : decode cX10_row 8 = .ok (.i2l, 1) := by decide +kernel
theorem dX10_row_9 : decode cX10_row 9 = .ok (.lconst 0, 1) := by decide +kernel
theorem dX10_row_10 : decode cX10_row 10 = .ok (.ldc2_w 320, 3) := by decide +kernel
theorem dX10_row_13 : decode cX10_row 13 = .ok (.invokestatic 85, 3) := by decide +kernel
theorem dX10_row_16 : decode cX10_row 16 = .ok (.ifCond .eq 9, 3) := by decide +kernel
theorem dX10_row_19 : decode cX10_row 19 = .ok (.iload_n 3, 1) := by decide +kernel
theorem dX10_row_20 : decode cX10_row 20 = .ok (.bipush 60, 2) := by decide +kernel
theorem dX10_row_22 : decode cX10_row 22 = .ok (.if_icmp .le 6, 3) := by decide +kernel
theorem dX10_row_25 : decode cX10_row 25 = .ok (.bipush (-2), 2) := by decide +kernel
theorem dX10_row_27 : decode cX10_row 27 = .ok (.ireturn, 1) := by decide +kernel
theorem dX10_row_28 : decode cX10_row 28 = .ok (.iload_n 3, 1) := by decide +kernel
theorem dX10_row_29 : decode cX10_row 29 = .ok (.ifCond .ge 6, 3) := by decide +kernel
theorem dX10_row_32 : decode cX10_row 32 = .ok (.bipush (-3), 2) := by decide +kernel
theorem dX10_row_34 : decode cX10_row 34 = .ok (.ireturn, 1) := by decide +kernel
theorem dX10_row_35 : decode cX10_row 35 = .ok (.aload_n 0, 1) := by decide +kernel
theorem dX10_row_36 : decode cX10_row 36 = .ok (.getfield 67, 3) := by decide +kernel
theorem dX10_row_39 : decode cX10_row 39 = .ok (.iload_n 1, 1) := by decide +kernel
theorem dX10_row_40 : decode cX10_row 40 = .ok (.iload_n 3, 1) := by decide +kernel
theorem dX10_row_41 : decode cX10_row 41 = .ok (.iastore, 1) := by decide +kernel
theorem dX10_row_42 : decode cX10_row 42 = .ok (.aload_n 0, 1) := by decide +kernel
theorem dX10_row_43 : decode cX10_row 43 = .ok (.getfield 70, 3) := by decide +kernel
theorem dX10_row_46 : decode cX10_row 46 = .ok (.iload_n 1, 1) := by decide +kernel
theorem dX10_row_47 : decode cX10_row 47 = .ok (.iload_n 2, 1) := by decide +kernel
theorem dX10_row_48 : decode cX10_row 48 = .ok (.iastore, 1) := by decide +kernel
theorem dX10_row_49 : decode cX10_row 49 = .ok (.iconst 0, 1) := by decide +kernel
theorem dX10_row_50 : decode cX10_row 50 = .ok (.istore 4, 2) := by decide +kernel
theorem dX10_row_52 : decode cX10_row 52 = .ok (.iload 4, 2) := by decide +kernel
theorem dX10_row_54 : decode cX10_row 54 = .ok (.bipush 60, 2) := by decide +kernel
theorem dX10_row_56 : decode cX10_row 56 = .ok (.if_icmp .ge 22, 3) := by decide +kernel
theorem dX10_row_59 : decode cX10_row 59 = .ok (.aload_n 0, 1) := by decide +kernel
theorem dX10_row_60 : decode cX10_row 60 = .ok (.getfield 73, 3) := by decide +kernel
theorem dX10_row_63 : decode cX10_row 63 = .ok (.bipush 60, 2) := by decide +kernel
theorem dX10_row_65 : decode cX10_row 65 = .ok (.iload_n 1, 1) := by decide +kernel
theorem dX10_row_66 : decode cX10_row 66 = .ok (.imul, 1) := by decide +kernel
theorem dX10_row_67 : decode cX10_row 67 = .ok (.iload 4, 2) := by decide +kernel
theorem dX10_row_69 : decode cX10_row 69 = .ok (.iadd, 1) := by decide +kernel
theorem dX10_row_70 : decode cX10_row 70 = .ok (.lconst 0, 1) := by decide +kernel
theorem dX10_row_71 : decode cX10_row 71 = .ok (.lastore, 1) := by decide +kernel
theorem dX10_row_72 : decode cX10_row 72 = .ok (.iinc 4 1, 3) := by decide +kernel
theorem dX10_row_75 : decode cX10_row 75 = .ok (.goto (-23), 3) := by decide +kernel
theorem dX10_row_78 : decode cX10_row 78 = .ok (.iconst 0, 1) := by decide +kernel
theorem dX10_row_79 : decode cX10_row 79 = .ok (.ireturn, 1) := by decide +kernel
theorem dX10_write_0 : decode cX10_write 0 = .ok (.iload_n 1, 1) := by decide +kernel
theorem dX10_write_1 : decode cX10_write 1 = .ok (.invokestatic 383, 3) := by decide +kernel
theorem dX10_write_4 : decode cX10_write 4 = .ok (.ifCond .ne 6, 3) := by decide +kernel
theorem dX10_write_7 : decode cX10_write 7 = .ok (.bipush (-2), 2) := by decide +kernel
theorem dX10_write_9 : decode cX10_write 9 = .ok (.ireturn, 1) := by decide +kernel
theorem dX10_write_10 : decode cX10_write 10 = .ok (.aload_n 0, 1) := by decide +kernel
theorem dX10_write_11 : decode cX10_write 11 = .ok (.getfield 67, 3) := by decide +kernel
theorem dX10_write_14 : decode cX10_write 14 = .ok (.iload_n 1, 1) := by decide +kernel
theorem dX10_write_15 : decode cX10_write 15 = .ok (.iaload, 1) := by decide +kernel
theorem dX10_write_16 : decode cX10_write 16 = .ok (.iconst (-1), 1) := by decide +kernel
theorem dX10_write_17 : decode cX10_write 17 = .ok (.if_icmp .ne 6, 3) := by decide +kernel
theorem dX10_write_20 : decode cX10_write 20 = .ok (.bipush (-6), 2) := by decide +kernel
theorem dX10_write_22 : decode cX10_write 22 = .ok (.ireturn, 1) := by decide +kernel
theorem dX10_write_23 : decode cX10_write 23 = .ok (.iload_n 2, 1) := by decide +kernel
theorem dX10_write_24 : decode cX10_write 24 = .ok (.i2l, 1) := by decide +kernel
theorem dX10_write_25 : decode cX10_write 25 = .ok (.lconst 0, 1) := by decide +kernel
theorem dX10_write_26 : decode cX10_write 26 = .ok (.aload_n 0, 1) := by decide +kernel
theorem dX10_write_27 : decode cX10_write 27 = .ok (.getfield 67, 3) := by decide +kernel
theorem dX10_write_30 : decode cX10_write 30 = .ok (.iload_n 1, 1) := by decide +kernel
theorem dX10_write_31 : decode cX10_write 31 = .ok (.iaload, 1) := by decide +kernel
theorem dX10_write_32 : decode cX10_write 32 = .ok (.iconst 1, 1) := by decide +kernel
theorem dX10_write_33 : decode cX10_write 33 = .ok (.isub, 1) := by decide +kernel
theorem dX10_write_34 : decode cX10_write 34 = .ok (.i2l, 1) := by decide +kernel
theorem dX10_write_35 : decode cX10_write 35 = .ok (.invokestatic 85, 3) := by decide +kernel
theorem dX10_write_38 : decode cX10_write 38 = .ok (.ifCond .ne 6, 3) := by decide +kernel
theorem dX10_write_41 : decode cX10_write 41 = .ok (.bipush (-7), 2) := by decide +kernel
theorem dX10_write_43 : decode cX10_write 43 = .ok (.ireturn, 1) := by decide +kernel
theorem dX10_write_44 : decode cX10_write 44 = .ok (.aload_n 0, 1) := by decide +kernel
theorem dX10_write_45 : decode cX10_write 45 = .ok (.getfield 73, 3) := by decide +kernel
theorem dX10_write_48 : decode cX10_write 48 = .ok (.bipush 60, 2) := by decide +kernel
theorem dX10_write_50 : decode cX10_write 50 = .ok (.iload_n 1, 1) := by decide +kernel
theorem dX10_write_51 : decode cX10_write 51 = .ok (.imul, 1) := by decide +kernel
theorem dX10_write_52 : decode cX10_write 52 = .ok (.iload_n 2, 1) := by decide +kernel
theorem dX10_write_53 : decode cX10_write 53 = .ok (.iadd, 1) := by decide +kernel
theorem dX10_write_54 : decode cX10_write 54 = .ok (.lload_n 3, 1) := by decide +kernel
theorem dX10_write_55 : decode cX10_write 55 = .ok (.aload_n 0, 1) := by decide +kernel
theorem dX10_write_56 : decode cX10_write 56 = .ok (.getfield 70, 3) := by decide +kernel
theorem dX10_write_59 : decode cX10_write 59 = .ok (.iload_n 1, 1) := by decide +kernel
theorem dX10_write_60 : decode cX10_write 60 = .ok (.iaload, 1) := by decide +kernel
theorem dX10_write_61 : decode cX10_write 61 = .ok (.invokestatic 474, 3) := by decide +kernel
theorem dX10_write_64 : decode cX10_write 64 = .ok (.lastore, 1) := by decide +kernel
theorem dX10_write_65 : decode cX10_write 65 = .ok (.iconst 0, 1) := by decide +kernel
theorem dX10_write_66 : decode cX10_write 66 = .ok (.ireturn, 1) := by decide +kernel
theorem dX10_paste_0 : decode cX10_paste 0 = .ok (.iload_n 1, 1) := by decide +kernel
theorem dX10_paste_1 : decode cX10_paste 1 = .ok (.invokestatic 383, 3) := by decide +kernel
theorem dX10_paste_4 : decode cX10_paste 4 = .ok (.ifCond .eq 10, 3) := by decide +kernel
theorem dX10_paste_7 : decode cX10_paste 7 = .ok (.iload_n 3, 1) := by decide +kernel
theorem dX10_paste_8 : decode cX10_paste 8 = .ok (.invokestatic 383, 3) := by decide +kernel
theorem dX10_paste_11 : decode cX10_paste 11 = .ok (.ifCond .ne 6, 3) := by decide +kernel
theorem dX10_paste_14 : decode cX10_paste 14 = .ok (.bipush (-2), 2) := by decide +kernel
theorem dX10_paste_16 : decode cX10_paste 16 = .ok (.ireturn, 1) := by decide +kernel
theorem dX10_paste_17 : decode cX10_paste 17 = .ok (.aload_n 0, 1) := by decide +kernel
theorem dX10_paste_18 : decode cX10_paste 18 = .ok (.getfield 67, 3) := by decide +kernel
theorem dX10_paste_21 : decode cX10_paste 21 = .ok (.iload_n 1, 1) := by decide +kernel
theorem dX10_paste_22 : decode cX10_paste 22 = .ok (.iaload, 1) := by decide +kernel
theorem dX10_paste_23 : decode cX10_paste 23 = .ok (.iconst (-1), 1) := by decide +kernel
theorem dX10_paste_24 : decode cX10_paste 24 = .ok (.if_icmp .eq 13, 3) := by decide +kernel
theorem dX10_paste_27 : decode cX10_paste 27 = .ok (.aload_n 0, 1) := by decide +kernel
theorem dX10_paste_28 : decode cX10_paste 28 = .ok (.getfield 67, 3) := by decide +kernel
theorem dX10_paste_31 : decode cX10_paste 31 = .ok (.iload_n 3, 1) := by decide +kernel
theorem dX10_paste_32 : decode cX10_paste 32 = .ok (.iaload, 1) := by decide +kernel
theorem dX10_paste_33 : decode cX10_paste 33 = .ok (.iconst (-1), 1) := by decide +kernel
theorem dX10_paste_34 : decode cX10_paste 34 = .ok (.if_icmp .ne 6, 3) := by decide +kernel
theorem dX10_paste_37 : decode cX10_paste 37 = .ok (.bipush (-6), 2) := by decide +kernel
theorem dX10_paste_39 : decode cX10_paste 39 = .ok (.ireturn, 1) := by decide +kernel
theorem dX10_paste_40 : decode cX10_paste 40 = .ok (.aload_n 0, 1) := by decide +kernel
theorem dX10_paste_41 : decode cX10_paste 41 = .ok (.getfield 70, 3) := by decide +kernel
theorem dX10_paste_44 : decode cX10_paste 44 = .ok (.iload_n 1, 1) := by decide +kernel
theorem dX10_paste_45 : decode cX10_paste 45 = .ok (.iaload, 1) := by decide +kernel
theorem dX10_paste_46 : decode cX10_paste 46 = .ok (.aload_n 0, 1) := by decide +kernel
theorem dX10_paste_47 : decode cX10_paste 47 = .ok (.getfield 70, 3) := by decide +kernel
theorem dX10_paste_50 : decode cX10_paste 50 = .ok (.iload_n 3, 1) := by decide +kernel
theorem dX10_paste_51 : decode cX10_paste 51 = .ok (.iaload, 1) := by decide +kernel
theorem dX10_paste_52 : decode cX10_paste 52 = .ok (.if_icmp .eq 6, 3) := by decide +kernel
theorem dX10_paste_55 : decode cX10_paste 55 = .ok (.bipush (-8), 2) := by decide +kernel
theorem dX10_paste_57 : decode cX10_paste 57 = .ok (.ireturn, 1) := by decide +kernel
theorem dX10_paste_58 : decode cX10_paste 58 = .ok (.iload_n 2, 1) := by decide +kernel
theorem dX10_paste_59 : decode cX10_paste 59 = .ok (.ifCond .lt 48, 3) := by decide +kernel
theorem dX10_paste_62 : decode cX10_paste 62 = .ok (.iload 4, 2) := by decide +kernel
theorem dX10_paste_64 : decode cX10_paste 64 = .ok (.ifCond .lt 43, 3) := by decide +kernel
theorem dX10_paste_67 : decode cX10_paste 67 = .ok (.iload 5, 2) := by decide +kernel
theorem dX10_paste_69 : decode cX10_paste 69 = .ok (.ifCond .lt 38, 3) := by decide +kernel
theorem dX10_paste_72 : decode cX10_paste 72 = .ok (.iload_n 2, 1) := by decide +kernel
theorem dX10_paste_73 : decode cX10_paste 73 = .ok (.i2l, 1) := by decide +kernel
theorem dX10_paste_74 : decode cX10_paste 74 = .ok (.iload 5, 2) := by decide +kernel
theorem dX10_paste_76 : decode cX10_paste 76 = .ok (.i2l, 1) := by decide +kernel
theorem dX10_paste_77 : decode cX10_paste 77 = .ok (.ladd, 1) := by decide +kernel
theorem dX10_paste_78 : decode cX10_paste 78 = .ok (.aload_n 0, 1) := by decide +kernel
theorem dX10_paste_79 : decode cX10_paste 79 = .ok (.getfield 67, 3) := by decide +kernel
theorem dX10_paste_82 : decode cX10_paste 82 = .ok (.iload_n 1, 1) := by decide +kernel
theorem dX10_paste_83 : decode cX10_paste 83 = .ok (.iaload, 1) := by decide +kernel
theorem dX10_paste_84 : decode cX10_paste 84 = .ok (.i2l, 1) := by decide +kernel
theorem dX10_paste_85 : decode cX10_paste 85 = .ok (.lcmp, 1) := by decide +kernel
theorem dX10_paste_86 : decode cX10_paste 86 = .ok (.ifCond .gt 21, 3) := by decide +kernel
theorem dX10_paste_89 : decode cX10_paste 89 = .ok (.iload 4, 2) := by decide +kernel
theorem dX10_paste_91 : decode cX10_paste 91 = .ok (.i2l, 1) := by decide +kernel
theorem dX10_paste_92 : decode cX10_paste 92 = .ok (.iload 5, 2) := by decide +kernel
theorem dX10_paste_94 : decode cX10_paste 94 = .ok (.i2l, 1) := by decide +kernel
theorem dX10_paste_95 : decode cX10_paste 95 = .ok (.ladd, 1) := by decide +kernel
theorem dX10_paste_96 : decode cX10_paste 96 = .ok (.aload_n 0, 1) := by decide +kernel
theorem dX10_paste_97 : decode cX10_paste 97 = .ok (.getfield 67, 3) := by decide +kernel
theorem dX10_paste_100 : decode cX10_paste 100 = .ok (.iload_n 3, 1) := by decide +kernel
theorem dX10_paste_101 : decode cX10_paste 101 = .ok (.iaload, 1) := by decide +kernel
theorem dX10_paste_102 : decode cX10_paste 102 = .ok (.i2l, 1) := by decide +kernel
theorem dX10_paste_103 : decode cX10_paste 103 = .ok (.lcmp, 1) := by decide +kernel
theorem dX10_paste_104 : decode cX10_paste 104 = .ok (.ifCond .le 6, 3) := by decide +kernel
theorem dX10_paste_107 : decode cX10_paste 107 = .ok (.bipush (-7), 2) := by decide +kernel
theorem dX10_paste_109 : decode cX10_paste 109 = .ok (.ireturn, 1) := by decide +kernel
theorem dX10_paste_110 : decode cX10_paste 110 = .ok (.iconst 0, 1) := by decide +kernel
theorem dX10_paste_111 : decode cX10_paste 111 = .ok (.istore 6, 2) := by decide +kernel
theorem dX10_paste_113 : decode cX10_paste 113 = .ok (.iload 6, 2) := by decide +kernel
theorem dX10_paste_115 : decode cX10_paste 115 = .ok (.iload 5, 2) := by decide +kernel
theorem dX10_paste_117 : decode cX10_paste 117 = .ok (.if_icmp .ge 30, 3) := by decide +kernel
theorem dX10_paste_120 : decode cX10_paste 120 = .ok (.aload_n 0, 1) := by decide +kernel
theorem dX10_paste_121 : decode cX10_paste 121 = .ok (.getfield 77, 3) := by decide +kernel
theorem dX10_paste_124 : decode cX10_paste 124 = .ok (.iload 6, 2) := by decide +kernel
theorem dX10_paste_126 : decode cX10_paste 126 = .ok (.aload_n 0, 1) := by decide +kernel
theorem dX10_paste_127 : decode cX10_paste 127 = .ok (.getfield 73, 3) := by decide +kernel
theorem dX10_paste_130 : decode cX10_paste 130 = .ok (.bipush 60, 2) := by decide +kernel
theorem dX10_paste_132 : decode cX10_paste 132 = .ok (.iload_n 1, 1) := by decide +kernel
theorem dX10_paste_133 : decode cX10_paste 133 = .ok (.imul, 1) := by decide +kernel
theorem dX10_paste_134 : decode cX10_paste 134 = .ok (.iload_n 2, 1) := by decide +kernel
theorem dX10_paste_135 : decode cX10_paste 135 = .ok (.iadd, 1) := by decide +kernel
theorem dX10_paste_136 : decode cX10_paste 136 = .ok (.iload 6, 2) := by decide +kernel
theorem dX10_paste_138 : decode cX10_paste 138 = .ok (.iadd, 1) := by decide +kernel
theorem dX10_paste_139 : decode cX10_paste 139 = .ok (.laload, 1) := by decide +kernel
theorem dX10_paste_140 : decode cX10_paste 140 = .ok (.lastore, 1) := by decide +kernel
theorem dX10_paste_141 : decode cX10_paste 141 = .ok (.iinc 6 1, 3) := by decide +kernel
theorem dX10_paste_144 : decode cX10_paste 144 = .ok (.goto (-31), 3) := by decide +kernel
theorem dX10_paste_147 : decode cX10_paste 147 = .ok (.iconst 0, 1) := by decide +kernel
theorem dX10_paste_148 : decode cX10_paste 148 = .ok (.istore 6, 2) := by decide +kernel
theorem dX10_paste_150 : decode cX10_paste 150 = .ok (.iload 6, 2) := by decide +kernel
theorem dX10_paste_152 : decode cX10_paste 152 = .ok (.iload 5, 2) := by decide +kernel
theorem dX10_paste_154 : decode cX10_paste 154 = .ok (.if_icmp .ge 31, 3) := by decide +kernel
theorem dX10_paste_157 : decode cX10_paste 157 = .ok (.aload_n 0, 1) := by decide +kernel
theorem dX10_paste_158 : decode cX10_paste 158 = .ok (.getfield 73, 3) := by decide +kernel
theorem dX10_paste_161 : decode cX10_paste 161 = .ok (.bipush 60, 2) := by decide +kernel
theorem dX10_paste_163 : decode cX10_paste 163 = .ok (.iload_n 3, 1) := by decide +kernel
theorem dX10_paste_164 : decode cX10_paste 164 = .ok (.imul, 1) := by decide +kernel
theorem dX10_paste_165 : decode cX10_paste 165 = .ok (.iload 4, 2) := by decide +kernel
theorem dX10_paste_167 : decode cX10_paste 167 = .ok (.iadd, 1) := by decide +kernel
theorem dX10_paste_168 : decode cX10_paste 168 = .ok (.iload 6, 2) := by decide +kernel
theorem dX10_paste_170 : decode cX10_paste 170 = .ok (.iadd, 1) := by decide +kernel
theorem dX10_paste_171 : decode cX10_paste 171 = .ok (.aload_n 0, 1) := by decide +kernel
theorem dX10_paste_172 : decode cX10_paste 172 = .ok (.getfield 77, 3) := by decide +kernel
theorem dX10_paste_175 : decode cX10_paste 175 = .ok (.iload 6, 2) := by decide +kernel
theorem dX10_paste_177 : decode cX10_paste 177 = .ok (.laload, 1) := by decide +kernel
theorem dX10_paste_178 : decode cX10_paste 178 = .ok (.lastore, 1) := by decide +kernel
theorem dX10_paste_179 : decode cX10_paste 179 = .ok (.iinc 6 1, 3) := by decide +kernel
theorem dX10_paste_182 : decode cX10_paste 182 = .ok (.goto (-32), 3) := by decide +kernel
theorem dX10_paste_185 : decode cX10_paste 185 = .ok (.iconst 0, 1) := by decide +kernel
theorem dX10_paste_186 : decode cX10_paste 186 = .ok (.ireturn, 1) := by decide +kernel
theorem dJ6_bitCount_0f7a4_0 : decode cJ6_bitCount_0f7a4 0 = .ok (.iload_n 0, 1) := by decide +kernel
theorem dJ6_bitCount_0f7a4_1 : decode cJ6_bitCount_0f7a4 1 = .ok (.iload_n 0, 1) := by decide +kernel
theorem dJ6_bitCount_0f7a4_2 : decode cJ6_bitCount_0f7a4 2 = .ok (.iconst 1, 1) := by decide +kernel
theorem dJ6_bitCount_0f7a4_3 : decode cJ6_bitCount_0f7a4 3 = .ok (.iushr, 1) := by decide +kernel
theorem dJ6_bitCount_0f7a4_4 : decode cJ6_bitCount_0f7a4 4 = .ok (.ldc_w 265, 3) := by decide +kernel
theorem dJ6_bitCount_0f7a4_7 : decode cJ6_bitCount_0f7a4 7 = .ok (.iand, 1) := by decide +kernel
theorem dJ6_bitCount_0f7a4_8 : decode cJ6_bitCount_0f7a4 8 = .ok (.isub, 1) := by decide +kernel
theorem dJ6_bitCount_0f7a4_9 : decode cJ6_bitCount_0f7a4 9 = .ok (.istore_n 0, 1) := by decide +kernel
theorem dJ6_bitCount_0f7a4_10 : decode cJ6_bitCount_0f7a4 10 = .ok (.iload_n 0, 1) := by decide +kernel
theorem dJ6_bitCount_0f7a4_11 : decode cJ6_bitCount_0f7a4 11 = .ok (.ldc_w 266, 3) := by decide +kernel
theorem dJ6_bitCount_0f7a4_14 : decode cJ6_bitCount_0f7a4 14 = .ok (.iand, 1) := by decide +kernel
theorem dJ6_bitCount_0f7a4_15 : decode cJ6_bitCount_0f7a4 15 = .ok (.iload_n 0, 1) := by decide +kernel
theorem dJ6_bitCount_0f7a4_16 : decode cJ6_bitCount_0f7a4 16 = .ok (.iconst 2, 1) := by decide +kernel
theorem dJ6_bitCount_0f7a4_17 : decode cJ6_bitCount_0f7a4 17 = .ok (.iushr, 1) := by decide +kernel
theorem dJ6_bitCount_0f7a4_18 : decode cJ6_bitCount_0f7a4 18 = .ok (.ldc_w 266, 3) := by decide +kernel
theorem dJ6_bitCount_0f7a4_21 : decode cJ6_bitCount_0f7a4 21 = .ok (.iand, 1) := by decide +kernel
theorem dJ6_bitCount_0f7a4_22 : decode cJ6_bitCount_0f7a4 22 = .ok (.iadd, 1) := by decide +kernel
theorem dJ6_bitCount_0f7a4_23 : decode cJ6_bitCount_0f7a4 23 = .ok (.istore_n 0, 1) := by decide +kernel
theorem dJ6_bitCount_0f7a4_24 : decode cJ6_bitCount_0f7a4 24 = .ok (.iload_n 0, 1) := by decide +kernel
theorem dJ6_bitCount_0f7a4_25 : decode cJ6_bitCount_0f7a4 25 = .ok (.iload_n 0, 1) := by decide +kernel
theorem dJ6_bitCount_0f7a4_26 : decode cJ6_bitCount_0f7a4 26 = .ok (.iconst 4, 1) := by decide +kernel
theorem dJ6_bitCount_0f7a4_27 : decode cJ6_bitCount_0f7a4 27 = .ok (.iushr, 1) := by decide +kernel
theorem dJ6_bitCount_0f7a4_28 : decode cJ6_bitCount_0f7a4 28 = .ok (.iadd, 1) := by decide +kernel
theorem dJ6_bitCount_0f7a4_29 : decode cJ6_bitCount_0f7a4 29 = .ok (.ldc_w 267, 3) := by decide +kernel
theorem dJ6_bitCount_0f7a4_32 : decode cJ6_bitCount_0f7a4 32 = .ok (.iand, 1) := by decide +kernel
theorem dJ6_bitCount_0f7a4_33 : decode cJ6_bitCount_0f7a4 33 = .ok (.istore_n 0, 1) := by decide +kernel
theorem dJ6_bitCount_0f7a4_34 : decode cJ6_bitCount_0f7a4 34 = .ok (.iload_n 0, 1) := by decide +kernel
theorem dJ6_bitCount_0f7a4_35 : decode cJ6_bitCount_0f7a4 35 = .ok (.iload_n 0, 1) := by decide +kernel
theorem dJ6_bitCount_0f7a4_36 : decode cJ6_bitCount_0f7a4 36 = .ok (.bipush 8, 2) := by decide +kernel
theorem dJ6_bitCount_0f7a4_38 : decode cJ6_bitCount_0f7a4 38 = .ok (.iushr, 1) := by decide +kernel
theorem dJ6_bitCount_0f7a4_39 : decode cJ6_bitCount_0f7a4 39 = .ok (.iadd, 1) := by decide +kernel
theorem dJ6_bitCount_0f7a4_40 : decode cJ6_bitCount_0f7a4 40 = .ok (.istore_n 0, 1) := by decide +kernel
theorem dJ6_bitCount_0f7a4_41 : decode cJ6_bitCount_0f7a4 41 = .ok (.iload_n 0, 1) := by decide +kernel
theorem dJ6_bitCount_0f7a4_42 : decode cJ6_bitCount_0f7a4 42 = .ok (.iload_n 0, 1) := by decide +kernel
theorem dJ6_bitCount_0f7a4_43 : decode cJ6_bitCount_0f7a4 43 = .ok (.bipush 16, 2) := by decide +kernel
theorem dJ6_bitCount_0f7a4_45 : decode cJ6_bitCount_0f7a4 45 = .ok (.iushr, 1) := by decide +kernel
theorem dJ6_bitCount_0f7a4_46 : decode cJ6_bitCount_0f7a4 46 = .ok (.iadd, 1) := by decide +kernel
theorem dJ6_bitCount_0f7a4_47 : decode cJ6_bitCount_0f7a4 47 = .ok (.istore_n 0, 1) := by decide +kernel
theorem dJ6_bitCount_0f7a4_48 : decode cJ6_bitCount_0f7a4 48 = .ok (.iload_n 0, 1) := by decide +kernel
theorem dJ6_bitCount_0f7a4_49 : decode cJ6_bitCount_0f7a4 49 = .ok (.bipush 63, 2) := by decide +kernel
theorem dJ6_bitCount_0f7a4_51 : decode cJ6_bitCount_0f7a4 51 = .ok (.iand, 1) := by decide +kernel
theorem dJ6_bitCount_0f7a4_52 : decode cJ6_bitCount_0f7a4 52 = .ok (.ireturn, 1) := by decide +kernel
theorem dJ9_abs_067f4_0 : decode cJ9_abs_067f4 0 = .ok (.lload_n 0, 1) := by decide +kernel
theorem dJ9_abs_067f4_1 : decode cJ9_abs_067f4 1 = .ok (.lconst 0, 1) := by decide +kernel
theorem dJ9_abs_067f4_2 : decode cJ9_abs_067f4 2 = .ok (.lcmp, 1) := by decide +kernel
theorem dJ9_abs_067f4_3 : decode cJ9_abs_067f4 3 = .ok (.ifCond .ge 8, 3) := by decide +kernel
theorem dJ9_abs_067f4_6 : decode cJ9_abs_067f4 6 = .ok (.lload_n 0, 1) := by decide +kernel
theorem dJ9_abs_067f4_7 : decode cJ9_abs_067f4 7 = .ok (.lneg, 1) := by decide +kernel
theorem dJ9_abs_067f4_8 : decode cJ9_abs_067f4 8 = .ok (.goto 4, 3) := by decide +kernel
theorem dJ9_abs_067f4_11 : decode cJ9_abs_067f4 11 = .ok (.lload_n 0, 1) := by decide +kernel
theorem dJ9_abs_067f4_12 : decode cJ9_abs_067f4 12 = .ok (.lreturn, 1) := by decide +kernel
theorem dJ9_max_7cf53_0 : decode cJ9_max_7cf53 0 = .ok (.iload_n 0, 1) := by decide +kernel
theorem dJ9_max_7cf53_1 : decode cJ9_max_7cf53 1 = .ok (.iload_n 1, 1) := by decide +kernel
theorem dJ9_max_7cf53_2 : decode cJ9_max_7cf53 2 = .ok (.if_icmp .lt 7, 3) := by decide +kernel
theorem dJ9_max_7cf53_5 : decode cJ9_max_7cf53 5 = .ok (.iload_n 0, 1) := by decide +kernel
theorem dJ9_max_7cf53_6 : decode cJ9_max_7cf53 6 = .ok (.goto 4, 3) := by decide +kernel
theorem dJ9_max_7cf53_9 : decode cJ9_max_7cf53 9 = .ok (.iload_n 1, 1) := by decide +kernel
theorem dJ9_max_7cf53_10 : decode cJ9_max_7cf53 10 = .ok (.ireturn, 1) := by decide +kernel
theorem dJ9_max_f86c9_0 : decode cJ9_max_f86c9 0 = .ok (.lload_n 0, 1) := by decide +kernel
theorem dJ9_max_f86c9_1 : decode cJ9_max_f86c9 1 = .ok (.lload_n 2, 1) := by decide +kernel
theorem dJ9_max_f86c9_2 : decode cJ9_max_f86c9 2 = .ok (.lcmp, 1) := by decide +kernel
theorem dJ9_max_f86c9_3 : decode cJ9_max_f86c9 3 = .ok (.ifCond .lt 7, 3) := by decide +kernel
theorem dJ9_max_f86c9_6 : decode cJ9_max_f86c9 6 = .ok (.lload_n 0, 1) := by decide +kernel
theorem dJ9_max_f86c9_7 : decode cJ9_max_f86c9 7 = .ok (.goto 4, 3) := by decide +kernel
theorem dJ9_max_f86c9_10 : decode cJ9_max_f86c9 10 = .ok (.lload_n 2, 1) := by decide +kernel
theorem dJ9_max_f86c9_11 : decode cJ9_max_f86c9 11 = .ok (.lreturn, 1) := by decide +kernel
theorem dJ9_min_7cf53_0 : decode cJ9_min_7cf53 0 = .ok (.iload_n 0, 1) := by decide +kernel
theorem dJ9_min_7cf53_1 : decode cJ9_min_7cf53 1 = .ok (.iload_n 1, 1) := by decide +kernel
theorem dJ9_min_7cf53_2 : decode cJ9_min_7cf53 2 = .ok (.if_icmp .gt 7, 3) := by decide +kernel
theorem dJ9_min_7cf53_5 : decode cJ9_min_7cf53 5 = .ok (.iload_n 0, 1) := by decide +kernel
theorem dJ9_min_7cf53_6 : decode cJ9_min_7cf53 6 = .ok (.goto 4, 3) := by decide +kernel
theorem dJ9_min_7cf53_9 : decode cJ9_min_7cf53 9 = .ok (.iload_n 1, 1) := by decide +kernel
theorem dJ9_min_7cf53_10 : decode cJ9_min_7cf53 10 = .ok (.ireturn, 1) := by decide +kernel
theorem dJ0_length_8abf5_0 : decode cJ0_length_8abf5 0 = .ok (.aload_n 0, 1) := by decide +kernel
theorem dJ0_length_8abf5_1 : decode cJ0_length_8abf5 1 = .ok (.getfield 9, 3) := by decide +kernel
theorem dJ0_length_8abf5_4 : decode cJ0_length_8abf5 4 = .ok (.arraylength, 1) := by decide +kernel
theorem dJ0_length_8abf5_5 : decode cJ0_length_8abf5 5 = .ok (.aload_n 0, 1) := by decide +kernel
theorem dJ0_length_8abf5_6 : decode cJ0_length_8abf5 6 = .ok (.invokevirtual 335, 3) := by decide +kernel
theorem dJ0_length_8abf5_9 : decode cJ0_length_8abf5 9 = .ok (.ishr, 1) := by decide +kernel
theorem dJ0_length_8abf5_10 : decode cJ0_length_8abf5 10 = .ok (.ireturn, 1) := by decide +kernel
theorem dJ0_charAt_5068e_0 : decode cJ0_charAt_5068e 0 = .ok (.aload_n 0, 1) := by decide +kernel
theorem dJ0_charAt_5068e_1 : decode cJ0_charAt_5068e 1 = .ok (.invokevirtual 492, 3) := by decide +kernel
theorem dJ0_charAt_5068e_4 : decode cJ0_charAt_5068e 4 = .ok (.ifCond .eq 12, 3) := by decide +kernel
theorem dJ0_charAt_5068e_7 : decode cJ0_charAt_5068e 7 = .ok (.aload_n 0, 1) := by decide +kernel
theorem dJ0_charAt_5068e_8 : decode cJ0_charAt_5068e 8 = .ok (.getfield 9, 3) := by decide +kernel
theorem dJ0_charAt_5068e_11 : decode cJ0_charAt_5068e 11 = .ok (.iload_n 1, 1) := by decide +kernel
theorem dJ0_charAt_5068e_12 : decode cJ0_charAt_5068e 12 = .ok (.invokestatic 495, 3) := by decide +kernel
theorem dJ0_charAt_5068e_15 : decode cJ0_charAt_5068e 15 = .ok (.ireturn, 1) := by decide +kernel
theorem dJ0_charAt_5068e_16 : decode cJ0_charAt_5068e 16 = .ok (.aload_n 0, 1) := by decide +kernel
theorem dJ0_charAt_5068e_17 : decode cJ0_charAt_5068e 17 = .ok (.getfield 9, 3) := by decide +kernel
theorem dJ0_charAt_5068e_20 : decode cJ0_charAt_5068e 20 = .ok (.iload_n 1, 1) := by decide +kernel
theorem dJ0_charAt_5068e_21 : decode cJ0_charAt_5068e 21 = .ok (.invokestatic 498, 3) := by decide +kernel
theorem dJ0_charAt_5068e_24 : decode cJ0_charAt_5068e 24 = .ok (.ireturn, 1) := by decide +kernel
theorem dJ0_coder_7d493_0 : decode cJ0_coder_7d493 0 = .ok (.getstatic 38, 3) := by decide +kernel
theorem dJ0_coder_7d493_3 : decode cJ0_coder_7d493 3 = .ok (.ifCond .eq 10, 3) := by decide +kernel
theorem dJ0_coder_7d493_6 : decode cJ0_coder_7d493 6 = .ok (.aload_n 0, 1) := by decide +kernel
theorem dJ0_coder_7d493_7 : decode cJ0_coder_7d493 7 = .ok (.getfield 15, 3) := by decide +kernel
theorem dJ0_coder_7d493_10 : decode cJ0_coder_7d493 10 = .ok (.goto 4, 3) := by decide +kernel
theorem dJ0_coder_7d493_13 : decode cJ0_coder_7d493 13 = .ok (.iconst 1, 1) := by decide +kernel
theorem dJ0_coder_7d493_14 : decode cJ0_coder_7d493 14 = .ok (.ireturn, 1) := by decide +kernel
theorem dJ0_isLatin1_aae02_0 : decode cJ0_isLatin1_aae02 0 = .ok (.getstatic 38, 3) := by decide +kernel
theorem dJ0_isLatin1_aae02_3 : decode cJ0_isLatin1_aae02 3 = .ok (.ifCond .eq 14, 3) := by decide +kernel
theorem dJ0_isLatin1_aae02_6 : decode cJ0_isLatin1_aae02 6 = .ok (.aload_n 0, 1) := by decide +kernel
theorem dJ0_isLatin1_aae02_7 : decode cJ0_isLatin1_aae02 7 = .ok (.getfield 15, 3) := by decide +kernel
theorem dJ0_isLatin1_aae02_10 : decode cJ0_isLatin1_aae02 10 = .ok (.ifCond .ne 7, 3) := by decide +kernel
theorem dJ0_isLatin1_aae02_13 : decode cJ0_isLatin1_aae02 13 = .ok (.iconst 1, 1) := by decide +kernel
theorem dJ0_isLatin1_aae02_14 : decode cJ0_isLatin1_aae02 14 = .ok (.goto 4, 3) := by decide +kernel
theorem dJ0_isLatin1_aae02_17 : decode cJ0_isLatin1_aae02 17 = .ok (.iconst 0, 1) := by decide +kernel
theorem dJ0_isLatin1_aae02_18 : decode cJ0_isLatin1_aae02 18 = .ok (.ireturn, 1) := by decide +kernel
theorem dJ0_checkIndex_df160_0 : decode cJ0_checkIndex_df160 0 = .ok (.iload_n 0, 1) := by decide +kernel
theorem dJ0_checkIndex_df160_1 : decode cJ0_checkIndex_df160 1 = .ok (.iload_n 1, 1) := by decide +kernel
theorem dJ0_checkIndex_df160_2 : decode cJ0_checkIndex_df160 2 = .ok (.getstatic 1053, 3) := by decide +kernel
theorem dJ0_checkIndex_df160_5 : decode cJ0_checkIndex_df160 5 = .ok (.invokestatic 1059, 3) := by decide +kernel
theorem dJ0_checkIndex_df160_8 : decode cJ0_checkIndex_df160 8 = .ok (.pop, 1) := by decide +kernel
theorem dJ0_checkIndex_df160_9 : decode cJ0_checkIndex_df160 9 = .ok (.return_, 1) := by decide +kernel
theorem dJ1_charAt_3b067_0 : decode cJ1_charAt_3b067 0 = .ok (.iload_n 1, 1) := by decide +kernel
theorem dJ1_charAt_3b067_1 : decode cJ1_charAt_3b067 1 = .ok (.aload_n 0, 1) := by decide +kernel
theorem dJ1_charAt_3b067_2 : decode cJ1_charAt_3b067 2 = .ok (.arraylength, 1) := by decide +kernel
theorem dJ1_charAt_3b067_3 : decode cJ1_charAt_3b067 3 = .ok (.invokestatic 9, 3) := by decide +kernel
theorem dJ1_charAt_3b067_6 : decode cJ1_charAt_3b067 6 = .ok (.aload_n 0, 1) := by decide +kernel
theorem dJ1_charAt_3b067_7 : decode cJ1_charAt_3b067 7 = .ok (.iload_n 1, 1) := by decide +kernel
theorem dJ1_charAt_3b067_8 : decode cJ1_charAt_3b067 8 = .ok (.baload, 1) := by decide +kernel
theorem dJ1_charAt_3b067_9 : decode cJ1_charAt_3b067 9 = .ok (.sipush 255, 3) := by decide +kernel
theorem dJ1_charAt_3b067_12 : decode cJ1_charAt_3b067 12 = .ok (.iand, 1) := by decide +kernel
theorem dJ1_charAt_3b067_13 : decode cJ1_charAt_3b067 13 = .ok (.i2c, 1) := by decide +kernel
theorem dJ1_charAt_3b067_14 : decode cJ1_charAt_3b067 14 = .ok (.ireturn, 1) := by decide +kernel
theorem dJ2_getChar_3b067_0 : decode cJ2_getChar_3b067 0 = .ok (.getstatic 44, 3) := by decide +kernel
theorem dJ2_getChar_3b067_3 : decode cJ2_getChar_3b067 3 = .ok (.ifCond .ne 25, 3) := by decide +kernel
theorem dJ2_getChar_3b067_6 : decode cJ2_getChar_3b067 6 = .ok (.iload_n 1, 1) := by decide +kernel
theorem dJ2_getChar_3b067_7 : decode cJ2_getChar_3b067 7 = .ok (.ifCond .lt 11, 3) := by decide +kernel
theorem dJ2_getChar_3b067_10 : decode cJ2_getChar_3b067 10 = .ok (.iload_n 1, 1) := by decide +kernel
theorem dJ2_getChar_3b067_11 : decode cJ2_getChar_3b067 11 = .ok (.aload_n 0, 1) := by decide +kernel
theorem dJ2_getChar_3b067_12 : decode cJ2_getChar_3b067 12 = .ok (.invokestatic 48, 3) := by decide +kernel
theorem dJ2_getChar_3b067_15 : decode cJ2_getChar_3b067 15 = .ok (.if_icmp .lt 13, 3) := by decide +kernel
theorem dJ2_getChar_3b067_18 : decode cJ2_getChar_3b067 18 = .ok (.new 52, 3) := by decide +kernel
theorem dJ2_getChar_3b067_21 : decode cJ2_getChar_3b067 21 = .ok (.dup, 1) := by decide +kernel
theorem dJ2_getChar_3b067_22 : decode cJ2_getChar_3b067 22 = .ok (.ldc 54, 2) := by decide +kernel
theorem dJ2_getChar_3b067_24 : decode cJ2_getChar_3b067 24 = .ok (.invokespecial 56, 3) := by decide +kernel
theorem dJ2_getChar_3b067_27 : decode cJ2_getChar_3b067 27 = .ok (.athrow, 1) := by decide +kernel
theorem dJ2_getChar_3b067_28 : decode cJ2_getChar_3b067 28 = .ok (.iload_n 1, 1) := by decide +kernel
theorem dJ2_getChar_3b067_29 : decode cJ2_getChar_3b067 29 = .ok (.iconst 1, 1) := by decide +kernel
theorem dJ2_getChar_3b067_30 : decode cJ2_getChar_3b067 30 = .ok (.ishl, 1) := by decide +kernel
theorem dJ2_getChar_3b067_31 : decode cJ2_getChar_3b067 31 = .ok (.istore_n 1, 1) := by decide +kernel
theorem dJ2_getChar_3b067_32 : decode cJ2_getChar_3b067 32 = .ok (.aload_n 0, 1) := by decide +kernel
theorem dJ2_getChar_3b067_33 : decode cJ2_getChar_3b067 33 = .ok (.iload_n 1, 1) := by decide +kernel
theorem dJ2_getChar_3b067_34 : decode cJ2_getChar_3b067 34 = .ok (.iinc 1 1, 3) := by decide +kernel
theorem dJ2_getChar_3b067_37 : decode cJ2_getChar_3b067 37 = .ok (.baload, 1) := by decide +kernel
theorem dJ2_getChar_3b067_38 : decode cJ2_getChar_3b067 38 = .ok (.sipush 255, 3) := by decide +kernel
theorem dJ2_getChar_3b067_41 : decode cJ2_getChar_3b067 41 = .ok (.iand, 1) := by decide +kernel
theorem dJ2_getChar_3b067_42 : decode cJ2_getChar_3b067 42 = .ok (.getstatic 59, 3) := by decide +kernel
theorem dJ2_getChar_3b067_45 : decode cJ2_getChar_3b067 45 = .ok (.ishl, 1) := by decide +kernel
theorem dJ2_getChar_3b067_46 : decode cJ2_getChar_3b067 46 = .ok (.aload_n 0, 1) := by decide +kernel
theorem dJ2_getChar_3b067_47 : decode cJ2_getChar_3b067 47 = .ok (.iload_n 1, 1) := by decide +kernel
theorem dJ2_getChar_3b067_48 : decode cJ2_getChar_3b067 48 = .ok (.baload, 1) := by decide +kernel
theorem dJ2_getChar_3b067_49 : decode cJ2_getChar_3b067 49 = .ok (.sipush 255, 3) := by decide +kernel
theorem dJ2_getChar_3b067_52 : decode cJ2_getChar_3b067 52 = .ok (.iand, 1) := by decide +kernel
theorem dJ2_getChar_3b067_53 : decode cJ2_getChar_3b067 53 = .ok (.getstatic 63, 3) := by decide +kernel
theorem dJ2_getChar_3b067_56 : decode cJ2_getChar_3b067 56 = .ok (.ishl, 1) := by decide +kernel
theorem dJ2_getChar_3b067_57 : decode cJ2_getChar_3b067 57 = .ok (.ior, 1) := by decide +kernel
theorem dJ2_getChar_3b067_58 : decode cJ2_getChar_3b067 58 = .ok (.i2c, 1) := by decide +kernel
theorem dJ2_getChar_3b067_59 : decode cJ2_getChar_3b067 59 = .ok (.ireturn, 1) := by decide +kernel
theorem dJ2_length_9d52b_0 : decode cJ2_length_9d52b 0 = .ok (.aload_n 0, 1) := by decide +kernel
theorem dJ2_length_9d52b_1 : decode cJ2_length_9d52b 1 = .ok (.arraylength, 1) := by decide +kernel
theorem dJ2_length_9d52b_2 : decode cJ2_length_9d52b 2 = .ok (.iconst 1, 1) := by decide +kernel
theorem dJ2_length_9d52b_3 : decode cJ2_length_9d52b 3 = .ok (.ishr, 1) := by decide +kernel
theorem dJ2_length_9d52b_4 : decode cJ2_length_9d52b 4 = .ok (.ireturn, 1) := by decide +kernel
theorem dJ2_charAt_3b067_0 : decode cJ2_charAt_3b067 0 = .ok (.iload_n 1, 1) := by decide +kernel
theorem dJ2_charAt_3b067_1 : decode cJ2_charAt_3b067 1 = .ok (.aload_n 0, 1) := by decide +kernel
theorem dJ2_charAt_3b067_2 : decode cJ2_charAt_3b067 2 = .ok (.invokestatic 67, 3) := by decide +kernel
theorem dJ2_charAt_3b067_5 : decode cJ2_charAt_3b067 5 = .ok (.aload_n 0, 1) := by decide +kernel
theorem dJ2_charAt_3b067_6 : decode cJ2_charAt_3b067 6 = .ok (.iload_n 1, 1) := by decide +kernel
theorem dJ2_charAt_3b067_7 : decode cJ2_charAt_3b067 7 = .ok (.invokestatic 71, 3) := by decide +kernel
theorem dJ2_charAt_3b067_10 : decode cJ2_charAt_3b067 10 = .ok (.ireturn, 1) := by decide +kernel
theorem dJ2_checkIndex_2214a_0 : decode cJ2_checkIndex_2214a 0 = .ok (.iload_n 0, 1) := by decide +kernel
theorem dJ2_checkIndex_2214a_1 : decode cJ2_checkIndex_2214a 1 = .ok (.aload_n 1, 1) := by decide +kernel
theorem dJ2_checkIndex_2214a_2 : decode cJ2_checkIndex_2214a 2 = .ok (.invokestatic 48, 3) := by decide +kernel
theorem dJ2_checkIndex_2214a_5 : decode cJ2_checkIndex_2214a 5 = .ok (.invokestatic 414, 3) := by decide +kernel
theorem dJ2_checkIndex_2214a_8 : decode cJ2_checkIndex_2214a 8 = .ok (.return_, 1) := by decide +kernel
theorem dJ7_fill_d0a16_0 : decode cJ7_fill_d0a16 0 = .ok (.iconst 0, 1) := by decide +kernel
theorem dJ7_fill_d0a16_1 : decode cJ7_fill_d0a16 1 = .ok (.istore_n 3, 1) := by decide +kernel
theorem dJ7_fill_d0a16_2 : decode cJ7_fill_d0a16 2 = .ok (.aload_n 0, 1) := by decide +kernel
theorem dJ7_fill_d0a16_3 : decode cJ7_fill_d0a16 3 = .ok (.arraylength, 1) := by decide +kernel
theorem dJ7_fill_d0a16_4 : decode cJ7_fill_d0a16 4 = .ok (.istore 4, 2) := by decide +kernel
theorem dJ7_fill_d0a16_6 : decode cJ7_fill_d0a16 6 = .ok (.iload_n 3, 1) := by decide +kernel
theorem dJ7_fill_d0a16_7 : decode cJ7_fill_d0a16 7 = .ok (.iload 4, 2) := by decide +kernel
theorem dJ7_fill_d0a16_9 : decode cJ7_fill_d0a16 9 = .ok (.if_icmp .ge 13, 3) := by decide +kernel
theorem dJ7_fill_d0a16_12 : decode cJ7_fill_d0a16 12 = .ok (.aload_n 0, 1) := by decide +kernel
theorem dJ7_fill_d0a16_13 : decode cJ7_fill_d0a16 13 = .ok (.iload_n 3, 1) := by decide +kernel
theorem dJ7_fill_d0a16_14 : decode cJ7_fill_d0a16 14 = .ok (.lload_n 1, 1) := by decide +kernel
theorem dJ7_fill_d0a16_15 : decode cJ7_fill_d0a16 15 = .ok (.lastore, 1) := by decide +kernel
theorem dJ7_fill_d0a16_16 : decode cJ7_fill_d0a16 16 = .ok (.iinc 3 1, 3) := by decide +kernel
theorem dJ7_fill_d0a16_19 : decode cJ7_fill_d0a16 19 = .ok (.goto (-13), 3) := by decide +kernel
theorem dJ7_fill_d0a16_22 : decode cJ7_fill_d0a16 22 = .ok (.return_, 1) := by decide +kernel
theorem dJ7_fill_53178_0 : decode cJ7_fill_53178 0 = .ok (.iconst 0, 1) := by decide +kernel
theorem dJ7_fill_53178_1 : decode cJ7_fill_53178 1 = .ok (.istore_n 2, 1) := by decide +kernel
theorem dJ7_fill_53178_2 : decode cJ7_fill_53178 2 = .ok (.aload_n 0, 1) := by decide +kernel
theorem dJ7_fill_53178_3 : decode cJ7_fill_53178 3 = .ok (.arraylength, 1) := by decide +kernel
theorem dJ7_fill_53178_4 : decode cJ7_fill_53178 4 = .ok (.istore_n 3, 1) := by decide +kernel
theorem dJ7_fill_53178_5 : decode cJ7_fill_53178 5 = .ok (.iload_n 2, 1) := by decide +kernel
theorem dJ7_fill_53178_6 : decode cJ7_fill_53178 6 = .ok (.iload_n 3, 1) := by decide +kernel
theorem dJ7_fill_53178_7 : decode cJ7_fill_53178 7 = .ok (.if_icmp .ge 13, 3) := by decide +kernel
theorem dJ7_fill_53178_10 : decode cJ7_fill_53178 10 = .ok (.aload_n 0, 1) := by decide +kernel
theorem dJ7_fill_53178_11 : decode cJ7_fill_53178 11 = .ok (.iload_n 2, 1) := by decide +kernel
theorem dJ7_fill_53178_12 : decode cJ7_fill_53178 12 = .ok (.iload_n 1, 1) := by decide +kernel
theorem dJ7_fill_53178_13 : decode cJ7_fill_53178 13 = .ok (.iastore, 1) := by decide +kernel
theorem dJ7_fill_53178_14 : decode cJ7_fill_53178 14 = .ok (.iinc 2 1, 3) := by decide +kernel
theorem dJ7_fill_53178_17 : decode cJ7_fill_53178 17 = .ok (.goto (-12), 3) := by decide +kernel
theorem dJ7_fill_53178_20 : decode cJ7_fill_53178 20 = .ok (.return_, 1) := by decide +kernel
theorem dJ3_checkIndex_8e157_0 : decode cJ3_checkIndex_8e157 0 = .ok (.iload_n 0, 1) := by decide +kernel
theorem dJ3_checkIndex_8e157_1 : decode cJ3_checkIndex_8e157 1 = .ok (.ifCond .lt 8, 3) := by decide +kernel
theorem dJ3_checkIndex_8e157_4 : decode cJ3_checkIndex_8e157 4 = .ok (.iload_n 0, 1) := by decide +kernel
theorem dJ3_checkIndex_8e157_5 : decode cJ3_checkIndex_8e157 5 = .ok (.iload_n 1, 1) := by decide +kernel
theorem dJ3_checkIndex_8e157_6 : decode cJ3_checkIndex_8e157 6 = .ok (.if_icmp .lt 10, 3) := by decide +kernel
theorem dJ3_checkIndex_8e157_9 : decode cJ3_checkIndex_8e157 9 = .ok (.aload_n 2, 1) := by decide +kernel
theorem dJ3_checkIndex_8e157_10 : decode cJ3_checkIndex_8e157 10 = .ok (.iload_n 0, 1) := by decide +kernel
theorem dJ3_checkIndex_8e157_11 : decode cJ3_checkIndex_8e157 11 = .ok (.iload_n 1, 1) := by decide +kernel
theorem dJ3_checkIndex_8e157_12 : decode cJ3_checkIndex_8e157 12 = .ok (.invokestatic 95, 3) := by decide +kernel
theorem dJ3_checkIndex_8e157_15 : decode cJ3_checkIndex_8e157 15 = .ok (.athrow, 1) := by decide +kernel
theorem dJ3_checkIndex_8e157_16 : decode cJ3_checkIndex_8e157 16 = .ok (.iload_n 0, 1) := by decide +kernel
theorem dJ3_checkIndex_8e157_17 : decode cJ3_checkIndex_8e157 17 = .ok (.ireturn, 1) := by decide +kernel
theorem dL_law_0 : decode cL_law 0 = .ok (.new 7, 3) := by decide +kernel
theorem dL_law_3 : decode cL_law 3 = .ok (.dup, 1) := by decide +kernel
theorem dL_law_4 : decode cL_law 4 = .ok (.invokespecial 9, 3) := by decide +kernel
theorem dL_law_7 : decode cL_law 7 = .ok (.astore_n 1, 1) := by decide +kernel
theorem dL_law_8 : decode cL_law 8 = .ok (.new 10, 3) := by decide +kernel
theorem dL_law_11 : decode cL_law 11 = .ok (.dup, 1) := by decide +kernel
theorem dL_law_12 : decode cL_law 12 = .ok (.invokespecial 12, 3) := by decide +kernel
theorem dL_law_15 : decode cL_law 15 = .ok (.astore_n 2, 1) := by decide +kernel
theorem dL_law_16 : decode cL_law 16 = .ok (.iconst 0, 1) := by decide +kernel
theorem dL_law_17 : decode cL_law 17 = .ok (.istore_n 3, 1) := by decide +kernel
theorem dL_law_18 : decode cL_law 18 = .ok (.iload_n 3, 1) := by decide +kernel
theorem dL_law_19 : decode cL_law 19 = .ok (.aload_n 0, 1) := by decide +kernel
theorem dL_law_20 : decode cL_law 20 = .ok (.arraylength, 1) := by decide +kernel
theorem dL_law_21 : decode cL_law 21 = .ok (.bipush 6, 2) := by decide +kernel
theorem dL_law_23 : decode cL_law 23 = .ok (.isub, 1) := by decide +kernel
theorem dL_law_24 : decode cL_law 24 = .ok (.if_icmp .gt 1426, 3) := by decide +kernel
theorem dL_law_27 : decode cL_law 27 = .ok (.aload_n 0, 1) := by decide +kernel
theorem dL_law_28 : decode cL_law 28 = .ok (.iload_n 3, 1) := by decide +kernel
theorem dL_law_29 : decode cL_law 29 = .ok (.iaload, 1) := by decide +kernel
theorem dL_law_30 : decode cL_law 30 = .ok (.bipush 63, 2) := by decide +kernel
theorem dL_law_32 : decode cL_law 32 = .ok (.iand, 1) := by decide +kernel
theorem dL_law_33 : decode cL_law 33 = .ok (.tableswitch 1411 0 41 #[183, 246, 269, 282, 305, 338, 371, 404, 437, 470, 503, 526, 539, 552, 575, 588, 612, 635, 659, 682, 715, 758, 781, 804, 827, 860, 883, 906, 939, 972, 1015, 1028, 1051, 1074, 1097, 1130, 1163, 1186, 1209, 1232, 1275, 1348], 183) := by decide +kernel
theorem dL_law_216 : decode cL_law 216 = .ok (.aload_n 1, 1) := by decide +kernel
theorem dL_law_217 : decode cL_law 217 = .ok (.aload_n 0, 1) := by decide +kernel
theorem dL_law_218 : decode cL_law 218 = .ok (.iload_n 3, 1) := by decide +kernel
theorem dL_law_219 : decode cL_law 219 = .ok (.iconst 1, 1) := by decide +kernel
theorem dL_law_220 : decode cL_law 220 = .ok (.iadd, 1) := by decide +kernel
theorem dL_law_221 : decode cL_law 221 = .ok (.iaload, 1) := by decide +kernel
theorem dL_law_222 : decode cL_law 222 = .ok (.aload_n 0, 1) := by decide +kernel
theorem dL_law_223 : decode cL_law 223 = .ok (.iload_n 3, 1) := by decide +kernel
theorem dL_law_224 : decode cL_law 224 = .ok (.iconst 2, 1) := by decide +kernel
theorem dL_law_225 : decode cL_law 225 = .ok (.iadd, 1) := by decide +kernel
theorem dL_law_226 : decode cL_law 226 = .ok (.iaload, 1) := by decide +kernel
theorem dL_law_227 : decode cL_law 227 = .ok (.aload_n 0, 1) := by decide +kernel
theorem dL_law_228 : decode cL_law 228 = .ok (.iload_n 3, 1) := by decide +kernel
theorem dL_law_229 : decode cL_law 229 = .ok (.iconst 3, 1) := by decide +kernel
theorem dL_law_230 : decode cL_law 230 = .ok (.iadd, 1) := by decide +kernel
theorem dL_law_231 : decode cL_law 231 = .ok (.iaload, 1) := by decide +kernel
theorem dL_law_232 : decode cL_law 232 = .ok (.aload_n 0, 1) := by decide +kernel
theorem dL_law_233 : decode cL_law 233 = .ok (.iload_n 3, 1) := by decide +kernel
theorem dL_law_234 : decode cL_law 234 = .ok (.iconst 4, 1) := by decide +kernel
theorem dL_law_235 : decode cL_law 235 = .ok (.iadd, 1) := by decide +kernel
theorem dL_law_236 : decode cL_law 236 = .ok (.iaload, 1) := by decide +kernel
theorem dL_law_237 : decode cL_law 237 = .ok (.aload_n 0, 1) := by decide +kernel
theorem dL_law_238 : decode cL_law 238 = .ok (.iload_n 3, 1) := by decide +kernel
theorem dL_law_239 : decode cL_law 239 = .ok (.iconst 5, 1) := by decide +kernel
theorem dL_law_240 : decode cL_law 240 = .ok (.iadd, 1) := by decide +kernel
theorem dL_law_241 : decode cL_law 241 = .ok (.iaload, 1) := by decide +kernel
theorem dL_law_242 : decode cL_law 242 = .ok (.invokevirtual 13, 3) := by decide +kernel
theorem dL_law_245 : decode cL_law 245 = .ok (.aload_n 2, 1) := by decide +kernel
theorem dL_law_246 : decode cL_law 246 = .ok (.aload_n 0, 1) := by decide +kernel
theorem dL_law_247 : decode cL_law 247 = .ok (.iload_n 3, 1) := by decide +kernel
theorem dL_law_248 : decode cL_law 248 = .ok (.iconst 1, 1) := by decide +kernel
theorem dL_law_249 : decode cL_law 249 = .ok (.iadd, 1) := by decide +kernel
theorem dL_law_250 : decode cL_law 250 = .ok (.iaload, 1) := by decide +kernel
theorem dL_law_251 : decode cL_law 251 = .ok (.aload_n 0, 1) := by decide +kernel
theorem dL_law_252 : decode cL_law 252 = .ok (.iload_n 3, 1) := by decide +kernel
theorem dL_law_253 : decode cL_law 253 = .ok (.iconst 2, 1) := by decide +kernel
theorem dL_law_254 : decode cL_law 254 = .ok (.iadd, 1) := by decide +kernel
theorem dL_law_255 : decode cL_law 255 = .ok (.iaload, 1) := by decide +kernel
theorem dL_law_256 : decode cL_law 256 = .ok (.aload_n 0, 1) := by decide +kernel
theorem dL_law_257 : decode cL_law 257 = .ok (.iload_n 3, 1) := by decide +kernel
theorem dL_law_258 : decode cL_law 258 = .ok (.iconst 3, 1) := by decide +kernel
theorem dL_law_259 : decode cL_law 259 = .ok (.iadd, 1) := by decide +kernel
theorem dL_law_260 : decode cL_law 260 = .ok (.iaload, 1) := by decide +kernel
theorem dL_law_261 : decode cL_law 261 = .ok (.aload_n 0, 1) := by decide +kernel
theorem dL_law_262 : decode cL_law 262 = .ok (.iload_n 3, 1) := by decide +kernel
theorem dL_law_263 : decode cL_law 263 = .ok (.iconst 4, 1) := by decide +kernel
theorem dL_law_264 : decode cL_law 264 = .ok (.iadd, 1) := by decide +kernel
theorem dL_law_265 : decode cL_law 265 = .ok (.iaload, 1) := by decide +kernel
theorem dL_law_266 : decode cL_law 266 = .ok (.aload_n 0, 1) := by decide +kernel
theorem dL_law_267 : decode cL_law 267 = .ok (.iload_n 3, 1) := by decide +kernel
theorem dL_law_268 : decode cL_law 268 = .ok (.iconst 5, 1) := by decide +kernel
theorem dL_law_269 : decode cL_law 269 = .ok (.iadd, 1) := by decide +kernel
theorem dL_law_270 : decode cL_law 270 = .ok (.iaload, 1) := by decide +kernel
theorem dL_law_271 : decode cL_law 271 = .ok (.invokevirtual 17, 3) := by decide +kernel
theorem dL_law_274 : decode cL_law 274 = .ok (.if_icmp .eq 1170, 3) := by decide +kernel
theorem dL_law_277 : decode cL_law 277 = .ok (.iconst 0, 1) := by decide +kernel
theorem dL_law_278 : decode cL_law 278 = .ok (.ireturn, 1) := by decide +kernel
theorem dL_law_279 : decode cL_law 279 = .ok (.aload_n 1, 1) := by decide +kernel
theorem dL_law_280 : decode cL_law 280 = .ok (.aload_n 0, 1) := by decide +kernel
theorem dL_law_281 : decode cL_law 281 = .ok (.iload_n 3, 1) := by decide +kernel
theorem dL_law_282 : decode cL_law 282 = .ok (.iconst 1, 1) := by decide +kernel
theorem dL_law_283 : decode cL_law 283 = .ok (.iadd, 1) := by decide +kernel
theorem dL_law_284 : decode cL_law 284 = .ok (.iaload, 1) := by decide +kernel
theorem dL_law_285 : decode cL_law 285 = .ok (.invokevirtual 18, 3) := by decide +kernel
theorem dL_law_288 : decode cL_law 288 = .ok (.aload_n 2, 1) := by decide +kernel
theorem dL_law_289 : decode cL_law 289 = .ok (.aload_n 0, 1) := by decide +kernel
theorem dL_law_290 : decode cL_law 290 = .ok (.iload_n 3, 1) := by decide +kernel
theorem dL_law_291 : decode cL_law 291 = .ok (.iconst 1, 1) := by decide +kernel
theorem dL_law_292 : decode cL_law 292 = .ok (.iadd, 1) := by decide +kernel
theorem dL_law_293 : decode cL_law 293 = .ok (.iaload, 1) := by decide +kernel
theorem dL_law_294 : decode cL_law 294 = .ok (.invokevirtual 22, 3) := by decide +kernel
theorem dL_law_297 : decode cL_law 297 = .ok (.if_icmp .eq 1147, 3) := by decide +kernel
theorem dL_law_300 : decode cL_law 300 = .ok (.iconst 0, 1) := by decide +kernel
theorem dL_law_301 : decode cL_law 301 = .ok (.ireturn, 1) := by decide +kernel
theorem dL_law_302 : decode cL_law 302 = .ok (.aload_n 1, 1) := by decide +kernel
theorem dL_law_303 : decode cL_law 303 = .ok (.invokevirtual 23, 3) := by decide +kernel
theorem dL_law_306 : decode cL_law 306 = .ok (.aload_n 2, 1) := by decide +kernel
theorem dL_law_307 : decode cL_law 307 = .ok (.invokevirtual 27, 3) := by decide +kernel
theorem dL_law_310 : decode cL_law 310 = .ok (.if_icmp .eq 1134, 3) := by decide +kernel
theorem dL_law_313 : decode cL_law 313 = .ok (.iconst 0, 1) := by decide +kernel
theorem dL_law_314 : decode cL_law 314 = .ok (.ireturn, 1) := by decide +kernel
theorem dL_law_315 : decode cL_law 315 = .ok (.aload_n 1, 1) := by decide +kernel
theorem dL_law_316 : decode cL_law 316 = .ok (.aload_n 0, 1) := by decide +kernel
theorem dL_law_317 : decode cL_law 317 = .ok (.iload_n 3, 1) := by decide +kernel
theorem dL_law_318 : decode cL_law 318 = .ok (.iconst 1, 1) := by decide +kernel
theorem dL_law_319 : decode cL_law 319 = .ok (.iadd, 1) := by decide +kernel
theorem dL_law_320 : decode cL_law 320 = .ok (.iaload, 1) := by decide +kernel
theorem dL_law_321 : decode cL_law 321 = .ok (.invokevirtual 28, 3) := by decide +kernel
theorem dL_law_324 : decode cL_law 324 = .ok (.aload_n 2, 1) := by decide +kernel
theorem dL_law_325 : decode cL_law 325 = .ok (.aload_n 0, 1) := by decide +kernel
theorem dL_law_326 : decode cL_law 326 = .ok (.iload_n 3, 1) := by decide +kernel
theorem dL_law_327 : decode cL_law 327 = .ok (.iconst 1, 1) := by decide +kernel
theorem dL_law_328 : decode cL_law 328 = .ok (.iadd, 1) := by decide +kernel
theorem dL_law_329 : decode cL_law 329 = .ok (.iaload, 1) := by decide +kernel
theorem dL_law_330 : decode cL_law 330 = .ok (.invokevirtual 31, 3) := by decide +kernel
theorem dL_law_333 : decode cL_law 333 = .ok (.if_icmp .eq 1111, 3) := by decide +kernel
theorem dL_law_336 : decode cL_law 336 = .ok (.iconst 0, 1) := by decide +kernel
theorem dL_law_337 : decode cL_law 337 = .ok (.ireturn, 1) := by decide +kernel
theorem dL_law_338 : decode cL_law 338 = .ok (.aload_n 1, 1) := by decide +kernel
theorem dL_law_339 : decode cL_law 339 = .ok (.aload_n 0, 1) := by decide +kernel
theorem dL_law_340 : decode cL_law 340 = .ok (.iload_n 3, 1) := by decide +kernel
theorem dL_law_341 : decode cL_law 341 = .ok (.iconst 1, 1) := by decide +kernel
theorem dL_law_342 : decode cL_law 342 = .ok (.iadd, 1) := by decide +kernel
theorem dL_law_343 : decode cL_law 343 = .ok (.iaload, 1) := by decide +kernel
theorem dL_law_344 : decode cL_law 344 = .ok (.aload_n 0, 1) := by decide +kernel
theorem dL_law_345 : decode cL_law 345 = .ok (.iload_n 3, 1) := by decide +kernel
theorem dL_law_346 : decode cL_law 346 = .ok (.iconst 2, 1) := by decide +kernel
theorem dL_law_347 : decode cL_law 347 = .ok (.iadd, 1) := by decide +kernel
theorem dL_law_348 : decode cL_law 348 = .ok (.iaload, 1) := by decide +kernel
theorem dL_law_349 : decode cL_law 349 = .ok (.invokevirtual 32, 3) := by decide +kernel
theorem dL_law_352 : decode cL_law 352 = .ok (.aload_n 2, 1) := by decide +kernel
theorem dL_law_353 : decode cL_law 353 = .ok (.aload_n 0, 1) := by decide +kernel
theorem dL_law_354 : decode cL_law 354 = .ok (.iload_n 3, 1) := by decide +kernel
theorem dL_law_355 : decode cL_law 355 = .ok (.iconst 1, 1) := by decide +kernel
theorem dL_law_356 : decode cL_law 356 = .ok (.iadd, 1) := by decide +kernel
theorem dL_law_357 : decode cL_law 357 = .ok (.iaload, 1) := by decide +kernel
theorem dL_law_358 : decode cL_law 358 = .ok (.aload_n 0, 1) := by decide +kernel
theorem dL_law_359 : decode cL_law 359 = .ok (.iload_n 3, 1) := by decide +kernel
theorem dL_law_360 : decode cL_law 360 = .ok (.iconst 2, 1) := by decide +kernel
theorem dL_law_361 : decode cL_law 361 = .ok (.iadd, 1) := by decide +kernel
theorem dL_law_362 : decode cL_law 362 = .ok (.iaload, 1) := by decide +kernel
theorem dL_law_363 : decode cL_law 363 = .ok (.invokevirtual 36, 3) := by decide +kernel
theorem dL_law_366 : decode cL_law 366 = .ok (.if_icmp .eq 1078, 3) := by decide +kernel
theorem dL_law_369 : decode cL_law 369 = .ok (.iconst 0, 1) := by decide +kernel
theorem dL_law_370 : decode cL_law 370 = .ok (.ireturn, 1) := by decide +kernel
theorem dL_law_371 : decode cL_law 371 = .ok (.aload_n 1, 1) := by decide +kernel
theorem dL_law_372 : decode cL_law 372 = .ok (.aload_n 0, 1) := by decide +kernel
theorem dL_law_373 : decode cL_law 373 = .ok (.iload_n 3, 1) := by decide +kernel
theorem dL_law_374 : decode cL_law 374 = .ok (.iconst 1, 1) := by decide +kernel
theorem dL_law_375 : decode cL_law 375 = .ok (.iadd, 1) := by decide +kernel
theorem dL_law_376 : decode cL_law 376 = .ok (.iaload, 1) := by decide +kernel
theorem dL_law_377 : decode cL_law 377 = .ok (.aload_n 0, 1) := by decide +kernel
theorem dL_law_378 : decode cL_law 378 = .ok (.iload_n 3, 1) := by decide +kernel
theorem dL_law_379 : decode cL_law 379 = .ok (.iconst 2, 1) := by decide +kernel
theorem dL_law_380 : decode cL_law 380 = .ok (.iadd, 1) := by decide +kernel
theorem dL_law_381 : decode cL_law 381 = .ok (.iaload, 1) := by decide +kernel
theorem dL_law_382 : decode cL_law 382 = .ok (.invokevirtual 37, 3) := by decide +kernel
theorem dL_law_385 : decode cL_law 385 = .ok (.aload_n 2, 1) := by decide +kernel
theorem dL_law_386 : decode cL_law 386 = .ok (.aload_n 0, 1) := by decide +kernel
theorem dL_law_387 : decode cL_law 387 = .ok (.iload_n 3, 1) := by decide +kernel
theorem dL_law_388 : decode cL_law 388 = .ok (.iconst 1, 1) := by decide +kernel
theorem dL_law_389 : decode cL_law 389 = .ok (.iadd, 1) := by decide +kernel
theorem dL_law_390 : decode cL_law 390 = .ok (.iaload, 1) := by decide +kernel
theorem dL_law_391 : decode cL_law 391 = .ok (.aload_n 0, 1) := by decide +kernel
theorem dL_law_392 : decode cL_law 392 = .ok (.iload_n 3, 1) := by decide +kernel
theorem dL_law_393 : decode cL_law 393 = .ok (.iconst 2, 1) := by decide +kernel
theorem dL_law_394 : decode cL_law 394 = .ok (.iadd, 1) := by decide +kernel
theorem dL_law_395 : decode cL_law 395 = .ok (.iaload, 1) := by decide +kernel
theorem dL_law_396 : decode cL_law 396 = .ok (.invokevirtual 40, 3) := by decide +kernel
theorem dL_law_399 : decode cL_law 399 = .ok (.if_icmp .eq 1045, 3) := by decide +kernel
theorem dL_law_402 : decode cL_law 402 = .ok (.iconst 0, 1) := by decide +kernel
theorem dL_law_403 : decode cL_law 403 = .ok (.ireturn, 1) := by decide +kernel
theorem dL_law_404 : decode cL_law 404 = .ok (.aload_n 1, 1) := by decide +kernel
theorem dL_law_405 : decode cL_law 405 = .ok (.aload_n 0, 1) := by decide +kernel
theorem dL_law_406 : decode cL_law 406 = .ok (.iload_n 3, 1) := by decide +kernel
theorem dL_law_407 : decode cL_law 407 = .ok (.iconst 1, 1) := by decide +kernel
theorem dL_law_408 : decode cL_law 408 = .ok (.iadd, 1) := by decide +kernel
theorem dL_law_409 : decode cL_law 409 = .ok (.iaload, 1) := by decide +kernel
theorem dL_law_410 : decode cL_law 410 = .ok (.aload_n 0, 1) := by decide +kernel
theorem dL_law_411 : decode cL_law 411 = .ok (.iload_n 3, 1) := by decide +kernel
theorem dL_law_412 : decode cL_law 412 = .ok (.iconst 2, 1) := by decide +kernel
theorem dL_law_413 : decode cL_law 413 = .ok (.iadd, 1) := by decide +kernel
theorem dL_law_414 : decode cL_law 414 = .ok (.iaload, 1) := by decide +kernel
theorem dL_law_415 : decode cL_law 415 = .ok (.invokevirtual 41, 3) := by decide +kernel
theorem dL_law_418 : decode cL_law 418 = .ok (.aload_n 2, 1) := by decide +kernel
theorem dL_law_419 : decode cL_law 419 = .ok (.aload_n 0, 1) := by decide +kernel
theorem dL_law_420 : decode cL_law 420 = .ok (.iload_n 3, 1) := by decide +kernel
theorem dL_law_421 : decode cL_law 421 = .ok (.iconst 1, 1) := by decide +kernel
theorem dL_law_422 : decode cL_law 422 = .ok (.iadd, 1) := by decide +kernel
theorem dL_law_423 : decode cL_law 423 = .ok (.iaload, 1) := by decide +kernel
theorem dL_law_424 : decode cL_law 424 = .ok (.aload_n 0, 1) := by decide +kernel
theorem dL_law_425 : decode cL_law 425 = .ok (.iload_n 3, 1) := by decide +kernel
theorem dL_law_426 : decode cL_law 426 = .ok (.iconst 2, 1) := by decide +kernel
theorem dL_law_427 : decode cL_law 427 = .ok (.iadd, 1) := by decide +kernel
theorem dL_law_428 : decode cL_law 428 = .ok (.iaload, 1) := by decide +kernel
theorem dL_law_429 : decode cL_law 429 = .ok (.invokevirtual 44, 3) := by decide +kernel
theorem dL_law_432 : decode cL_law 432 = .ok (.if_icmp .eq 1012, 3) := by decide +kernel
theorem dL_law_435 : decode cL_law 435 = .ok (.iconst 0, 1) := by decide +kernel
theorem dL_law_436 : decode cL_law 436 = .ok (.ireturn, 1) := by decide +kernel
theorem dL_law_437 : decode cL_law 437 = .ok (.aload_n 1, 1) := by decide +kernel
theorem dL_law_438 : decode cL_law 438 = .ok (.aload_n 0, 1) := by decide +kernel
theorem dL_law_439 : decode cL_law 439 = .ok (.iload_n 3, 1) := by decide +kernel
theorem dL_law_440 : decode cL_law 440 = .ok (.iconst 1, 1) := by decide +kernel
theorem dL_law_441 : decode cL_law 441 = .ok (.iadd, 1) := by decide +kernel
theorem dL_law_442 : decode cL_law 442 = .ok (.iaload, 1) := by decide +kernel
theorem dL_law_443 : decode cL_law 443 = .ok (.aload_n 0, 1) := by decide +kernel
theorem dL_law_444 : decode cL_law 444 = .ok (.iload_n 3, 1) := by decide +kernel
theorem dL_law_445 : decode cL_law 445 = .ok (.iconst 2, 1) := by decide +kernel
theorem dL_law_446 : decode cL_law 446 = .ok (.iadd, 1) := by decide +kernel
theorem dL_law_447 : decode cL_law 447 = .ok (.iaload, 1) := by decide +kernel
theorem dL_law_448 : decode cL_law 448 = .ok (.invokevirtual 45, 3) := by decide +kernel
theorem dL_law_451 : decode cL_law 451 = .ok (.aload_n 2, 1) := by decide +kernel
theorem dL_law_452 : decode cL_law 452 = .ok (.aload_n 0, 1) := by decide +kernel
theorem dL_law_453 : decode cL_law 453 = .ok (.iload_n 3, 1) := by decide +kernel
theorem dL_law_454 : decode cL_law 454 = .ok (.iconst 1, 1) := by decide +kernel
theorem dL_law_455 : decode cL_law 455 = .ok (.iadd, 1) := by decide +kernel
theorem dL_law_456 : decode cL_law 456 = .ok (.iaload, 1) := by decide +kernel
theorem dL_law_457 : decode cL_law 457 = .ok (.aload_n 0, 1) := by decide +kernel
theorem dL_law_458 : decode cL_law 458 = .ok (.iload_n 3, 1) := by decide +kernel
theorem dL_law_459 : decode cL_law 459 = .ok (.iconst 2, 1) := by decide +kernel
theorem dL_law_460 : decode cL_law 460 = .ok (.iadd, 1) := by decide +kernel
theorem dL_law_461 : decode cL_law 461 = .ok (.iaload, 1) := by decide +kernel
theorem dL_law_462 : decode cL_law 462 = .ok (.invokevirtual 48, 3) := by decide +kernel
theorem dL_law_465 : decode cL_law 465 = .ok (.if_icmp .eq 979, 3) := by decide +kernel
theorem dL_law_468 : decode cL_law 468 = .ok (.iconst 0, 1) := by decide +kernel
theorem dL_law_469 : decode cL_law 469 = .ok (.ireturn, 1) := by decide +kernel
theorem dL_law_470 : decode cL_law 470 = .ok (.aload_n 1, 1) := by decide +kernel
theorem dL_law_471 : decode cL_law 471 = .ok (.aload_n 0, 1) := by decide +kernel
theorem dL_law_472 : decode cL_law 472 = .ok (.iload_n 3, 1) := by decide +kernel
theorem dL_law_473 : decode cL_law 473 = .ok (.iconst 1, 1) := by decide +kernel
theorem dL_law_474 : decode cL_law 474 = .ok (.iadd, 1) := by decide +kernel
theorem dL_law_475 : decode cL_law 475 = .ok (.iaload, 1) := by decide +kernel
theorem dL_law_476 : decode cL_law 476 = .ok (.aload_n 0, 1) := by decide +kernel
theorem dL_law_477 : decode cL_law 477 = .ok (.iload_n 3, 1) := by decide +kernel
theorem dL_law_478 : decode cL_law 478 = .ok (.iconst 2, 1) := by decide +kernel
theorem dL_law_479 : decode cL_law 479 = .ok (.iadd, 1) := by decide +kernel
theorem dL_law_480 : decode cL_law 480 = .ok (.iaload, 1) := by decide +kernel
theorem dL_law_481 : decode cL_law 481 = .ok (.invokevirtual 49, 3) := by decide +kernel
theorem dL_law_484 : decode cL_law 484 = .ok (.aload_n 2, 1) := by decide +kernel
theorem dL_law_485 : decode cL_law 485 = .ok (.aload_n 0, 1) := by decide +kernel
theorem dL_law_486 : decode cL_law 486 = .ok (.iload_n 3, 1) := by decide +kernel
theorem dL_law_487 : decode cL_law 487 = .ok (.iconst 1, 1) := by decide +kernel
theorem dL_law_488 : decode cL_law 488 = .ok (.iadd, 1) := by decide +kernel
theorem dL_law_489 : decode cL_law 489 = .ok (.iaload, 1) := by decide +kernel
theorem dL_law_490 : decode cL_law 490 = .ok (.aload_n 0, 1) := by decide +kernel
theorem dL_law_491 : decode cL_law 491 = .ok (.iload_n 3, 1) := by decide +kernel
theorem dL_law_492 : decode cL_law 492 = .ok (.iconst 2, 1) := by decide +kernel
theorem dL_law_493 : decode cL_law 493 = .ok (.iadd, 1) := by decide +kernel
theorem dL_law_494 : decode cL_law 494 = .ok (.iaload, 1) := by decide +kernel
theorem dL_law_495 : decode cL_law 495 = .ok (.invokevirtual 52, 3) := by decide +kernel
theorem dL_law_498 : decode cL_law 498 = .ok (.if_icmp .eq 946, 3) := by decide +kernel
theorem dL_law_501 : decode cL_law 501 = .ok (.iconst 0, 1) := by decide +kernel
theorem dL_law_502 : decode cL_law 502 = .ok (.ireturn, 1) := by decide +kernel
theorem dL_law_503 : decode cL_law 503 = .ok (.aload_n 1, 1) := by decide +kernel
theorem dL_law_504 : decode cL_law 504 = .ok (.aload_n 0, 1) := by decide +kernel
theorem dL_law_505 : decode cL_law 505 = .ok (.iload_n 3, 1) := by decide +kernel
theorem dL_law_506 : decode cL_law 506 = .ok (.iconst 1, 1) := by decide +kernel
theorem dL_law_507 : decode cL_law 507 = .ok (.iadd, 1) := by decide +kernel
theorem dL_law_508 : decode cL_law 508 = .ok (.iaload, 1) := by decide +kernel
theorem dL_law_509 : decode cL_law 509 = .ok (.aload_n 0, 1) := by decide +kernel
theorem dL_law_510 : decode cL_law 510 = .ok (.iload_n 3, 1) := by decide +kernel
theorem dL_law_511 : decode cL_law 511 = .ok (.iconst 2, 1) := by decide +kernel
theorem dL_law_512 : decode cL_law 512 = .ok (.iadd, 1) := by decide +kernel
theorem dL_law_513 : decode cL_law 513 = .ok (.iaload, 1) := by decide +kernel
theorem dL_law_514 : decode cL_law 514 = .ok (.invokevirtual 53, 3) := by decide +kernel
theorem dL_law_517 : decode cL_law 517 = .ok (.aload_n 2, 1) := by decide +kernel
theorem dL_law_518 : decode cL_law 518 = .ok (.aload_n 0, 1) := by decide +kernel
theorem dL_law_519 : decode cL_law 519 = .ok (.iload_n 3, 1) := by decide +kernel
theorem dL_law_520 : decode cL_law 520 = .ok (.iconst 1, 1) := by decide +kernel
theorem dL_law_521 : decode cL_law 521 = .ok (.iadd, 1) := by decide +kernel
theorem dL_law_522 : decode cL_law 522 = .ok (.iaload, 1) := by decide +kernel
theorem dL_law_523 : decode cL_law 523 = .ok (.aload_n 0, 1) := by decide +kernel
theorem dL_law_524 : decode cL_law 524 = .ok (.iload_n 3, 1) := by decide +kernel
theorem dL_law_525 : decode cL_law 525 = .ok (.iconst 2, 1) := by decide +kernel
theorem dL_law_526 : decode cL_law 526 = .ok (.iadd, 1) := by decide +kernel
theorem dL_law_527 : decode cL_law 527 = .ok (.iaload, 1) := by decide +kernel
theorem dL_law_528 : decode cL_law 528 = .ok (.invokevirtual 56, 3) := by decide +kernel
theorem dL_law_531 : decode cL_law 531 = .ok (.if_icmp .eq 913, 3) := by decide +kernel
theorem dL_law_534 : decode cL_law 534 = .ok (.iconst 0, 1) := by decide +kernel
theorem dL_law_535 : decode cL_law 535 = .ok (.ireturn, 1) := by decide +kernel
theorem dL_law_536 : decode cL_law 536 = .ok (.aload_n 1, 1) := by decide +kernel
theorem dL_law_537 : decode cL_law 537 = .ok (.aload_n 0, 1) := by decide +kernel
theorem dL_law_538 : decode cL_law 538 = .ok (.iload_n 3, 1) := by decide +kernel
theorem dL_law_539 : decode cL_law 539 = .ok (.iconst 1, 1) := by decide +kernel
theorem dL_law_540 : decode cL_law 540 = .ok (.iadd, 1) := by decide +kernel
theorem dL_law_541 : decode cL_law 541 = .ok (.iaload, 1) := by decide +kernel
theorem dL_law_542 : decode cL_law 542 = .ok (.invokevirtual 57, 3) := by decide +kernel
theorem dL_law_545 : decode cL_law 545 = .ok (.aload_n 2, 1) := by decide +kernel
theorem dL_law_546 : decode cL_law 546 = .ok (.aload_n 0, 1) := by decide +kernel
theorem dL_law_547 : decode cL_law 547 = .ok (.iload_n 3, 1) := by decide +kernel
theorem dL_law_548 : decode cL_law 548 = .ok (.iconst 1, 1) := by decide +kernel
theorem dL_law_549 : decode cL_law 549 = .ok (.iadd, 1) := by decide +kernel
theorem dL_law_550 : decode cL_law 550 = .ok (.iaload, 1) := by decide +kernel
theorem dL_law_551 : decode cL_law 551 = .ok (.invokevirtual 60, 3) := by decide +kernel
theorem dL_law_554 : decode cL_law 554 = .ok (.if_icmp .eq 890, 3) := by decide +kernel
theorem dL_law_557 : decode cL_law 557 = .ok (.iconst 0, 1) := by decide +kernel
theorem dL_law_558 : decode cL_law 558 = .ok (.ireturn, 1) := by decide +kernel
theorem dL_law_559 : decode cL_law 559 = .ok (.aload_n 1, 1) := by decide +kernel
theorem dL_law_560 : decode cL_law 560 = .ok (.invokevirtual 61, 3) := by decide +kernel
theorem dL_law_563 : decode cL_law 563 = .ok (.aload_n 2, 1) := by decide +kernel
theorem dL_law_564 : decode cL_law 564 = .ok (.invokevirtual 64, 3) := by decide +kernel
theorem dL_law_567 : decode cL_law 567 = .ok (.if_icmp .eq 877, 3) := by decide +kernel
theorem dL_law_570 : decode cL_law 570 = .ok (.iconst 0, 1) := by decide +kernel
theorem dL_law_571 : decode cL_law 571 = .ok (.ireturn, 1) := by decide +kernel
theorem dL_law_572 : decode cL_law 572 = .ok (.aload_n 1, 1) := by decide +kernel
theorem dL_law_573 : decode cL_law 573 = .ok (.invokevirtual 65, 3) := by decide +kernel
theorem dL_law_576 : decode cL_law 576 = .ok (.aload_n 2, 1) := by decide +kernel
theorem dL_law_577 : decode cL_law 577 = .ok (.invokevirtual 68, 3) := by decide +kernel
theorem dL_law_580 : decode cL_law 580 = .ok (.if_icmp .eq 864, 3) := by decide +kernel
theorem dL_law_583 : decode cL_law 583 = .ok (.iconst 0, 1) := by decide +kernel
theorem dL_law_584 : decode cL_law 584 = .ok (.ireturn, 1) := by decide +kernel
theorem dL_law_585 : decode cL_law 585 = .ok (.aload_n 1, 1) := by decide +kernel
theorem dL_law_586 : decode cL_law 586 = .ok (.aload_n 0, 1) := by decide +kernel
theorem dL_law_587 : decode cL_law 587 = .ok (.iload_n 3, 1) := by decide +kernel
theorem dL_law_588 : decode cL_law 588 = .ok (.iconst 1, 1) := by decide +kernel
theorem dL_law_589 : decode cL_law 589 = .ok (.iadd, 1) := by decide +kernel
theorem dL_law_590 : decode cL_law 590 = .ok (.iaload, 1) := by decide +kernel
theorem dL_law_591 : decode cL_law 591 = .ok (.invokevirtual 69, 3) := by decide +kernel
theorem dL_law_594 : decode cL_law 594 = .ok (.aload_n 2, 1) := by decide +kernel
theorem dL_law_595 : decode cL_law 595 = .ok (.aload_n 0, 1) := by decide +kernel
theorem dL_law_596 : decode cL_law 596 = .ok (.iload_n 3, 1) := by decide +kernel
theorem dL_law_597 : decode cL_law 597 = .ok (.iconst 1, 1) := by decide +kernel
theorem dL_law_598 : decode cL_law 598 = .ok (.iadd, 1) := by decide +kernel
theorem dL_law_599 : decode cL_law 599 = .ok (.iaload, 1) := by decide +kernel
theorem dL_law_600 : decode cL_law 600 = .ok (.invokevirtual 72, 3) := by decide +kernel
theorem dL_law_603 : decode cL_law 603 = .ok (.if_icmp .eq 841, 3) := by decide +kernel
theorem dL_law_606 : decode cL_law 606 = .ok (.iconst 0, 1) := by decide +kernel
theorem dL_law_607 : decode cL_law 607 = .ok (.ireturn, 1) := by decide +kernel
theorem dL_law_608 : decode cL_law 608 = .ok (.aload_n 1, 1) := by decide +kernel
theorem dL_law_609 : decode cL_law 609 = .ok (.invokevirtual 73, 3) := by decide +kernel
theorem dL_law_612 : decode cL_law 612 = .ok (.aload_n 2, 1) := by decide +kernel
theorem dL_law_613 : decode cL_law 613 = .ok (.invokevirtual 76, 3) := by decide +kernel
theorem dL_law_616 : decode cL_law 616 = .ok (.if_icmp .eq 828, 3) := by decide +kernel
theorem dL_law_619 : decode cL_law 619 = .ok (.iconst 0, 1) := by decide +kernel
theorem dL_law_620 : decode cL_law 620 = .ok (.ireturn, 1) := by decide +kernel
theorem dL_law_621 : decode cL_law 621 = .ok (.aload_n 1, 1) := by decide +kernel
theorem dL_law_622 : decode cL_law 622 = .ok (.aload_n 0, 1) := by decide +kernel
theorem dL_law_623 : decode cL_law 623 = .ok (.iload_n 3, 1) := by decide +kernel
theorem dL_law_624 : decode cL_law 624 = .ok (.iconst 1, 1) := by decide +kernel
theorem dL_law_625 : decode cL_law 625 = .ok (.iadd, 1) := by decide +kernel
theorem dL_law_626 : decode cL_law 626 = .ok (.iaload, 1) := by decide +kernel
theorem dL_law_627 : decode cL_law 627 = .ok (.invokevirtual 77, 3) := by decide +kernel
theorem dL_law_630 : decode cL_law 630 = .ok (.aload_n 2, 1) := by decide +kernel
theorem dL_law_631 : decode cL_law 631 = .ok (.aload_n 0, 1) := by decide +kernel
theorem dL_law_632 : decode cL_law 632 = .ok (.iload_n 3, 1) := by decide +kernel
theorem dL_law_633 : decode cL_law 633 = .ok (.iconst 1, 1) := by decide +kernel
theorem dL_law_634 : decode cL_law 634 = .ok (.iadd, 1) := by decide +kernel
theorem dL_law_635 : decode cL_law 635 = .ok (.iaload, 1) := by decide +kernel
theorem dL_law_636 : decode cL_law 636 = .ok (.invokevirtual 81, 3) := by decide +kernel
theorem dL_law_639 : decode cL_law 639 = .ok (.lcmp, 1) := by decide +kernel
theorem dL_law_640 : decode cL_law 640 = .ok (.ifCond .eq 804, 3) := by decide +kernel
theorem dL_law_643 : decode cL_law 643 = .ok (.iconst 0, 1) := by decide +kernel
theorem dL_law_644 : decode cL_law 644 = .ok (.ireturn, 1) := by decide +kernel
theorem dL_law_645 : decode cL_law 645 = .ok (.aload_n 1, 1) := by decide +kernel
theorem dL_law_646 : decode cL_law 646 = .ok (.aload_n 0, 1) := by decide +kernel
theorem dL_law_647 : decode cL_law 647 = .ok (.iload_n 3, 1) := by decide +kernel
theorem dL_law_648 : decode cL_law 648 = .ok (.iconst 1, 1) := by decide +kernel
theorem dL_law_649 : decode cL_law 649 = .ok (.iadd, 1) := by decide +kernel
theorem dL_law_650 : decode cL_law 650 = .ok (.iaload, 1) := by decide +kernel
theorem dL_law_651 : decode cL_law 651 = .ok (.invokevirtual 82, 3) := by decide +kernel
theorem dL_law_654 : decode cL_law 654 = .ok (.aload_n 2, 1) := by decide +kernel
theorem dL_law_655 : decode cL_law 655 = .ok (.aload_n 0, 1) := by decide +kernel
theorem dL_law_656 : decode cL_law 656 = .ok (.iload_n 3, 1) := by decide +kernel
theorem dL_law_657 : decode cL_law 657 = .ok (.iconst 1, 1) := by decide +kernel
theorem dL_law_658 : decode cL_law 658 = .ok (.iadd, 1) := by decide +kernel
theorem dL_law_659 : decode cL_law 659 = .ok (.iaload, 1) := by decide +kernel
theorem dL_law_660 : decode cL_law 660 = .ok (.invokevirtual 85, 3) := by decide +kernel
theorem dL_law_663 : decode cL_law 663 = .ok (.if_icmp .eq 781, 3) := by decide +kernel
theorem dL_law_666 : decode cL_law 666 = .ok (.iconst 0, 1) := by decide +kernel
theorem dL_law_667 : decode cL_law 667 = .ok (.ireturn, 1) := by decide +kernel
theorem dL_law_668 : decode cL_law 668 = .ok (.aload_n 1, 1) := by decide +kernel
theorem dL_law_669 : decode cL_law 669 = .ok (.aload_n 0, 1) := by decide +kernel
theorem dL_law_670 : decode cL_law 670 = .ok (.iload_n 3, 1) := by decide +kernel
theorem dL_law_671 : decode cL_law 671 = .ok (.iconst 1, 1) := by decide +kernel
theorem dL_law_672 : decode cL_law 672 = .ok (.iadd, 1) := by decide +kernel
theorem dL_law_673 : decode cL_law 673 = .ok (.iaload, 1) := by decide +kernel
theorem dL_law_674 : decode cL_law 674 = .ok (.invokevirtual 86, 3) := by decide +kernel
theorem dL_law_677 : decode cL_law 677 = .ok (.aload_n 2, 1) := by decide +kernel
theorem dL_law_678 : decode cL_law 678 = .ok (.aload_n 0, 1) := by decide +kernel
theorem dL_law_679 : decode cL_law 679 = .ok (.iload_n 3, 1) := by decide +kernel
theorem dL_law_680 : decode cL_law 680 = .ok (.iconst 1, 1) := by decide +kernel
theorem dL_law_681 : decode cL_law 681 = .ok (.iadd, 1) := by decide +kernel
theorem dL_law_682 : decode cL_law 682 = .ok (.iaload, 1) := by decide +kernel
theorem dL_law_683 : decode cL_law 683 = .ok (.invokevirtual 89, 3) := by decide +kernel
theorem dL_law_686 : decode cL_law 686 = .ok (.lcmp, 1) := by decide +kernel
theorem dL_law_687 : decode cL_law 687 = .ok (.ifCond .eq 757, 3) := by decide +kernel
theorem dL_law_690 : decode cL_law 690 = .ok (.iconst 0, 1) := by decide +kernel
theorem dL_law_691 : decode cL_law 691 = .ok (.ireturn, 1) := by decide +kernel
theorem dL_law_692 : decode cL_law 692 = .ok (.aload_n 1, 1) := by decide +kernel
theorem dL_law_693 : decode cL_law 693 = .ok (.aload_n 0, 1) := by decide +kernel
theorem dL_law_694 : decode cL_law 694 = .ok (.iload_n 3, 1) := by decide +kernel
theorem dL_law_695 : decode cL_law 695 = .ok (.iconst 1, 1) := by decide +kernel
theorem dL_law_696 : decode cL_law 696 = .ok (.iadd, 1) := by decide +kernel
theorem dL_law_697 : decode cL_law 697 = .ok (.iaload, 1) := by decide +kernel
theorem dL_law_698 : decode cL_law 698 = .ok (.invokevirtual 90, 3) := by decide +kernel
theorem dL_law_701 : decode cL_law 701 = .ok (.aload_n 2, 1) := by decide +kernel
theorem dL_law_702 : decode cL_law 702 = .ok (.aload_n 0, 1) := by decide +kernel
theorem dL_law_703 : decode cL_law 703 = .ok (.iload_n 3, 1) := by decide +kernel
theorem dL_law_704 : decode cL_law 704 = .ok (.iconst 1, 1) := by decide +kernel
theorem dL_law_705 : decode cL_law 705 = .ok (.iadd, 1) := by decide +kernel
theorem dL_law_706 : decode cL_law 706 = .ok (.iaload, 1) := by decide +kernel
theorem dL_law_707 : decode cL_law 707 = .ok (.invokevirtual 93, 3) := by decide +kernel
theorem dL_law_710 : decode cL_law 710 = .ok (.if_icmp .eq 734, 3) := by decide +kernel
theorem dL_law_713 : decode cL_law 713 = .ok (.iconst 0, 1) := by decide +kernel
theorem dL_law_714 : decode cL_law 714 = .ok (.ireturn, 1) := by decide +kernel
theorem dL_law_715 : decode cL_law 715 = .ok (.aload_n 1, 1) := by decide +kernel
theorem dL_law_716 : decode cL_law 716 = .ok (.aload_n 0, 1) := by decide +kernel
theorem dL_law_717 : decode cL_law 717 = .ok (.iload_n 3, 1) := by decide +kernel
theorem dL_law_718 : decode cL_law 718 = .ok (.iconst 1, 1) := by decide +kernel
theorem dL_law_719 : decode cL_law 719 = .ok (.iadd, 1) := by decide +kernel
theorem dL_law_720 : decode cL_law 720 = .ok (.iaload, 1) := by decide +kernel
theorem dL_law_721 : decode cL_law 721 = .ok (.aload_n 0, 1) := by decide +kernel
theorem dL_law_722 : decode cL_law 722 = .ok (.iload_n 3, 1) := by decide +kernel
theorem dL_law_723 : decode cL_law 723 = .ok (.iconst 2, 1) := by decide +kernel
theorem dL_law_724 : decode cL_law 724 = .ok (.iadd, 1) := by decide +kernel
theorem dL_law_725 : decode cL_law 725 = .ok (.iaload, 1) := by decide +kernel
theorem dL_law_726 : decode cL_law 726 = .ok (.invokevirtual 94, 3) := by decide +kernel
theorem dL_law_729 : decode cL_law 729 = .ok (.aload_n 2, 1) := by decide +kernel
theorem dL_law_730 : decode cL_law 730 = .ok (.aload_n 0, 1) := by decide +kernel
theorem dL_law_731 : decode cL_law 731 = .ok (.iload_n 3, 1) := by decide +kernel
theorem dL_law_732 : decode cL_law 732 = .ok (.iconst 1, 1) := by decide +kernel
theorem dL_law_733 : decode cL_law 733 = .ok (.iadd, 1) := by decide +kernel
theorem dL_law_734 : decode cL_law 734 = .ok (.iaload, 1) := by decide +kernel
theorem dL_law_735 : decode cL_law 735 = .ok (.aload_n 0, 1) := by decide +kernel
theorem dL_law_736 : decode cL_law 736 = .ok (.iload_n 3, 1) := by decide +kernel
theorem dL_law_737 : decode cL_law 737 = .ok (.iconst 2, 1) := by decide +kernel
theorem dL_law_738 : decode cL_law 738 = .ok (.iadd, 1) := by decide +kernel
theorem dL_law_739 : decode cL_law 739 = .ok (.iaload, 1) := by decide +kernel
theorem dL_law_740 : decode cL_law 740 = .ok (.invokevirtual 97, 3) := by decide +kernel
theorem dL_law_743 : decode cL_law 743 = .ok (.if_icmp .eq 701, 3) := by decide +kernel
theorem dL_law_746 : decode cL_law 746 = .ok (.iconst 0, 1) := by decide +kernel
theorem dL_law_747 : decode cL_law 747 = .ok (.ireturn, 1) := by decide +kernel
theorem dL_law_748 : decode cL_law 748 = .ok (.aload_n 1, 1) := by decide +kernel
theorem dL_law_749 : decode cL_law 749 = .ok (.aload_n 0, 1) := by decide +kernel
theorem dL_law_750 : decode cL_law 750 = .ok (.iload_n 3, 1) := by decide +kernel
theorem dL_law_751 : decode cL_law 751 = .ok (.iconst 1, 1) := by decide +kernel
theorem dL_law_752 : decode cL_law 752 = .ok (.iadd, 1) := by decide +kernel
theorem dL_law_753 : decode cL_law 753 = .ok (.iaload, 1) := by decide +kernel
theorem dL_law_754 : decode cL_law 754 = .ok (.aload_n 0, 1) := by decide +kernel
theorem dL_law_755 : decode cL_law 755 = .ok (.iload_n 3, 1) := by decide +kernel
theorem dL_law_756 : decode cL_law 756 = .ok (.iconst 2, 1) := by decide +kernel
theorem dL_law_757 : decode cL_law 757 = .ok (.iadd, 1) := by decide +kernel
theorem dL_law_758 : decode cL_law 758 = .ok (.iaload, 1) := by decide +kernel
theorem dL_law_759 : decode cL_law 759 = .ok (.aload_n 0, 1) := by decide +kernel
theorem dL_law_760 : decode cL_law 760 = .ok (.iload_n 3, 1) := by decide +kernel
theorem dL_law_761 : decode cL_law 761 = .ok (.iconst 3, 1) := by decide +kernel
theorem dL_law_762 : decode cL_law 762 = .ok (.iadd, 1) := by decide +kernel
theorem dL_law_763 : decode cL_law 763 = .ok (.iaload, 1) := by decide +kernel
theorem dL_law_764 : decode cL_law 764 = .ok (.invokevirtual 98, 3) := by decide +kernel
theorem dL_law_767 : decode cL_law 767 = .ok (.aload_n 2, 1) := by decide +kernel
theorem dL_law_768 : decode cL_law 768 = .ok (.aload_n 0, 1) := by decide +kernel
theorem dL_law_769 : decode cL_law 769 = .ok (.iload_n 3, 1) := by decide +kernel
theorem dL_law_770 : decode cL_law 770 = .ok (.iconst 1, 1) := by decide +kernel
theorem dL_law_771 : decode cL_law 771 = .ok (.iadd, 1) := by decide +kernel
theorem dL_law_772 : decode cL_law 772 = .ok (.iaload, 1) := by decide +kernel
theorem dL_law_773 : decode cL_law 773 = .ok (.aload_n 0, 1) := by decide +kernel
theorem dL_law_774 : decode cL_law 774 = .ok (.iload_n 3, 1) := by decide +kernel
theorem dL_law_775 : decode cL_law 775 = .ok (.iconst 2, 1) := by decide +kernel
theorem dL_law_776 : decode cL_law 776 = .ok (.iadd, 1) := by decide +kernel
theorem dL_law_777 : decode cL_law 777 = .ok (.iaload, 1) := by decide +kernel
theorem dL_law_778 : decode cL_law 778 = .ok (.aload_n 0, 1) := by decide +kernel
theorem dL_law_779 : decode cL_law 779 = .ok (.iload_n 3, 1) := by decide +kernel
theorem dL_law_780 : decode cL_law 780 = .ok (.iconst 3, 1) := by decide +kernel
theorem dL_law_781 : decode cL_law 781 = .ok (.iadd, 1) := by decide +kernel
theorem dL_law_782 : decode cL_law 782 = .ok (.iaload, 1) := by decide +kernel
theorem dL_law_783 : decode cL_law 783 = .ok (.invokevirtual 102, 3) := by decide +kernel
theorem dL_law_786 : decode cL_law 786 = .ok (.if_icmp .eq 658, 3) := by decide +kernel
theorem dL_law_789 : decode cL_law 789 = .ok (.iconst 0, 1) := by decide +kernel
theorem dL_law_790 : decode cL_law 790 = .ok (.ireturn, 1) := by decide +kernel
theorem dL_law_791 : decode cL_law 791 = .ok (.aload_n 1, 1) := by decide +kernel
theorem dL_law_792 : decode cL_law 792 = .ok (.aload_n 0, 1) := by decide +kernel
theorem dL_law_793 : decode cL_law 793 = .ok (.iload_n 3, 1) := by decide +kernel
theorem dL_law_794 : decode cL_law 794 = .ok (.iconst 1, 1) := by decide +kernel
theorem dL_law_795 : decode cL_law 795 = .ok (.iadd, 1) := by decide +kernel
theorem dL_law_796 : decode cL_law 796 = .ok (.iaload, 1) := by decide +kernel
theorem dL_law_797 : decode cL_law 797 = .ok (.invokevirtual 103, 3) := by decide +kernel
theorem dL_law_800 : decode cL_law 800 = .ok (.aload_n 2, 1) := by decide +kernel
theorem dL_law_801 : decode cL_law 801 = .ok (.aload_n 0, 1) := by decide +kernel
theorem dL_law_802 : decode cL_law 802 = .ok (.iload_n 3, 1) := by decide +kernel
theorem dL_law_803 : decode cL_law 803 = .ok (.iconst 1, 1) := by decide +kernel
theorem dL_law_804 : decode cL_law 804 = .ok (.iadd, 1) := by decide +kernel
theorem dL_law_805 : decode cL_law 805 = .ok (.iaload, 1) := by decide +kernel
theorem dL_law_806 : decode cL_law 806 = .ok (.invokevirtual 106, 3) := by decide +kernel
theorem dL_law_809 : decode cL_law 809 = .ok (.if_icmp .eq 635, 3) := by decide +kernel
theorem dL_law_812 : decode cL_law 812 = .ok (.iconst 0, 1) := by decide +kernel
theorem dL_law_813 : decode cL_law 813 = .ok (.ireturn, 1) := by decide +kernel
theorem dL_law_814 : decode cL_law 814 = .ok (.aload_n 1, 1) := by decide +kernel
theorem dL_law_815 : decode cL_law 815 = .ok (.aload_n 0, 1) := by decide +kernel
theorem dL_law_816 : decode cL_law 816 = .ok (.iload_n 3, 1) := by decide +kernel
theorem dL_law_817 : decode cL_law 817 = .ok (.iconst 1, 1) := by decide +kernel
theorem dL_law_818 : decode cL_law 818 = .ok (.iadd, 1) := by decide +kernel
theorem dL_law_819 : decode cL_law 819 = .ok (.iaload, 1) := by decide +kernel
theorem dL_law_820 : decode cL_law 820 = .ok (.invokevirtual 107, 3) := by decide +kernel
theorem dL_law_823 : decode cL_law 823 = .ok (.aload_n 2, 1) := by decide +kernel
theorem dL_law_824 : decode cL_law 824 = .ok (.aload_n 0, 1) := by decide +kernel
theorem dL_law_825 : decode cL_law 825 = .ok (.iload_n 3, 1) := by decide +kernel
theorem dL_law_826 : decode cL_law 826 = .ok (.iconst 1, 1) := by decide +kernel
theorem dL_law_827 : decode cL_law 827 = .ok (.iadd, 1) := by decide +kernel
theorem dL_law_828 : decode cL_law 828 = .ok (.iaload, 1) := by decide +kernel
theorem dL_law_829 : decode cL_law 829 = .ok (.invokevirtual 110, 3) := by decide +kernel
theorem dL_law_832 : decode cL_law 832 = .ok (.if_icmp .eq 612, 3) := by decide +kernel
theorem dL_law_835 : decode cL_law 835 = .ok (.iconst 0, 1) := by decide +kernel
theorem dL_law_836 : decode cL_law 836 = .ok (.ireturn, 1) := by decide +kernel
theorem dL_law_837 : decode cL_law 837 = .ok (.aload_n 1, 1) := by decide +kernel
theorem dL_law_838 : decode cL_law 838 = .ok (.aload_n 0, 1) := by decide +kernel
theorem dL_law_839 : decode cL_law 839 = .ok (.iload_n 3, 1) := by decide +kernel
theorem dL_law_840 : decode cL_law 840 = .ok (.iconst 1, 1) := by decide +kernel
theorem dL_law_841 : decode cL_law 841 = .ok (.iadd, 1) := by decide +kernel
theorem dL_law_842 : decode cL_law 842 = .ok (.iaload, 1) := by decide +kernel
theorem dL_law_843 : decode cL_law 843 = .ok (.invokevirtual 111, 3) := by decide +kernel
theorem dL_law_846 : decode cL_law 846 = .ok (.aload_n 2, 1) := by decide +kernel
theorem dL_law_847 : decode cL_law 847 = .ok (.aload_n 0, 1) := by decide +kernel
theorem dL_law_848 : decode cL_law 848 = .ok (.iload_n 3, 1) := by decide +kernel
theorem dL_law_849 : decode cL_law 849 = .ok (.iconst 1, 1) := by decide +kernel
theorem dL_law_850 : decode cL_law 850 = .ok (.iadd, 1) := by decide +kernel
theorem dL_law_851 : decode cL_law 851 = .ok (.iaload, 1) := by decide +kernel
theorem dL_law_852 : decode cL_law 852 = .ok (.invokevirtual 114, 3) := by decide +kernel
theorem dL_law_855 : decode cL_law 855 = .ok (.if_icmp .eq 589, 3) := by decide +kernel
theorem dL_law_858 : decode cL_law 858 = .ok (.iconst 0, 1) := by decide +kernel
theorem dL_law_859 : decode cL_law 859 = .ok (.ireturn, 1) := by decide +kernel
theorem dL_law_860 : decode cL_law 860 = .ok (.aload_n 1, 1) := by decide +kernel
theorem dL_law_861 : decode cL_law 861 = .ok (.aload_n 0, 1) := by decide +kernel
theorem dL_law_862 : decode cL_law 862 = .ok (.iload_n 3, 1) := by decide +kernel
theorem dL_law_863 : decode cL_law 863 = .ok (.iconst 1, 1) := by decide +kernel
theorem dL_law_864 : decode cL_law 864 = .ok (.iadd, 1) := by decide +kernel
theorem dL_law_865 : decode cL_law 865 = .ok (.iaload, 1) := by decide +kernel
theorem dL_law_866 : decode cL_law 866 = .ok (.aload_n 0, 1) := by decide +kernel
theorem dL_law_867 : decode cL_law 867 = .ok (.iload_n 3, 1) := by decide +kernel
theorem dL_law_868 : decode cL_law 868 = .ok (.iconst 2, 1) := by decide +kernel
theorem dL_law_869 : decode cL_law 869 = .ok (.iadd, 1) := by decide +kernel
theorem dL_law_870 : decode cL_law 870 = .ok (.iaload, 1) := by decide +kernel
theorem dL_law_871 : decode cL_law 871 = .ok (.invokevirtual 115, 3) := by decide +kernel
theorem dL_law_874 : decode cL_law 874 = .ok (.aload_n 2, 1) := by decide +kernel
theorem dL_law_875 : decode cL_law 875 = .ok (.aload_n 0, 1) := by decide +kernel
theorem dL_law_876 : decode cL_law 876 = .ok (.iload_n 3, 1) := by decide +kernel
theorem dL_law_877 : decode cL_law 877 = .ok (.iconst 1, 1) := by decide +kernel
theorem dL_law_878 : decode cL_law 878 = .ok (.iadd, 1) := by decide +kernel
theorem dL_law_879 : decode cL_law 879 = .ok (.iaload, 1) := by decide +kernel
theorem dL_law_880 : decode cL_law 880 = .ok (.aload_n 0, 1) := by decide +kernel
theorem dL_law_881 : decode cL_law 881 = .ok (.iload_n 3, 1) := by decide +kernel
theorem dL_law_882 : decode cL_law 882 = .ok (.iconst 2, 1) := by decide +kernel
theorem dL_law_883 : decode cL_law 883 = .ok (.iadd, 1) := by decide +kernel
theorem dL_law_884 : decode cL_law 884 = .ok (.iaload, 1) := by decide +kernel
theorem dL_law_885 : decode cL_law 885 = .ok (.invokevirtual 118, 3) := by decide +kernel
theorem dL_law_888 : decode cL_law 888 = .ok (.if_icmp .eq 556, 3) := by decide +kernel
theorem dL_law_891 : decode cL_law 891 = .ok (.iconst 0, 1) := by decide +kernel
theorem dL_law_892 : decode cL_law 892 = .ok (.ireturn, 1) := by decide +kernel
theorem dL_law_893 : decode cL_law 893 = .ok (.aload_n 1, 1) := by decide +kernel
theorem dL_law_894 : decode cL_law 894 = .ok (.aload_n 0, 1) := by decide +kernel
theorem dL_law_895 : decode cL_law 895 = .ok (.iload_n 3, 1) := by decide +kernel
theorem dL_law_896 : decode cL_law 896 = .ok (.iconst 1, 1) := by decide +kernel
theorem dL_law_897 : decode cL_law 897 = .ok (.iadd, 1) := by decide +kernel
theorem dL_law_898 : decode cL_law 898 = .ok (.iaload, 1) := by decide +kernel
theorem dL_law_899 : decode cL_law 899 = .ok (.invokevirtual 119, 3) := by decide +kernel
theorem dL_law_902 : decode cL_law 902 = .ok (.aload_n 2, 1) := by decide +kernel
theorem dL_law_903 : decode cL_law 903 = .ok (.aload_n 0, 1) := by decide +kernel
theorem dL_law_904 : decode cL_law 904 = .ok (.iload_n 3, 1) := by decide +kernel
theorem dL_law_905 : decode cL_law 905 = .ok (.iconst 1, 1) := by decide +kernel
theorem dL_law_906 : decode cL_law 906 = .ok (.iadd, 1) := by decide +kernel
theorem dL_law_907 : decode cL_law 907 = .ok (.iaload, 1) := by decide +kernel
theorem dL_law_908 : decode cL_law 908 = .ok (.invokevirtual 122, 3) := by decide +kernel
theorem dL_law_911 : decode cL_law 911 = .ok (.if_icmp .eq 533, 3) := by decide +kernel
theorem dL_law_914 : decode cL_law 914 = .ok (.iconst 0, 1) := by decide +kernel
theorem dL_law_915 : decode cL_law 915 = .ok (.ireturn, 1) := by decide +kernel
theorem dL_law_916 : decode cL_law 916 = .ok (.aload_n 1, 1) := by decide +kernel
theorem dL_law_917 : decode cL_law 917 = .ok (.aload_n 0, 1) := by decide +kernel
theorem dL_law_918 : decode cL_law 918 = .ok (.iload_n 3, 1) := by decide +kernel
theorem dL_law_919 : decode cL_law 919 = .ok (.iconst 1, 1) := by decide +kernel
theorem dL_law_920 : decode cL_law 920 = .ok (.iadd, 1) := by decide +kernel
theorem dL_law_921 : decode cL_law 921 = .ok (.iaload, 1) := by decide +kernel
theorem dL_law_922 : decode cL_law 922 = .ok (.invokevirtual 123, 3) := by decide +kernel
theorem dL_law_925 : decode cL_law 925 = .ok (.aload_n 2, 1) := by decide +kernel
theorem dL_law_926 : decode cL_law 926 = .ok (.aload_n 0, 1) := by decide +kernel
theorem dL_law_927 : decode cL_law 927 = .ok (.iload_n 3, 1) := by decide +kernel
theorem dL_law_928 : decode cL_law 928 = .ok (.iconst 1, 1) := by decide +kernel
theorem dL_law_929 : decode cL_law 929 = .ok (.iadd, 1) := by decide +kernel
theorem dL_law_930 : decode cL_law 930 = .ok (.iaload, 1) := by decide +kernel
theorem dL_law_931 : decode cL_law 931 = .ok (.invokevirtual 126, 3) := by decide +kernel
theorem dL_law_934 : decode cL_law 934 = .ok (.if_icmp .eq 510, 3) := by decide +kernel
theorem dL_law_937 : decode cL_law 937 = .ok (.iconst 0, 1) := by decide +kernel
theorem dL_law_938 : decode cL_law 938 = .ok (.ireturn, 1) := by decide +kernel
theorem dL_law_939 : decode cL_law 939 = .ok (.aload_n 1, 1) := by decide +kernel
theorem dL_law_940 : decode cL_law 940 = .ok (.aload_n 0, 1) := by decide +kernel
theorem dL_law_941 : decode cL_law 941 = .ok (.iload_n 3, 1) := by decide +kernel
theorem dL_law_942 : decode cL_law 942 = .ok (.iconst 1, 1) := by decide +kernel
theorem dL_law_943 : decode cL_law 943 = .ok (.iadd, 1) := by decide +kernel
theorem dL_law_944 : decode cL_law 944 = .ok (.iaload, 1) := by decide +kernel
theorem dL_law_945 : decode cL_law 945 = .ok (.aload_n 0, 1) := by decide +kernel
theorem dL_law_946 : decode cL_law 946 = .ok (.iload_n 3, 1) := by decide +kernel
theorem dL_law_947 : decode cL_law 947 = .ok (.iconst 2, 1) := by decide +kernel
theorem dL_law_948 : decode cL_law 948 = .ok (.iadd, 1) := by decide +kernel
theorem dL_law_949 : decode cL_law 949 = .ok (.iaload, 1) := by decide +kernel
theorem dL_law_950 : decode cL_law 950 = .ok (.invokevirtual 127, 3) := by decide +kernel
theorem dL_law_953 : decode cL_law 953 = .ok (.aload_n 2, 1) := by decide +kernel
theorem dL_law_954 : decode cL_law 954 = .ok (.aload_n 0, 1) := by decide +kernel
theorem dL_law_955 : decode cL_law 955 = .ok (.iload_n 3, 1) := by decide +kernel
theorem dL_law_956 : decode cL_law 956 = .ok (.iconst 1, 1) := by decide +kernel
theorem dL_law_957 : decode cL_law 957 = .ok (.iadd, 1) := by decide +kernel
theorem dL_law_958 : decode cL_law 958 = .ok (.iaload, 1) := by decide +kernel
theorem dL_law_959 : decode cL_law 959 = .ok (.aload_n 0, 1) := by decide +kernel
theorem dL_law_960 : decode cL_law 960 = .ok (.iload_n 3, 1) := by decide +kernel
theorem dL_law_961 : decode cL_law 961 = .ok (.iconst 2, 1) := by decide +kernel
theorem dL_law_962 : decode cL_law 962 = .ok (.iadd, 1) := by decide +kernel
theorem dL_law_963 : decode cL_law 963 = .ok (.iaload, 1) := by decide +kernel
theorem dL_law_964 : decode cL_law 964 = .ok (.invokevirtual 130, 3) := by decide +kernel
theorem dL_law_967 : decode cL_law 967 = .ok (.if_icmp .eq 477, 3) := by decide +kernel
theorem dL_law_970 : decode cL_law 970 = .ok (.iconst 0, 1) := by decide +kernel
theorem dL_law_971 : decode cL_law 971 = .ok (.ireturn, 1) := by decide +kernel
theorem dL_law_972 : decode cL_law 972 = .ok (.aload_n 1, 1) := by decide +kernel
theorem dL_law_973 : decode cL_law 973 = .ok (.aload_n 0, 1) := by decide +kernel
theorem dL_law_974 : decode cL_law 974 = .ok (.iload_n 3, 1) := by decide +kernel
theorem dL_law_975 : decode cL_law 975 = .ok (.iconst 1, 1) := by decide +kernel
theorem dL_law_976 : decode cL_law 976 = .ok (.iadd, 1) := by decide +kernel
theorem dL_law_977 : decode cL_law 977 = .ok (.iaload, 1) := by decide +kernel
theorem dL_law_978 : decode cL_law 978 = .ok (.aload_n 0, 1) := by decide +kernel
theorem dL_law_979 : decode cL_law 979 = .ok (.iload_n 3, 1) := by decide +kernel
theorem dL_law_980 : decode cL_law 980 = .ok (.iconst 2, 1) := by decide +kernel
theorem dL_law_981 : decode cL_law 981 = .ok (.iadd, 1) := by decide +kernel
theorem dL_law_982 : decode cL_law 982 = .ok (.iaload, 1) := by decide +kernel
theorem dL_law_983 : decode cL_law 983 = .ok (.invokevirtual 131, 3) := by decide +kernel
theorem dL_law_986 : decode cL_law 986 = .ok (.aload_n 2, 1) := by decide +kernel
theorem dL_law_987 : decode cL_law 987 = .ok (.aload_n 0, 1) := by decide +kernel
theorem dL_law_988 : decode cL_law 988 = .ok (.iload_n 3, 1) := by decide +kernel
theorem dL_law_989 : decode cL_law 989 = .ok (.iconst 1, 1) := by decide +kernel
theorem dL_law_990 : decode cL_law 990 = .ok (.iadd, 1) := by decide +kernel
theorem dL_law_991 : decode cL_law 991 = .ok (.iaload, 1) := by decide +kernel
theorem dL_law_992 : decode cL_law 992 = .ok (.aload_n 0, 1) := by decide +kernel
theorem dL_law_993 : decode cL_law 993 = .ok (.iload_n 3, 1) := by decide +kernel
theorem dL_law_994 : decode cL_law 994 = .ok (.iconst 2, 1) := by decide +kernel
theorem dL_law_995 : decode cL_law 995 = .ok (.iadd, 1) := by decide +kernel
theorem dL_law_996 : decode cL_law 996 = .ok (.iaload, 1) := by decide +kernel
theorem dL_law_997 : decode cL_law 997 = .ok (.invokevirtual 134, 3) := by decide +kernel
theorem dL_law_1000 : decode cL_law 1000 = .ok (.if_icmp .eq 444, 3) := by decide +kernel
theorem dL_law_1003 : decode cL_law 1003 = .ok (.iconst 0, 1) := by decide +kernel
theorem dL_law_1004 : decode cL_law 1004 = .ok (.ireturn, 1) := by decide +kernel
theorem dL_law_1005 : decode cL_law 1005 = .ok (.aload_n 1, 1) := by decide +kernel
theorem dL_law_1006 : decode cL_law 1006 = .ok (.aload_n 0, 1) := by decide +kernel
theorem dL_law_1007 : decode cL_law 1007 = .ok (.iload_n 3, 1) := by decide +kernel
theorem dL_law_1008 : decode cL_law 1008 = .ok (.iconst 1, 1) := by decide +kernel
theorem dL_law_1009 : decode cL_law 1009 = .ok (.iadd, 1) := by decide +kernel
theorem dL_law_1010 : decode cL_law 1010 = .ok (.iaload, 1) := by decide +kernel
theorem dL_law_1011 : decode cL_law 1011 = .ok (.aload_n 0, 1) := by decide +kernel
theorem dL_law_1012 : decode cL_law 1012 = .ok (.iload_n 3, 1) := by decide +kernel
theorem dL_law_1013 : decode cL_law 1013 = .ok (.iconst 2, 1) := by decide +kernel
theorem dL_law_1014 : decode cL_law 1014 = .ok (.iadd, 1) := by decide +kernel
theorem dL_law_1015 : decode cL_law 1015 = .ok (.iaload, 1) := by decide +kernel
theorem dL_law_1016 : decode cL_law 1016 = .ok (.aload_n 0, 1) := by decide +kernel
theorem dL_law_1017 : decode cL_law 1017 = .ok (.iload_n 3, 1) := by decide +kernel
theorem dL_law_1018 : decode cL_law 1018 = .ok (.iconst 3, 1) := by decide +kernel
theorem dL_law_1019 : decode cL_law 1019 = .ok (.iadd, 1) := by decide +kernel
theorem dL_law_1020 : decode cL_law 1020 = .ok (.iaload, 1) := by decide +kernel
theorem dL_law_1021 : decode cL_law 1021 = .ok (.invokevirtual 135, 3) := by decide +kernel
theorem dL_law_1024 : decode cL_law 1024 = .ok (.aload_n 2, 1) := by decide +kernel
theorem dL_law_1025 : decode cL_law 1025 = .ok (.aload_n 0, 1) := by decide +kernel
theorem dL_law_1026 : decode cL_law 1026 = .ok (.iload_n 3, 1) := by decide +kernel
theorem dL_law_1027 : decode cL_law 1027 = .ok (.iconst 1, 1) := by decide +kernel
theorem dL_law_1028 : decode cL_law 1028 = .ok (.iadd, 1) := by decide +kernel
theorem dL_law_1029 : decode cL_law 1029 = .ok (.iaload, 1) := by decide +kernel
theorem dL_law_1030 : decode cL_law 1030 = .ok (.aload_n 0, 1) := by decide +kernel
theorem dL_law_1031 : decode cL_law 1031 = .ok (.iload_n 3, 1) := by decide +kernel
theorem dL_law_1032 : decode cL_law 1032 = .ok (.iconst 2, 1) := by decide +kernel
theorem dL_law_1033 : decode cL_law 1033 = .ok (.iadd, 1) := by decide +kernel
theorem dL_law_1034 : decode cL_law 1034 = .ok (.iaload, 1) := by decide +kernel
theorem dL_law_1035 : decode cL_law 1035 = .ok (.aload_n 0, 1) := by decide +kernel
theorem dL_law_1036 : decode cL_law 1036 = .ok (.iload_n 3, 1) := by decide +kernel
theorem dL_law_1037 : decode cL_law 1037 = .ok (.iconst 3, 1) := by decide +kernel
theorem dL_law_1038 : decode cL_law 1038 = .ok (.iadd, 1) := by decide +kernel
theorem dL_law_1039 : decode cL_law 1039 = .ok (.iaload, 1) := by decide +kernel
theorem dL_law_1040 : decode cL_law 1040 = .ok (.invokevirtual 138, 3) := by decide +kernel
theorem dL_law_1043 : decode cL_law 1043 = .ok (.if_icmp .eq 401, 3) := by decide +kernel
theorem dL_law_1046 : decode cL_law 1046 = .ok (.iconst 0, 1) := by decide +kernel
theorem dL_law_1047 : decode cL_law 1047 = .ok (.ireturn, 1) := by decide +kernel
theorem dL_law_1048 : decode cL_law 1048 = .ok (.aload_n 1, 1) := by decide +kernel
theorem dL_law_1049 : decode cL_law 1049 = .ok (.invokevirtual 139, 3) := by decide +kernel
theorem dL_law_1052 : decode cL_law 1052 = .ok (.aload_n 2, 1) := by decide +kernel
theorem dL_law_1053 : decode cL_law 1053 = .ok (.invokevirtual 142, 3) := by decide +kernel
theorem dL_law_1056 : decode cL_law 1056 = .ok (.if_icmp .eq 388, 3) := by decide +kernel
theorem dL_law_1059 : decode cL_law 1059 = .ok (.iconst 0, 1) := by decide +kernel
theorem dL_law_1060 : decode cL_law 1060 = .ok (.ireturn, 1) := by decide +kernel
theorem dL_law_1061 : decode cL_law 1061 = .ok (.aload_n 1, 1) := by decide +kernel
theorem dL_law_1062 : decode cL_law 1062 = .ok (.aload_n 0, 1) := by decide +kernel
theorem dL_law_1063 : decode cL_law 1063 = .ok (.iload_n 3, 1) := by decide +kernel
theorem dL_law_1064 : decode cL_law 1064 = .ok (.iconst 1, 1) := by decide +kernel
theorem dL_law_1065 : decode cL_law 1065 = .ok (.iadd, 1) := by decide +kernel
theorem dL_law_1066 : decode cL_law 1066 = .ok (.iaload, 1) := by decide +kernel
theorem dL_law_1067 : decode cL_law 1067 = .ok (.invokevirtual 143, 3) := by decide +kernel
theorem dL_law_1070 : decode cL_law 1070 = .ok (.aload_n 2, 1) := by decide +kernel
theorem dL_law_1071 : decode cL_law 1071 = .ok (.aload_n 0, 1) := by decide +kernel
theorem dL_law_1072 : decode cL_law 1072 = .ok (.iload_n 3, 1) := by decide +kernel
theorem dL_law_1073 : decode cL_law 1073 = .ok (.iconst 1, 1) := by decide +kernel
theorem dL_law_1074 : decode cL_law 1074 = .ok (.iadd, 1) := by decide +kernel
theorem dL_law_1075 : decode cL_law 1075 = .ok (.iaload, 1) := by decide +kernel
theorem dL_law_1076 : decode cL_law 1076 = .ok (.invokevirtual 146, 3) := by decide +kernel
theorem dL_law_1079 : decode cL_law 1079 = .ok (.if_icmp .eq 365, 3) := by decide +kernel
theorem dL_law_1082 : decode cL_law 1082 = .ok (.iconst 0, 1) := by decide +kernel
theorem dL_law_1083 : decode cL_law 1083 = .ok (.ireturn, 1) := by decide +kernel
theorem dL_law_1084 : decode cL_law 1084 = .ok (.aload_n 1, 1) := by decide +kernel
theorem dL_law_1085 : decode cL_law 1085 = .ok (.aload_n 0, 1) := by decide +kernel
theorem dL_law_1086 : decode cL_law 1086 = .ok (.iload_n 3, 1) := by decide +kernel
theorem dL_law_1087 : decode cL_law 1087 = .ok (.iconst 1, 1) := by decide +kernel
theorem dL_law_1088 : decode cL_law 1088 = .ok (.iadd, 1) := by decide +kernel
theorem dL_law_1089 : decode cL_law 1089 = .ok (.iaload, 1) := by decide +kernel
theorem dL_law_1090 : decode cL_law 1090 = .ok (.invokevirtual 147, 3) := by decide +kernel
theorem dL_law_1093 : decode cL_law 1093 = .ok (.aload_n 2, 1) := by decide +kernel
theorem dL_law_1094 : decode cL_law 1094 = .ok (.aload_n 0, 1) := by decide +kernel
theorem dL_law_1095 : decode cL_law 1095 = .ok (.iload_n 3, 1) := by decide +kernel
theorem dL_law_1096 : decode cL_law 1096 = .ok (.iconst 1, 1) := by decide +kernel
theorem dL_law_1097 : decode cL_law 1097 = .ok (.iadd, 1) := by decide +kernel
theorem dL_law_1098 : decode cL_law 1098 = .ok (.iaload, 1) := by decide +kernel
theorem dL_law_1099 : decode cL_law 1099 = .ok (.invokevirtual 150, 3) := by decide +kernel
theorem dL_law_1102 : decode cL_law 1102 = .ok (.if_icmp .eq 342, 3) := by decide +kernel
theorem dL_law_1105 : decode cL_law 1105 = .ok (.iconst 0, 1) := by decide +kernel
theorem dL_law_1106 : decode cL_law 1106 = .ok (.ireturn, 1) := by decide +kernel
theorem dL_law_1107 : decode cL_law 1107 = .ok (.aload_n 1, 1) := by decide +kernel
theorem dL_law_1108 : decode cL_law 1108 = .ok (.aload_n 0, 1) := by decide +kernel
theorem dL_law_1109 : decode cL_law 1109 = .ok (.iload_n 3, 1) := by decide +kernel
theorem dL_law_1110 : decode cL_law 1110 = .ok (.iconst 1, 1) := by decide +kernel
theorem dL_law_1111 : decode cL_law 1111 = .ok (.iadd, 1) := by decide +kernel
theorem dL_law_1112 : decode cL_law 1112 = .ok (.iaload, 1) := by decide +kernel
theorem dL_law_1113 : decode cL_law 1113 = .ok (.invokevirtual 151, 3) := by decide +kernel
theorem dL_law_1116 : decode cL_law 1116 = .ok (.aload_n 2, 1) := by decide +kernel
theorem dL_law_1117 : decode cL_law 1117 = .ok (.aload_n 0, 1) := by decide +kernel
theorem dL_law_1118 : decode cL_law 1118 = .ok (.iload_n 3, 1) := by decide +kernel
theorem dL_law_1119 : decode cL_law 1119 = .ok (.iconst 1, 1) := by decide +kernel
theorem dL_law_1120 : decode cL_law 1120 = .ok (.iadd, 1) := by decide +kernel
theorem dL_law_1121 : decode cL_law 1121 = .ok (.iaload, 1) := by decide +kernel
theorem dL_law_1122 : decode cL_law 1122 = .ok (.invokevirtual 154, 3) := by decide +kernel
theorem dL_law_1125 : decode cL_law 1125 = .ok (.if_icmp .eq 319, 3) := by decide +kernel
theorem dL_law_1128 : decode cL_law 1128 = .ok (.iconst 0, 1) := by decide +kernel
theorem dL_law_1129 : decode cL_law 1129 = .ok (.ireturn, 1) := by decide +kernel
theorem dL_law_1130 : decode cL_law 1130 = .ok (.aload_n 1, 1) := by decide +kernel
theorem dL_law_1131 : decode cL_law 1131 = .ok (.aload_n 0, 1) := by decide +kernel
theorem dL_law_1132 : decode cL_law 1132 = .ok (.iload_n 3, 1) := by decide +kernel
theorem dL_law_1133 : decode cL_law 1133 = .ok (.iconst 1, 1) := by decide +kernel
theorem dL_law_1134 : decode cL_law 1134 = .ok (.iadd, 1) := by decide +kernel
theorem dL_law_1135 : decode cL_law 1135 = .ok (.iaload, 1) := by decide +kernel
theorem dL_law_1136 : decode cL_law 1136 = .ok (.aload_n 0, 1) := by decide +kernel
theorem dL_law_1137 : decode cL_law 1137 = .ok (.iload_n 3, 1) := by decide +kernel
theorem dL_law_1138 : decode cL_law 1138 = .ok (.iconst 2, 1) := by decide +kernel
theorem dL_law_1139 : decode cL_law 1139 = .ok (.iadd, 1) := by decide +kernel
theorem dL_law_1140 : decode cL_law 1140 = .ok (.iaload, 1) := by decide +kernel
theorem dL_law_1141 : decode cL_law 1141 = .ok (.invokevirtual 155, 3) := by decide +kernel
theorem dL_law_1144 : decode cL_law 1144 = .ok (.aload_n 2, 1) := by decide +kernel
theorem dL_law_1145 : decode cL_law 1145 = .ok (.aload_n 0, 1) := by decide +kernel
theorem dL_law_1146 : decode cL_law 1146 = .ok (.iload_n 3, 1) := by decide +kernel
theorem dL_law_1147 : decode cL_law 1147 = .ok (.iconst 1, 1) := by decide +kernel
theorem dL_law_1148 : decode cL_law 1148 = .ok (.iadd, 1) := by decide +kernel
theorem dL_law_1149 : decode cL_law 1149 = .ok (.iaload, 1) := by decide +kernel
theorem dL_law_1150 : decode cL_law 1150 = .ok (.aload_n 0, 1) := by decide +kernel
theorem dL_law_1151 : decode cL_law 1151 = .ok (.iload_n 3, 1) := by decide +kernel
theorem dL_law_1152 : decode cL_law 1152 = .ok (.iconst 2, 1) := by decide +kernel
theorem dL_law_1153 : decode cL_law 1153 = .ok (.iadd, 1) := by decide +kernel
theorem dL_law_1154 : decode cL_law 1154 = .ok (.iaload, 1) := by decide +kernel
theorem dL_law_1155 : decode cL_law 1155 = .ok (.invokevirtual 158, 3) := by decide +kernel
theorem dL_law_1158 : decode cL_law 1158 = .ok (.if_icmp .eq 286, 3) := by decide +kernel
theorem dL_law_1161 : decode cL_law 1161 = .ok (.iconst 0, 1) := by decide +kernel
theorem dL_law_1162 : decode cL_law 1162 = .ok (.ireturn, 1) := by decide +kernel
theorem dL_law_1163 : decode cL_law 1163 = .ok (.aload_n 1, 1) := by decide +kernel
theorem dL_law_1164 : decode cL_law 1164 = .ok (.aload_n 0, 1) := by decide +kernel
theorem dL_law_1165 : decode cL_law 1165 = .ok (.iload_n 3, 1) := by decide +kernel
theorem dL_law_1166 : decode cL_law 1166 = .ok (.iconst 1, 1) := by decide +kernel
theorem dL_law_1167 : decode cL_law 1167 = .ok (.iadd, 1) := by decide +kernel
theorem dL_law_1168 : decode cL_law 1168 = .ok (.iaload, 1) := by decide +kernel
theorem dL_law_1169 : decode cL_law 1169 = .ok (.aload_n 0, 1) := by decide +kernel
theorem dL_law_1170 : decode cL_law 1170 = .ok (.iload_n 3, 1) := by decide +kernel
theorem dL_law_1171 : decode cL_law 1171 = .ok (.iconst 2, 1) := by decide +kernel
theorem dL_law_1172 : decode cL_law 1172 = .ok (.iadd, 1) := by decide +kernel
theorem dL_law_1173 : decode cL_law 1173 = .ok (.iaload, 1) := by decide +kernel
theorem dL_law_1174 : decode cL_law 1174 = .ok (.invokevirtual 159, 3) := by decide +kernel
theorem dL_law_1177 : decode cL_law 1177 = .ok (.aload_n 2, 1) := by decide +kernel
theorem dL_law_1178 : decode cL_law 1178 = .ok (.aload_n 0, 1) := by decide +kernel
theorem dL_law_1179 : decode cL_law 1179 = .ok (.iload_n 3, 1) := by decide +kernel
theorem dL_law_1180 : decode cL_law 1180 = .ok (.iconst 1, 1) := by decide +kernel
theorem dL_law_1181 : decode cL_law 1181 = .ok (.iadd, 1) := by decide +kernel
theorem dL_law_1182 : decode cL_law 1182 = .ok (.iaload, 1) := by decide +kernel
theorem dL_law_1183 : decode cL_law 1183 = .ok (.aload_n 0, 1) := by decide +kernel
theorem dL_law_1184 : decode cL_law 1184 = .ok (.iload_n 3, 1) := by decide +kernel
theorem dL_law_1185 : decode cL_law 1185 = .ok (.iconst 2, 1) := by decide +kernel
theorem dL_law_1186 : decode cL_law 1186 = .ok (.iadd, 1) := by decide +kernel
theorem dL_law_1187 : decode cL_law 1187 = .ok (.iaload, 1) := by decide +kernel
theorem dL_law_1188 : decode cL_law 1188 = .ok (.invokevirtual 162, 3) := by decide +kernel
theorem dL_law_1191 : decode cL_law 1191 = .ok (.if_icmp .eq 253, 3) := by decide +kernel
theorem dL_law_1194 : decode cL_law 1194 = .ok (.iconst 0, 1) := by decide +kernel
theorem dL_law_1195 : decode cL_law 1195 = .ok (.ireturn, 1) := by decide +kernel
theorem dL_law_1196 : decode cL_law 1196 = .ok (.aload_n 1, 1) := by decide +kernel
theorem dL_law_1197 : decode cL_law 1197 = .ok (.aload_n 0, 1) := by decide +kernel
theorem dL_law_1198 : decode cL_law 1198 = .ok (.iload_n 3, 1) := by decide +kernel
theorem dL_law_1199 : decode cL_law 1199 = .ok (.iconst 1, 1) := by decide +kernel
theorem dL_law_1200 : decode cL_law 1200 = .ok (.iadd, 1) := by decide +kernel
theorem dL_law_1201 : decode cL_law 1201 = .ok (.iaload, 1) := by decide +kernel
theorem dL_law_1202 : decode cL_law 1202 = .ok (.invokevirtual 163, 3) := by decide +kernel
theorem dL_law_1205 : decode cL_law 1205 = .ok (.aload_n 2, 1) := by decide +kernel
theorem dL_law_1206 : decode cL_law 1206 = .ok (.aload_n 0, 1) := by decide +kernel
theorem dL_law_1207 : decode cL_law 1207 = .ok (.iload_n 3, 1) := by decide +kernel
theorem dL_law_1208 : decode cL_law 1208 = .ok (.iconst 1, 1) := by decide +kernel
theorem dL_law_1209 : decode cL_law 1209 = .ok (.iadd, 1) := by decide +kernel
theorem dL_law_1210 : decode cL_law 1210 = .ok (.iaload, 1) := by decide +kernel
theorem dL_law_1211 : decode cL_law 1211 = .ok (.invokevirtual 166, 3) := by decide +kernel
theorem dL_law_1214 : decode cL_law 1214 = .ok (.if_icmp .eq 230, 3) := by decide +kernel
theorem dL_law_1217 : decode cL_law 1217 = .ok (.iconst 0, 1) := by decide +kernel
theorem dL_law_1218 : decode cL_law 1218 = .ok (.ireturn, 1) := by decide +kernel
theorem dL_law_1219 : decode cL_law 1219 = .ok (.aload_n 1, 1) := by decide +kernel
theorem dL_law_1220 : decode cL_law 1220 = .ok (.aload_n 0, 1) := by decide +kernel
theorem dL_law_1221 : decode cL_law 1221 = .ok (.iload_n 3, 1) := by decide +kernel
theorem dL_law_1222 : decode cL_law 1222 = .ok (.iconst 1, 1) := by decide +kernel
theorem dL_law_1223 : decode cL_law 1223 = .ok (.iadd, 1) := by decide +kernel
theorem dL_law_1224 : decode cL_law 1224 = .ok (.iaload, 1) := by decide +kernel
theorem dL_law_1225 : decode cL_law 1225 = .ok (.invokevirtual 167, 3) := by decide +kernel
theorem dL_law_1228 : decode cL_law 1228 = .ok (.aload_n 2, 1) := by decide +kernel
theorem dL_law_1229 : decode cL_law 1229 = .ok (.aload_n 0, 1) := by decide +kernel
theorem dL_law_1230 : decode cL_law 1230 = .ok (.iload_n 3, 1) := by decide +kernel
theorem dL_law_1231 : decode cL_law 1231 = .ok (.iconst 1, 1) := by decide +kernel
theorem dL_law_1232 : decode cL_law 1232 = .ok (.iadd, 1) := by decide +kernel
theorem dL_law_1233 : decode cL_law 1233 = .ok (.iaload, 1) := by decide +kernel
theorem dL_law_1234 : decode cL_law 1234 = .ok (.invokevirtual 170, 3) := by decide +kernel
theorem dL_law_1237 : decode cL_law 1237 = .ok (.if_icmp .eq 207, 3) := by decide +kernel
theorem dL_law_1240 : decode cL_law 1240 = .ok (.iconst 0, 1) := by decide +kernel
theorem dL_law_1241 : decode cL_law 1241 = .ok (.ireturn, 1) := by decide +kernel
theorem dL_law_1242 : decode cL_law 1242 = .ok (.aload_n 1, 1) := by decide +kernel
theorem dL_law_1243 : decode cL_law 1243 = .ok (.aload_n 0, 1) := by decide +kernel
theorem dL_law_1244 : decode cL_law 1244 = .ok (.iload_n 3, 1) := by decide +kernel
theorem dL_law_1245 : decode cL_law 1245 = .ok (.iconst 1, 1) := by decide +kernel
theorem dL_law_1246 : decode cL_law 1246 = .ok (.iadd, 1) := by decide +kernel
theorem dL_law_1247 : decode cL_law 1247 = .ok (.iaload, 1) := by decide +kernel
theorem dL_law_1248 : decode cL_law 1248 = .ok (.invokevirtual 171, 3) := by decide +kernel
theorem dL_law_1251 : decode cL_law 1251 = .ok (.aload_n 2, 1) := by decide +kernel
theorem dL_law_1252 : decode cL_law 1252 = .ok (.aload_n 0, 1) := by decide +kernel
theorem dL_law_1253 : decode cL_law 1253 = .ok (.iload_n 3, 1) := by decide +kernel
theorem dL_law_1254 : decode cL_law 1254 = .ok (.iconst 1, 1) := by decide +kernel
theorem dL_law_1255 : decode cL_law 1255 = .ok (.iadd, 1) := by decide +kernel
theorem dL_law_1256 : decode cL_law 1256 = .ok (.iaload, 1) := by decide +kernel
theorem dL_law_1257 : decode cL_law 1257 = .ok (.invokevirtual 174, 3) := by decide +kernel
theorem dL_law_1260 : decode cL_law 1260 = .ok (.if_icmp .eq 184, 3) := by decide +kernel
theorem dL_law_1263 : decode cL_law 1263 = .ok (.iconst 0, 1) := by decide +kernel
theorem dL_law_1264 : decode cL_law 1264 = .ok (.ireturn, 1) := by decide +kernel
theorem dL_law_1265 : decode cL_law 1265 = .ok (.aload_n 1, 1) := by decide +kernel
theorem dL_law_1266 : decode cL_law 1266 = .ok (.aload_n 0, 1) := by decide +kernel
theorem dL_law_1267 : decode cL_law 1267 = .ok (.iload_n 3, 1) := by decide +kernel
theorem dL_law_1268 : decode cL_law 1268 = .ok (.iconst 1, 1) := by decide +kernel
theorem dL_law_1269 : decode cL_law 1269 = .ok (.iadd, 1) := by decide +kernel
theorem dL_law_1270 : decode cL_law 1270 = .ok (.iaload, 1) := by decide +kernel
theorem dL_law_1271 : decode cL_law 1271 = .ok (.aload_n 0, 1) := by decide +kernel
theorem dL_law_1272 : decode cL_law 1272 = .ok (.iload_n 3, 1) := by decide +kernel
theorem dL_law_1273 : decode cL_law 1273 = .ok (.iconst 2, 1) := by decide +kernel
theorem dL_law_1274 : decode cL_law 1274 = .ok (.iadd, 1) := by decide +kernel
theorem dL_law_1275 : decode cL_law 1275 = .ok (.iaload, 1) := by decide +kernel
theorem dL_law_1276 : decode cL_law 1276 = .ok (.aload_n 0, 1) := by decide +kernel
theorem dL_law_1277 : decode cL_law 1277 = .ok (.iload_n 3, 1) := by decide +kernel
theorem dL_law_1278 : decode cL_law 1278 = .ok (.iconst 3, 1) := by decide +kernel
theorem dL_law_1279 : decode cL_law 1279 = .ok (.iadd, 1) := by decide +kernel
theorem dL_law_1280 : decode cL_law 1280 = .ok (.iaload, 1) := by decide +kernel
theorem dL_law_1281 : decode cL_law 1281 = .ok (.invokevirtual 175, 3) := by decide +kernel
theorem dL_law_1284 : decode cL_law 1284 = .ok (.aload_n 2, 1) := by decide +kernel
theorem dL_law_1285 : decode cL_law 1285 = .ok (.aload_n 0, 1) := by decide +kernel
theorem dL_law_1286 : decode cL_law 1286 = .ok (.iload_n 3, 1) := by decide +kernel
theorem dL_law_1287 : decode cL_law 1287 = .ok (.iconst 1, 1) := by decide +kernel
theorem dL_law_1288 : decode cL_law 1288 = .ok (.iadd, 1) := by decide +kernel
theorem dL_law_1289 : decode cL_law 1289 = .ok (.iaload, 1) := by decide +kernel
theorem dL_law_1290 : decode cL_law 1290 = .ok (.aload_n 0, 1) := by decide +kernel
theorem dL_law_1291 : decode cL_law 1291 = .ok (.iload_n 3, 1) := by decide +kernel
theorem dL_law_1292 : decode cL_law 1292 = .ok (.iconst 2, 1) := by decide +kernel
theorem dL_law_1293 : decode cL_law 1293 = .ok (.iadd, 1) := by decide +kernel
theorem dL_law_1294 : decode cL_law 1294 = .ok (.iaload, 1) := by decide +kernel
theorem dL_law_1295 : decode cL_law 1295 = .ok (.aload_n 0, 1) := by decide +kernel
theorem dL_law_1296 : decode cL_law 1296 = .ok (.iload_n 3, 1) := by decide +kernel
theorem dL_law_1297 : decode cL_law 1297 = .ok (.iconst 3, 1) := by decide +kernel
theorem dL_law_1298 : decode cL_law 1298 = .ok (.iadd, 1) := by decide +kernel
theorem dL_law_1299 : decode cL_law 1299 = .ok (.iaload, 1) := by decide +kernel
theorem dL_law_1300 : decode cL_law 1300 = .ok (.invokevirtual 178, 3) := by decide +kernel
theorem dL_law_1303 : decode cL_law 1303 = .ok (.if_icmp .eq 141, 3) := by decide +kernel
theorem dL_law_1306 : decode cL_law 1306 = .ok (.iconst 0, 1) := by decide +kernel
theorem dL_law_1307 : decode cL_law 1307 = .ok (.ireturn, 1) := by decide +kernel
theorem dL_law_1308 : decode cL_law 1308 = .ok (.aload_n 1, 1) := by decide +kernel
theorem dL_law_1309 : decode cL_law 1309 = .ok (.aload_n 0, 1) := by decide +kernel
theorem dL_law_1310 : decode cL_law 1310 = .ok (.iload_n 3, 1) := by decide +kernel
theorem dL_law_1311 : decode cL_law 1311 = .ok (.iconst 1, 1) := by decide +kernel
theorem dL_law_1312 : decode cL_law 1312 = .ok (.iadd, 1) := by decide +kernel
theorem dL_law_1313 : decode cL_law 1313 = .ok (.iaload, 1) := by decide +kernel
theorem dL_law_1314 : decode cL_law 1314 = .ok (.aload_n 0, 1) := by decide +kernel
theorem dL_law_1315 : decode cL_law 1315 = .ok (.iload_n 3, 1) := by decide +kernel
theorem dL_law_1316 : decode cL_law 1316 = .ok (.iconst 2, 1) := by decide +kernel
theorem dL_law_1317 : decode cL_law 1317 = .ok (.iadd, 1) := by decide +kernel
theorem dL_law_1318 : decode cL_law 1318 = .ok (.iaload, 1) := by decide +kernel
theorem dL_law_1319 : decode cL_law 1319 = .ok (.aload_n 0, 1) := by decide +kernel
theorem dL_law_1320 : decode cL_law 1320 = .ok (.iload_n 3, 1) := by decide +kernel
theorem dL_law_1321 : decode cL_law 1321 = .ok (.iconst 3, 1) := by decide +kernel
theorem dL_law_1322 : decode cL_law 1322 = .ok (.iadd, 1) := by decide +kernel
theorem dL_law_1323 : decode cL_law 1323 = .ok (.iaload, 1) := by decide +kernel
theorem dL_law_1324 : decode cL_law 1324 = .ok (.i2l, 1) := by decide +kernel
theorem dL_law_1325 : decode cL_law 1325 = .ok (.bipush 32, 2) := by decide +kernel
theorem dL_law_1327 : decode cL_law 1327 = .ok (.lshl, 1) := by decide +kernel
theorem dL_law_1328 : decode cL_law 1328 = .ok (.aload_n 0, 1) := by decide +kernel
theorem dL_law_1329 : decode cL_law 1329 = .ok (.iload_n 3, 1) := by decide +kernel
theorem dL_law_1330 : decode cL_law 1330 = .ok (.iconst 4, 1) := by decide +kernel
theorem dL_law_1331 : decode cL_law 1331 = .ok (.iadd, 1) := by decide +kernel
theorem dL_law_1332 : decode cL_law 1332 = .ok (.iaload, 1) := by decide +kernel
theorem dL_law_1333 : decode cL_law 1333 = .ok (.i2l, 1) := by decide +kernel
theorem dL_law_1334 : decode cL_law 1334 = .ok (.ldc2_w 179, 3) := by decide +kernel
theorem dL_law_1337 : decode cL_law 1337 = .ok (.land, 1) := by decide +kernel
