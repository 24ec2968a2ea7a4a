theorem dX8_lendOn_65 : decode cX8_lendOn 65 = .ok (.istore 4, 2) := by decide +kernel
theorem dX8_lendOn_67 : decode cX8_lendOn 67 = .ok (.aload_n 0, 1) := by decide +kernel
theorem dX8_lendOn_68 : decode cX8_lendOn 68 = .ok (.getfield 52, 3) := by decide +kernel
theorem dX8_lendOn_71 : decode cX8_lendOn 71 = .ok (.getfield 159, 3) := by decide +kernel
theorem dX8_lendOn_74 : decode cX8_lendOn 74 = .ok (.iload_n 2, 1) := by decide +kernel
theorem dX8_lendOn_75 : decode cX8_lendOn 75 = .ok (.iconst 2, 1) := by decide +kernel
theorem dX8_lendOn_76 : decode cX8_lendOn 76 = .ok (.invokevirtual 72, 3) := by decide +kernel
theorem dX8_lendOn_79 : decode cX8_lendOn 79 = .ok (.aload_n 0, 1) := by decide +kernel
theorem dX8_lendOn_80 : decode cX8_lendOn 80 = .ok (.iload_n 3, 1) := by decide +kernel
theorem dX8_lendOn_81 : decode cX8_lendOn 81 = .ok (.invokevirtual 137, 3) := by decide +kernel
theorem dX8_lendOn_84 : decode cX8_lendOn 84 = .ok (.invokestatic 147, 3) := by decide +kernel
theorem dX8_lendOn_87 : decode cX8_lendOn 87 = .ok (.istore 5, 2) := by decide +kernel
theorem dX8_lendOn_89 : decode cX8_lendOn 89 = .ok (.aload_n 0, 1) := by decide +kernel
theorem dX8_lendOn_90 : decode cX8_lendOn 90 = .ok (.getfield 30, 3) := by decide +kernel
theorem dX8_lendOn_93 : decode cX8_lendOn 93 = .ok (.iload_n 2, 1) := by decide +kernel
theorem dX8_lendOn_94 : decode cX8_lendOn 94 = .ok (.iload 5, 2) := by decide +kernel
theorem dX8_lendOn_96 : decode cX8_lendOn 96 = .ok (.aload_n 0, 1) := by decide +kernel
theorem dX8_lendOn_97 : decode cX8_lendOn 97 = .ok (.iload 4, 2) := by decide +kernel
theorem dX8_lendOn_99 : decode cX8_lendOn 99 = .ok (.invokevirtual 144, 3) := by decide +kernel
theorem dX8_lendOn_102 : decode cX8_lendOn 102 = .ok (.invokestatic 147, 3) := by decide +kernel
theorem dX8_lendOn_105 : decode cX8_lendOn 105 = .ok (.iastore, 1) := by decide +kernel
theorem dX8_lendOn_106 : decode cX8_lendOn 106 = .ok (.aload_n 0, 1) := by decide +kernel
theorem dX8_lendOn_107 : decode cX8_lendOn 107 = .ok (.getfield 33, 3) := by decide +kernel
theorem dX8_lendOn_110 : decode cX8_lendOn 110 = .ok (.iload_n 2, 1) := by decide +kernel
theorem dX8_lendOn_111 : decode cX8_lendOn 111 = .ok (.aload_n 0, 1) := by decide +kernel
theorem dX8_lendOn_112 : decode cX8_lendOn 112 = .ok (.aload_n 0, 1) := by decide +kernel
theorem dX8_lendOn_113 : decode cX8_lendOn 113 = .ok (.getfield 30, 3) := by decide +kernel
theorem dX8_lendOn_116 : decode cX8_lendOn 116 = .ok (.iload_n 2, 1) := by decide +kernel
theorem dX8_lendOn_117 : decode cX8_lendOn 117 = .ok (.iaload, 1) := by decide +kernel
theorem dX8_lendOn_118 : decode cX8_lendOn 118 = .ok (.invokevirtual 152, 3) := by decide +kernel
theorem dX8_lendOn_121 : decode cX8_lendOn 121 = .ok (.iastore, 1) := by decide +kernel
theorem dX8_lendOn_122 : decode cX8_lendOn 122 = .ok (.aload_n 0, 1) := by decide +kernel
theorem dX8_lendOn_123 : decode cX8_lendOn 123 = .ok (.iload_n 3, 1) := by decide +kernel
theorem dX8_lendOn_124 : decode cX8_lendOn 124 = .ok (.aload_n 0, 1) := by decide +kernel
theorem dX8_lendOn_125 : decode cX8_lendOn 125 = .ok (.getfield 30, 3) := by decide +kernel
theorem dX8_lendOn_128 : decode cX8_lendOn 128 = .ok (.iload_n 2, 1) := by decide +kernel
theorem dX8_lendOn_129 : decode cX8_lendOn 129 = .ok (.iaload, 1) := by decide +kernel
theorem dX8_lendOn_130 : decode cX8_lendOn 130 = .ok (.ineg, 1) := by decide +kernel
theorem dX8_lendOn_131 : decode cX8_lendOn 131 = .ok (.invokevirtual 155, 3) := by decide +kernel
theorem dX8_lendOn_134 : decode cX8_lendOn 134 = .ok (.aload_n 0, 1) := by decide +kernel
theorem dX8_lendOn_135 : decode cX8_lendOn 135 = .ok (.iload 4, 2) := by decide +kernel
theorem dX8_lendOn_137 : decode cX8_lendOn 137 = .ok (.aload_n 0, 1) := by decide +kernel
theorem dX8_lendOn_138 : decode cX8_lendOn 138 = .ok (.getfield 30, 3) := by decide +kernel
theorem dX8_lendOn_141 : decode cX8_lendOn 141 = .ok (.iload_n 2, 1) := by decide +kernel
theorem dX8_lendOn_142 : decode cX8_lendOn 142 = .ok (.iaload, 1) := by decide +kernel
theorem dX8_lendOn_143 : decode cX8_lendOn 143 = .ok (.invokevirtual 155, 3) := by decide +kernel
theorem dX8_lendOn_146 : decode cX8_lendOn 146 = .ok (.iinc 2 1, 3) := by decide +kernel
theorem dX8_lendOn_149 : decode cX8_lendOn 149 = .ok (.goto (-147), 3) := by decide +kernel
theorem dX8_lendOn_152 : decode cX8_lendOn 152 = .ok (.return_, 1) := by decide +kernel
theorem dX8_repayTill_0 : decode cX8_repayTill 0 = .ok (.iconst 0, 1) := by decide +kernel
theorem dX8_repayTill_1 : decode cX8_repayTill 1 = .ok (.istore_n 2, 1) := by decide +kernel
theorem dX8_repayTill_2 : decode cX8_repayTill 2 = .ok (.iload_n 2, 1) := by decide +kernel
theorem dX8_repayTill_3 : decode cX8_repayTill 3 = .ok (.aload_n 0, 1) := by decide +kernel
theorem dX8_repayTill_4 : decode cX8_repayTill 4 = .ok (.getfield 52, 3) := by decide +kernel
theorem dX8_repayTill_7 : decode cX8_repayTill 7 = .ok (.getfield 159, 3) := by decide +kernel
theorem dX8_repayTill_10 : decode cX8_repayTill 10 = .ok (.getfield 141, 3) := by decide +kernel
theorem dX8_repayTill_13 : decode cX8_repayTill 13 = .ok (.if_icmp .ge 129, 3) := by decide +kernel
theorem dX8_repayTill_16 : decode cX8_repayTill 16 = .ok (.aload_n 0, 1) := by decide +kernel
theorem dX8_repayTill_17 : decode cX8_repayTill 17 = .ok (.getfield 52, 3) := by decide +kernel
theorem dX8_repayTill_20 : decode cX8_repayTill 20 = .ok (.getfield 159, 3) := by decide +kernel
theorem dX8_repayTill_23 : decode cX8_repayTill 23 = .ok (.iload_n 2, 1) := by decide +kernel
theorem dX8_repayTill_24 : decode cX8_repayTill 24 = .ok (.iconst 4, 1) := by decide +kernel
theorem dX8_repayTill_25 : decode cX8_repayTill 25 = .ok (.invokevirtual 72, 3) := by decide +kernel
theorem dX8_repayTill_28 : decode cX8_repayTill 28 = .ok (.iload_n 1, 1) := by decide +kernel
theorem dX8_repayTill_29 : decode cX8_repayTill 29 = .ok (.if_icmp .ne 107, 3) := by decide +kernel
theorem dX8_repayTill_32 : decode cX8_repayTill 32 = .ok (.aload_n 0, 1) := by decide +kernel
theorem dX8_repayTill_33 : decode cX8_repayTill 33 = .ok (.getfield 52, 3) := by decide +kernel
theorem dX8_repayTill_36 : decode cX8_repayTill 36 = .ok (.getfield 159, 3) := by decide +kernel
theorem dX8_repayTill_39 : decode cX8_repayTill 39 = .ok (.iload_n 2, 1) := by decide +kernel
theorem dX8_repayTill_40 : decode cX8_repayTill 40 = .ok (.iconst 0, 1) := by decide +kernel
theorem dX8_repayTill_41 : decode cX8_repayTill 41 = .ok (.invokevirtual 72, 3) := by decide +kernel
theorem dX8_repayTill_44 : decode cX8_repayTill 44 = .ok (.istore_n 3, 1) := by decide +kernel
theorem dX8_repayTill_45 : decode cX8_repayTill 45 = .ok (.aload_n 0, 1) := by decide +kernel
theorem dX8_repayTill_46 : decode cX8_repayTill 46 = .ok (.getfield 52, 3) := by decide +kernel
theorem dX8_repayTill_49 : decode cX8_repayTill 49 = .ok (.getfield 159, 3) := by decide +kernel
theorem dX8_repayTill_52 : decode cX8_repayTill 52 = .ok (.iload_n 2, 1) := by decide +kernel
theorem dX8_repayTill_53 : decode cX8_repayTill 53 = .ok (.iconst 1, 1) := by decide +kernel
theorem dX8_repayTill_54 : decode cX8_repayTill 54 = .ok (.invokevirtual 72, 3) := by decide +kernel
theorem dX8_repayTill_57 : decode cX8_repayTill 57 = .ok (.istore 4, 2) := by decide +kernel
theorem dX8_repayTill_59 : decode cX8_repayTill 59 = .ok (.aload_n 0, 1) := by decide +kernel
theorem dX8_repayTill_60 : decode cX8_repayTill 60 = .ok (.getfield 33, 3) := by decide +kernel
theorem dX8_repayTill_63 : decode cX8_repayTill 63 = .ok (.iload_n 2, 1) := by decide +kernel
theorem dX8_repayTill_64 : decode cX8_repayTill 64 = .ok (.iaload, 1) := by decide +kernel
theorem dX8_repayTill_65 : decode cX8_repayTill 65 = .ok (.aload_n 0, 1) := by decide +kernel
theorem dX8_repayTill_66 : decode cX8_repayTill 66 = .ok (.iload 4, 2) := by decide +kernel
theorem dX8_repayTill_68 : decode cX8_repayTill 68 = .ok (.invokevirtual 137, 3) := by decide +kernel
theorem dX8_repayTill_71 : decode cX8_repayTill 71 = .ok (.invokestatic 147, 3) := by decide +kernel
theorem dX8_repayTill_74 : decode cX8_repayTill 74 = .ok (.istore 5, 2) := by decide +kernel
theorem dX8_repayTill_76 : decode cX8_repayTill 76 = .ok (.aload_n 0, 1) := by decide +kernel
theorem dX8_repayTill_77 : decode cX8_repayTill 77 = .ok (.getfield 36, 3) := by decide +kernel
theorem dX8_repayTill_80 : decode cX8_repayTill 80 = .ok (.iload_n 2, 1) := by decide +kernel
theorem dX8_repayTill_81 : decode cX8_repayTill 81 = .ok (.iload 5, 2) := by decide +kernel
theorem dX8_repayTill_83 : decode cX8_repayTill 83 = .ok (.aload_n 0, 1) := by decide +kernel
theorem dX8_repayTill_84 : decode cX8_repayTill 84 = .ok (.iload_n 3, 1) := by decide +kernel
theorem dX8_repayTill_85 : decode cX8_repayTill 85 = .ok (.invokevirtual 144, 3) := by decide +kernel
theorem dX8_repayTill_88 : decode cX8_repayTill 88 = .ok (.invokestatic 147, 3) := by decide +kernel
theorem dX8_repayTill_91 : decode cX8_repayTill 91 = .ok (.iastore, 1) := by decide +kernel
theorem dX8_repayTill_92 : decode cX8_repayTill 92 = .ok (.aload_n 0, 1) := by decide +kernel
theorem dX8_repayTill_93 : decode cX8_repayTill 93 = .ok (.iload 4, 2) := by decide +kernel
theorem dX8_repayTill_95 : decode cX8_repayTill 95 = .ok (.aload_n 0, 1) := by decide +kernel
theorem dX8_repayTill_96 : decode cX8_repayTill 96 = .ok (.getfield 36, 3) := by decide +kernel
theorem dX8_repayTill_99 : decode cX8_repayTill 99 = .ok (.iload_n 2, 1) := by decide +kernel
theorem dX8_repayTill_100 : decode cX8_repayTill 100 = .ok (.iaload, 1) := by decide +kernel
theorem dX8_repayTill_101 : decode cX8_repayTill 101 = .ok (.ineg, 1) := by decide +kernel
theorem dX8_repayTill_102 : decode cX8_repayTill 102 = .ok (.invokevirtual 155, 3) := by decide +kernel
theorem dX8_repayTill_105 : decode cX8_repayTill 105 = .ok (.aload_n 0, 1) := by decide +kernel
theorem dX8_repayTill_106 : decode cX8_repayTill 106 = .ok (.iload_n 3, 1) := by decide +kernel
theorem dX8_repayTill_107 : decode cX8_repayTill 107 = .ok (.aload_n 0, 1) := by decide +kernel
theorem dX8_repayTill_108 : decode cX8_repayTill 108 = .ok (.getfield 36, 3) := by decide +kernel
theorem dX8_repayTill_111 : decode cX8_repayTill 111 = .ok (.iload_n 2, 1) := by decide +kernel
theorem dX8_repayTill_112 : decode cX8_repayTill 112 = .ok (.iaload, 1) := by decide +kernel
theorem dX8_repayTill_113 : decode cX8_repayTill 113 = .ok (.invokevirtual 155, 3) := by decide +kernel
theorem dX8_repayTill_116 : decode cX8_repayTill 116 = .ok (.aload_n 0, 1) := by decide +kernel
theorem dX8_repayTill_117 : decode cX8_repayTill 117 = .ok (.getfield 36, 3) := by decide +kernel
theorem dX8_repayTill_120 : decode cX8_repayTill 120 = .ok (.iload_n 2, 1) := by decide +kernel
theorem dX8_repayTill_121 : decode cX8_repayTill 121 = .ok (.iaload, 1) := by decide +kernel
theorem dX8_repayTill_122 : decode cX8_repayTill 122 = .ok (.aload_n 0, 1) := by decide +kernel
theorem dX8_repayTill_123 : decode cX8_repayTill 123 = .ok (.getfield 33, 3) := by decide +kernel
theorem dX8_repayTill_126 : decode cX8_repayTill 126 = .ok (.iload_n 2, 1) := by decide +kernel
theorem dX8_repayTill_127 : decode cX8_repayTill 127 = .ok (.iaload, 1) := by decide +kernel
theorem dX8_repayTill_128 : decode cX8_repayTill 128 = .ok (.if_icmp .ge 8, 3) := by decide +kernel
theorem dX8_repayTill_131 : decode cX8_repayTill 131 = .ok (.aload_n 0, 1) := by decide +kernel
theorem dX8_repayTill_132 : decode cX8_repayTill 132 = .ok (.iload_n 1, 1) := by decide +kernel
theorem dX8_repayTill_133 : decode cX8_repayTill 133 = .ok (.invokevirtual 162, 3) := by decide +kernel
theorem dX8_repayTill_136 : decode cX8_repayTill 136 = .ok (.iinc 2 1, 3) := by decide +kernel
theorem dX8_repayTill_139 : decode cX8_repayTill 139 = .ok (.goto (-137), 3) := by decide +kernel
theorem dX8_repayTill_142 : decode cX8_repayTill 142 = .ok (.return_, 1) := by decide +kernel
theorem dX8_giveBack_0 : decode cX8_giveBack 0 = .ok (.iconst 0, 1) := by decide +kernel
theorem dX8_giveBack_1 : decode cX8_giveBack 1 = .ok (.istore_n 2, 1) := by decide +kernel
theorem dX8_giveBack_2 : decode cX8_giveBack 2 = .ok (.iload_n 2, 1) := by decide +kernel
theorem dX8_giveBack_3 : decode cX8_giveBack 3 = .ok (.aload_n 0, 1) := by decide +kernel
theorem dX8_giveBack_4 : decode cX8_giveBack 4 = .ok (.getfield 52, 3) := by decide +kernel
theorem dX8_giveBack_7 : decode cX8_giveBack 7 = .ok (.getfield 68, 3) := by decide +kernel
theorem dX8_giveBack_10 : decode cX8_giveBack 10 = .ok (.getfield 141, 3) := by decide +kernel
theorem dX8_giveBack_13 : decode cX8_giveBack 13 = .ok (.if_icmp .ge 73, 3) := by decide +kernel
theorem dX8_giveBack_16 : decode cX8_giveBack 16 = .ok (.aload_n 0, 1) := by decide +kernel
theorem dX8_giveBack_17 : decode cX8_giveBack 17 = .ok (.getfield 9, 3) := by decide +kernel
theorem dX8_giveBack_20 : decode cX8_giveBack 20 = .ok (.iload_n 2, 1) := by decide +kernel
theorem dX8_giveBack_21 : decode cX8_giveBack 21 = .ok (.iaload, 1) := by decide +kernel
theorem dX8_giveBack_22 : decode cX8_giveBack 22 = .ok (.istore_n 3, 1) := by decide +kernel
theorem dX8_giveBack_23 : decode cX8_giveBack 23 = .ok (.iload_n 3, 1) := by decide +kernel
theorem dX8_giveBack_24 : decode cX8_giveBack 24 = .ok (.iconst (-1), 1) := by decide +kernel
theorem dX8_giveBack_25 : decode cX8_giveBack 25 = .ok (.if_icmp .eq 55, 3) := by decide +kernel
theorem dX8_giveBack_28 : decode cX8_giveBack 28 = .ok (.aload_n 0, 1) := by decide +kernel
theorem dX8_giveBack_29 : decode cX8_giveBack 29 = .ok (.getfield 27, 3) := by decide +kernel
theorem dX8_giveBack_32 : decode cX8_giveBack 32 = .ok (.iload_n 2, 1) := by decide +kernel
theorem dX8_giveBack_33 : decode cX8_giveBack 33 = .ok (.aload_n 0, 1) := by decide +kernel
theorem dX8_giveBack_34 : decode cX8_giveBack 34 = .ok (.getfield 24, 3) := by decide +kernel
theorem dX8_giveBack_37 : decode cX8_giveBack 37 = .ok (.iload_n 2, 1) := by decide +kernel
theorem dX8_giveBack_38 : decode cX8_giveBack 38 = .ok (.iaload, 1) := by decide +kernel
theorem dX8_giveBack_39 : decode cX8_giveBack 39 = .ok (.aload_n 0, 1) := by decide +kernel
theorem dX8_giveBack_40 : decode cX8_giveBack 40 = .ok (.iload_n 3, 1) := by decide +kernel
theorem dX8_giveBack_41 : decode cX8_giveBack 41 = .ok (.invokevirtual 137, 3) := by decide +kernel
theorem dX8_giveBack_44 : decode cX8_giveBack 44 = .ok (.invokestatic 147, 3) := by decide +kernel
theorem dX8_giveBack_47 : decode cX8_giveBack 47 = .ok (.iastore, 1) := by decide +kernel
theorem dX8_giveBack_48 : decode cX8_giveBack 48 = .ok (.aload_n 0, 1) := by decide +kernel
theorem dX8_giveBack_49 : decode cX8_giveBack 49 = .ok (.iload_n 3, 1) := by decide +kernel
theorem dX8_giveBack_50 : decode cX8_giveBack 50 = .ok (.aload_n 0, 1) := by decide +kernel
theorem dX8_giveBack_51 : decode cX8_giveBack 51 = .ok (.getfield 27, 3) := by decide +kernel
theorem dX8_giveBack_54 : decode cX8_giveBack 54 = .ok (.iload_n 2, 1) := by decide +kernel
theorem dX8_giveBack_55 : decode cX8_giveBack 55 = .ok (.iaload, 1) := by decide +kernel
theorem dX8_giveBack_56 : decode cX8_giveBack 56 = .ok (.ineg, 1) := by decide +kernel
theorem dX8_giveBack_57 : decode cX8_giveBack 57 = .ok (.invokevirtual 155, 3) := by decide +kernel
theorem dX8_giveBack_60 : decode cX8_giveBack 60 = .ok (.aload_n 0, 1) := by decide +kernel
theorem dX8_giveBack_61 : decode cX8_giveBack 61 = .ok (.getfield 27, 3) := by decide +kernel
theorem dX8_giveBack_64 : decode cX8_giveBack 64 = .ok (.iload_n 2, 1) := by decide +kernel
theorem dX8_giveBack_65 : decode cX8_giveBack 65 = .ok (.iaload, 1) := by decide +kernel
theorem dX8_giveBack_66 : decode cX8_giveBack 66 = .ok (.aload_n 0, 1) := by decide +kernel
theorem dX8_giveBack_67 : decode cX8_giveBack 67 = .ok (.getfield 24, 3) := by decide +kernel
theorem dX8_giveBack_70 : decode cX8_giveBack 70 = .ok (.iload_n 2, 1) := by decide +kernel
theorem dX8_giveBack_71 : decode cX8_giveBack 71 = .ok (.iaload, 1) := by decide +kernel
theorem dX8_giveBack_72 : decode cX8_giveBack 72 = .ok (.if_icmp .ge 8, 3) := by decide +kernel
theorem dX8_giveBack_75 : decode cX8_giveBack 75 = .ok (.aload_n 0, 1) := by decide +kernel
theorem dX8_giveBack_76 : decode cX8_giveBack 76 = .ok (.iload_n 1, 1) := by decide +kernel
theorem dX8_giveBack_77 : decode cX8_giveBack 77 = .ok (.invokevirtual 162, 3) := by decide +kernel
theorem dX8_giveBack_80 : decode cX8_giveBack 80 = .ok (.iinc 2 1, 3) := by decide +kernel
theorem dX8_giveBack_83 : decode cX8_giveBack 83 = .ok (.goto (-81), 3) := by decide +kernel
theorem dX8_giveBack_86 : decode cX8_giveBack 86 = .ok (.return_, 1) := by decide +kernel
theorem dX8_drinkCrops_0 : decode cX8_drinkCrops 0 = .ok (.iconst 0, 1) := by decide +kernel
theorem dX8_drinkCrops_1 : decode cX8_drinkCrops 1 = .ok (.istore_n 2, 1) := by decide +kernel
theorem dX8_drinkCrops_2 : decode cX8_drinkCrops 2 = .ok (.iload_n 2, 1) := by decide +kernel
theorem dX8_drinkCrops_3 : decode cX8_drinkCrops 3 = .ok (.aload_n 0, 1) := by decide +kernel
theorem dX8_drinkCrops_4 : decode cX8_drinkCrops 4 = .ok (.getfield 52, 3) := by decide +kernel
theorem dX8_drinkCrops_7 : decode cX8_drinkCrops 7 = .ok (.getfield 165, 3) := by decide +kernel
theorem dX8_drinkCrops_10 : decode cX8_drinkCrops 10 = .ok (.getfield 141, 3) := by decide +kernel
theorem dX8_drinkCrops_13 : decode cX8_drinkCrops 13 = .ok (.if_icmp .ge 128, 3) := by decide +kernel
theorem dX8_drinkCrops_16 : decode cX8_drinkCrops 16 = .ok (.aload_n 0, 1) := by decide +kernel
theorem dX8_drinkCrops_17 : decode cX8_drinkCrops 17 = .ok (.getfield 52, 3) := by decide +kernel
theorem dX8_drinkCrops_20 : decode cX8_drinkCrops 20 = .ok (.getfield 165, 3) := by decide +kernel
theorem dX8_drinkCrops_23 : decode cX8_drinkCrops 23 = .ok (.iload_n 2, 1) := by decide +kernel
theorem dX8_drinkCrops_24 : decode cX8_drinkCrops 24 = .ok (.iconst 3, 1) := by decide +kernel
theorem dX8_drinkCrops_25 : decode cX8_drinkCrops 25 = .ok (.invokevirtual 72, 3) := by decide +kernel
theorem dX8_drinkCrops_28 : decode cX8_drinkCrops 28 = .ok (.iload_n 1, 1) := by decide +kernel
theorem dX8_drinkCrops_29 : decode cX8_drinkCrops 29 = .ok (.if_icmp .gt 106, 3) := by decide +kernel
theorem dX8_drinkCrops_32 : decode cX8_drinkCrops 32 = .ok (.iload_n 1, 1) := by decide +kernel
theorem dX8_drinkCrops_33 : decode cX8_drinkCrops 33 = .ok (.aload_n 0, 1) := by decide +kernel
theorem dX8_drinkCrops_34 : decode cX8_drinkCrops 34 = .ok (.getfield 52, 3) := by decide +kernel
theorem dX8_drinkCrops_37 : decode cX8_drinkCrops 37 = .ok (.getfield 165, 3) := by decide +kernel
theorem dX8_drinkCrops_40 : decode cX8_drinkCrops 40 = .ok (.iload_n 2, 1) := by decide +kernel
theorem dX8_drinkCrops_41 : decode cX8_drinkCrops 41 = .ok (.iconst 4, 1) := by decide +kernel
theorem dX8_drinkCrops_42 : decode cX8_drinkCrops 42 = .ok (.invokevirtual 72, 3) := by decide +kernel
theorem dX8_drinkCrops_45 : decode cX8_drinkCrops 45 = .ok (.if_icmp .gt 90, 3) := by decide +kernel
theorem dX8_drinkCrops_48 : decode cX8_drinkCrops 48 = .ok (.aload_n 0, 1) := by decide +kernel
theorem dX8_drinkCrops_49 : decode cX8_drinkCrops 49 = .ok (.getfield 52, 3) := by decide +kernel
theorem dX8_drinkCrops_52 : decode cX8_drinkCrops 52 = .ok (.getfield 165, 3) := by decide +kernel
theorem dX8_drinkCrops_55 : decode cX8_drinkCrops 55 = .ok (.iload_n 2, 1) := by decide +kernel
theorem dX8_drinkCrops_56 : decode cX8_drinkCrops 56 = .ok (.iconst 0, 1) := by decide +kernel
theorem dX8_drinkCrops_57 : decode cX8_drinkCrops 57 = .ok (.invokevirtual 72, 3) := by decide +kernel
theorem dX8_drinkCrops_60 : decode cX8_drinkCrops 60 = .ok (.istore_n 3, 1) := by decide +kernel
theorem dX8_drinkCrops_61 : decode cX8_drinkCrops 61 = .ok (.aload_n 0, 1) := by decide +kernel
theorem dX8_drinkCrops_62 : decode cX8_drinkCrops 62 = .ok (.getfield 52, 3) := by decide +kernel
theorem dX8_drinkCrops_65 : decode cX8_drinkCrops 65 = .ok (.getfield 165, 3) := by decide +kernel
theorem dX8_drinkCrops_68 : decode cX8_drinkCrops 68 = .ok (.iload_n 2, 1) := by decide +kernel
theorem dX8_drinkCrops_69 : decode cX8_drinkCrops 69 = .ok (.iconst 1, 1) := by decide +kernel
theorem dX8_drinkCrops_70 : decode cX8_drinkCrops 70 = .ok (.invokevirtual 72, 3) := by decide +kernel
theorem dX8_drinkCrops_73 : decode cX8_drinkCrops 73 = .ok (.istore 4, 2) := by decide +kernel
theorem dX8_drinkCrops_75 : decode cX8_drinkCrops 75 = .ok (.aload_n 0, 1) := by decide +kernel
theorem dX8_drinkCrops_76 : decode cX8_drinkCrops 76 = .ok (.iload_n 3, 1) := by decide +kernel
theorem dX8_drinkCrops_77 : decode cX8_drinkCrops 77 = .ok (.invokevirtual 137, 3) := by decide +kernel
theorem dX8_drinkCrops_80 : decode cX8_drinkCrops 80 = .ok (.iload 4, 2) := by decide +kernel
theorem dX8_drinkCrops_82 : decode cX8_drinkCrops 82 = .ok (.if_icmp .lt 46, 3) := by decide +kernel
theorem dX8_drinkCrops_85 : decode cX8_drinkCrops 85 = .ok (.aload_n 0, 1) := by decide +kernel
theorem dX8_drinkCrops_86 : decode cX8_drinkCrops 86 = .ok (.iload_n 3, 1) := by decide +kernel
theorem dX8_drinkCrops_87 : decode cX8_drinkCrops 87 = .ok (.iload 4, 2) := by decide +kernel
theorem dX8_drinkCrops_89 : decode cX8_drinkCrops 89 = .ok (.ineg, 1) := by decide +kernel
theorem dX8_drinkCrops_90 : decode cX8_drinkCrops 90 = .ok (.invokevirtual 155, 3) := by decide +kernel
theorem dX8_drinkCrops_93 : decode cX8_drinkCrops 93 = .ok (.aload_n 0, 1) := by decide +kernel
theorem dX8_drinkCrops_94 : decode cX8_drinkCrops 94 = .ok (.dup, 1) := by decide +kernel
theorem dX8_drinkCrops_95 : decode cX8_drinkCrops 95 = .ok (.getfield 93, 3) := by decide +kernel
theorem dX8_drinkCrops_98 : decode cX8_drinkCrops 98 = .ok (.iload 4, 2) := by decide +kernel
theorem dX8_drinkCrops_100 : decode cX8_drinkCrops 100 = .ok (.iadd, 1) := by decide +kernel
theorem dX8_drinkCrops_101 : decode cX8_drinkCrops 101 = .ok (.putfield 93, 3) := by decide +kernel
theorem dX8_drinkCrops_104 : decode cX8_drinkCrops 104 = .ok (.aload_n 0, 1) := by decide +kernel
theorem dX8_drinkCrops_105 : decode cX8_drinkCrops 105 = .ok (.getfield 39, 3) := by decide +kernel
theorem dX8_drinkCrops_108 : decode cX8_drinkCrops 108 = .ok (.iload_n 2, 1) := by decide +kernel
theorem dX8_drinkCrops_109 : decode cX8_drinkCrops 109 = .ok (.dup2, 1) := by decide +kernel
theorem dX8_drinkCrops_110 : decode cX8_drinkCrops 110 = .ok (.iaload, 1) := by decide +kernel
theorem dX8_drinkCrops_111 : decode cX8_drinkCrops 111 = .ok (.aload_n 0, 1) := by decide +kernel
theorem dX8_drinkCrops_112 : decode cX8_drinkCrops 112 = .ok (.getfield 52, 3) := by decide +kernel
theorem dX8_drinkCrops_115 : decode cX8_drinkCrops 115 = .ok (.getfield 165, 3) := by decide +kernel
theorem dX8_drinkCrops_118 : decode cX8_drinkCrops 118 = .ok (.iload_n 2, 1) := by decide +kernel
theorem dX8_drinkCrops_119 : decode cX8_drinkCrops 119 = .ok (.iconst 2, 1) := by decide +kernel
theorem dX8_drinkCrops_120 : decode cX8_drinkCrops 120 = .ok (.invokevirtual 72, 3) := by decide +kernel
theorem dX8_drinkCrops_123 : decode cX8_drinkCrops 123 = .ok (.iadd, 1) := by decide +kernel
theorem dX8_drinkCrops_124 : decode cX8_drinkCrops 124 = .ok (.iastore, 1) := by decide +kernel
theorem dX8_drinkCrops_125 : decode cX8_drinkCrops 125 = .ok (.goto 10, 3) := by decide +kernel
theorem dX8_drinkCrops_128 : decode cX8_drinkCrops 128 = .ok (.aload_n 0, 1) := by decide +kernel
theorem dX8_drinkCrops_129 : decode cX8_drinkCrops 129 = .ok (.iload_n 2, 1) := by decide +kernel
theorem dX8_drinkCrops_130 : decode cX8_drinkCrops 130 = .ok (.iload_n 3, 1) := by decide +kernel
theorem dX8_drinkCrops_131 : decode cX8_drinkCrops 131 = .ok (.iload_n 1, 1) := by decide +kernel
theorem dX8_drinkCrops_132 : decode cX8_drinkCrops 132 = .ok (.invokevirtual 168, 3) := by decide +kernel
theorem dX8_drinkCrops_135 : decode cX8_drinkCrops 135 = .ok (.iinc 2 1, 3) := by decide +kernel
theorem dX8_drinkCrops_138 : decode cX8_drinkCrops 138 = .ok (.goto (-136), 3) := by decide +kernel
theorem dX8_drinkCrops_141 : decode cX8_drinkCrops 141 = .ok (.return_, 1) := by decide +kernel
theorem dX8_staysDry_0 : decode cX8_staysDry 0 = .ok (.iload_n 1, 1) := by decide +kernel
theorem dX8_staysDry_1 : decode cX8_staysDry 1 = .ok (.ifCond .lt 44, 3) := by decide +kernel
theorem dX8_staysDry_4 : decode cX8_staysDry 4 = .ok (.iload_n 1, 1) := by decide +kernel
theorem dX8_staysDry_5 : decode cX8_staysDry 5 = .ok (.bipush 8, 2) := by decide +kernel
theorem dX8_staysDry_7 : decode cX8_staysDry 7 = .ok (.if_icmp .ge 38, 3) := by decide +kernel
theorem dX8_staysDry_10 : decode cX8_staysDry 10 = .ok (.aload_n 0, 1) := by decide +kernel
theorem dX8_staysDry_11 : decode cX8_staysDry 11 = .ok (.getfield 45, 3) := by decide +kernel
theorem dX8_staysDry_14 : decode cX8_staysDry 14 = .ok (.iload_n 1, 1) := by decide +kernel
theorem dX8_staysDry_15 : decode cX8_staysDry 15 = .ok (.aload_n 0, 1) := by decide +kernel
theorem dX8_staysDry_16 : decode cX8_staysDry 16 = .ok (.getfield 42, 3) := by decide +kernel
theorem dX8_staysDry_19 : decode cX8_staysDry 19 = .ok (.iload_n 1, 1) := by decide +kernel
theorem dX8_staysDry_20 : decode cX8_staysDry 20 = .ok (.iaload, 1) := by decide +kernel
theorem dX8_staysDry_21 : decode cX8_staysDry 21 = .ok (.ifCond .ne 7, 3) := by decide +kernel
theorem dX8_staysDry_24 : decode cX8_staysDry 24 = .ok (.iload_n 3, 1) := by decide +kernel
theorem dX8_staysDry_25 : decode cX8_staysDry 25 = .ok (.goto 9, 3) := by decide +kernel
theorem dX8_staysDry_28 : decode cX8_staysDry 28 = .ok (.aload_n 0, 1) := by decide +kernel
theorem dX8_staysDry_29 : decode cX8_staysDry 29 = .ok (.getfield 45, 3) := by decide +kernel
theorem dX8_staysDry_32 : decode cX8_staysDry 32 = .ok (.iload_n 1, 1) := by decide +kernel
theorem dX8_staysDry_33 : decode cX8_staysDry 33 = .ok (.iaload, 1) := by decide +kernel
theorem dX8_staysDry_34 : decode cX8_staysDry 34 = .ok (.iastore, 1) := by decide +kernel
theorem dX8_staysDry_35 : decode cX8_staysDry 35 = .ok (.aload_n 0, 1) := by decide +kernel
theorem dX8_staysDry_36 : decode cX8_staysDry 36 = .ok (.getfield 42, 3) := by decide +kernel
theorem dX8_staysDry_39 : decode cX8_staysDry 39 = .ok (.iload_n 1, 1) := by decide +kernel
theorem dX8_staysDry_40 : decode cX8_staysDry 40 = .ok (.dup2, 1) := by decide +kernel
theorem dX8_staysDry_41 : decode cX8_staysDry 41 = .ok (.iaload, 1) := by decide +kernel
theorem dX8_staysDry_42 : decode cX8_staysDry 42 = .ok (.iconst 1, 1) := by decide +kernel
theorem dX8_staysDry_43 : decode cX8_staysDry 43 = .ok (.iadd, 1) := by decide +kernel
theorem dX8_staysDry_44 : decode cX8_staysDry 44 = .ok (.iastore, 1) := by decide +kernel
theorem dX8_staysDry_45 : decode cX8_staysDry 45 = .ok (.iload_n 2, 1) := by decide +kernel
theorem dX8_staysDry_46 : decode cX8_staysDry 46 = .ok (.ifCond .lt 16, 3) := by decide +kernel
theorem dX8_staysDry_49 : decode cX8_staysDry 49 = .ok (.iload_n 2, 1) := by decide +kernel
theorem dX8_staysDry_50 : decode cX8_staysDry 50 = .ok (.bipush 6, 2) := by decide +kernel
theorem dX8_staysDry_52 : decode cX8_staysDry 52 = .ok (.if_icmp .ge 10, 3) := by decide +kernel
theorem dX8_staysDry_55 : decode cX8_staysDry 55 = .ok (.aload_n 0, 1) := by decide +kernel
theorem dX8_staysDry_56 : decode cX8_staysDry 56 = .ok (.getfield 48, 3) := by decide +kernel
theorem dX8_staysDry_59 : decode cX8_staysDry 59 = .ok (.iload_n 2, 1) := by decide +kernel
theorem dX8_staysDry_60 : decode cX8_staysDry 60 = .ok (.iconst 1, 1) := by decide +kernel
theorem dX8_staysDry_61 : decode cX8_staysDry 61 = .ok (.bastore, 1) := by decide +kernel
theorem dX8_staysDry_62 : decode cX8_staysDry 62 = .ok (.aload_n 0, 1) := by decide +kernel
theorem dX8_staysDry_63 : decode cX8_staysDry 63 = .ok (.iload_n 3, 1) := by decide +kernel
theorem dX8_staysDry_64 : decode cX8_staysDry 64 = .ok (.invokevirtual 162, 3) := by decide +kernel
theorem dX8_staysDry_67 : decode cX8_staysDry 67 = .ok (.return_, 1) := by decide +kernel
theorem dX8_drinkSky_0 : decode cX8_drinkSky 0 = .ok (.aload_n 0, 1) := by decide +kernel
theorem dX8_drinkSky_1 : decode cX8_drinkSky 1 = .ok (.getfield 52, 3) := by decide +kernel
theorem dX8_drinkSky_4 : decode cX8_drinkSky 4 = .ok (.iload_n 1, 1) := by decide +kernel
theorem dX8_drinkSky_5 : decode cX8_drinkSky 5 = .ok (.invokevirtual 172, 3) := by decide +kernel
theorem dX8_drinkSky_8 : decode cX8_drinkSky 8 = .ok (.istore_n 2, 1) := by decide +kernel
theorem dX8_drinkSky_9 : decode cX8_drinkSky 9 = .ok (.iconst 0, 1) := by decide +kernel
theorem dX8_drinkSky_10 : decode cX8_drinkSky 10 = .ok (.istore_n 3, 1) := by decide +kernel
theorem dX8_drinkSky_11 : decode cX8_drinkSky 11 = .ok (.iload_n 3, 1) := by decide +kernel
theorem dX8_drinkSky_12 : decode cX8_drinkSky 12 = .ok (.aload_n 0, 1) := by decide +kernel
theorem dX8_drinkSky_13 : decode cX8_drinkSky 13 = .ok (.getfield 52, 3) := by decide +kernel
theorem dX8_drinkSky_16 : decode cX8_drinkSky 16 = .ok (.getfield 78, 3) := by decide +kernel
theorem dX8_drinkSky_19 : decode cX8_drinkSky 19 = .ok (.getfield 141, 3) := by decide +kernel
theorem dX8_drinkSky_22 : decode cX8_drinkSky 22 = .ok (.if_icmp .ge 59, 3) := by decide +kernel
theorem dX8_drinkSky_25 : decode cX8_drinkSky 25 = .ok (.aload_n 0, 1) := by decide +kernel
theorem dX8_drinkSky_26 : decode cX8_drinkSky 26 = .ok (.getfield 15, 3) := by decide +kernel
theorem dX8_drinkSky_29 : decode cX8_drinkSky 29 = .ok (.iload_n 3, 1) := by decide +kernel
theorem dX8_drinkSky_30 : decode cX8_drinkSky 30 = .ok (.iaload, 1) := by decide +kernel
theorem dX8_drinkSky_31 : decode cX8_drinkSky 31 = .ok (.aload_n 0, 1) := by decide +kernel
theorem dX8_drinkSky_32 : decode cX8_drinkSky 32 = .ok (.getfield 52, 3) := by decide +kernel
theorem dX8_drinkSky_35 : decode cX8_drinkSky 35 = .ok (.getfield 78, 3) := by decide +kernel
theorem dX8_drinkSky_38 : decode cX8_drinkSky 38 = .ok (.iload_n 3, 1) := by decide +kernel
theorem dX8_drinkSky_39 : decode cX8_drinkSky 39 = .ok (.iconst 2, 1) := by decide +kernel
theorem dX8_drinkSky_40 : decode cX8_drinkSky 40 = .ok (.invokevirtual 72, 3) := by decide +kernel
theorem dX8_drinkSky_43 : decode cX8_drinkSky 43 = .ok (.iload_n 2, 1) := by decide +kernel
theorem dX8_drinkSky_44 : decode cX8_drinkSky 44 = .ok (.imul, 1) := by decide +kernel
theorem dX8_drinkSky_45 : decode cX8_drinkSky 45 = .ok (.bipush 100, 2) := by decide +kernel
theorem dX8_drinkSky_47 : decode cX8_drinkSky 47 = .ok (.idiv, 1) := by decide +kernel
theorem dX8_drinkSky_48 : decode cX8_drinkSky 48 = .ok (.invokestatic 147, 3) := by decide +kernel
theorem dX8_drinkSky_51 : decode cX8_drinkSky 51 = .ok (.istore 4, 2) := by decide +kernel
theorem dX8_drinkSky_53 : decode cX8_drinkSky 53 = .ok (.aload_n 0, 1) := by decide +kernel
theorem dX8_drinkSky_54 : decode cX8_drinkSky 54 = .ok (.getfield 15, 3) := by decide +kernel
theorem dX8_drinkSky_57 : decode cX8_drinkSky 57 = .ok (.iload_n 3, 1) := by decide +kernel
theorem dX8_drinkSky_58 : decode cX8_drinkSky 58 = .ok (.dup2, 1) := by decide +kernel
theorem dX8_drinkSky_59 : decode cX8_drinkSky 59 = .ok (.iaload, 1) := by decide +kernel
theorem dX8_drinkSky_60 : decode cX8_drinkSky 60 = .ok (.iload 4, 2) := by decide +kernel
theorem dX8_drinkSky_62 : decode cX8_drinkSky 62 = .ok (.isub, 1) := by decide +kernel
theorem dX8_drinkSky_63 : decode cX8_drinkSky 63 = .ok (.iastore, 1) := by decide +kernel
theorem dX8_drinkSky_64 : decode cX8_drinkSky 64 = .ok (.aload_n 0, 1) := by decide +kernel
theorem dX8_drinkSky_65 : decode cX8_drinkSky 65 = .ok (.dup, 1) := by decide +kernel
theorem dX8_drinkSky_66 : decode cX8_drinkSky 66 = .ok (.getfield 87, 3) := by decide +kernel
theorem dX8_drinkSky_69 : decode cX8_drinkSky 69 = .ok (.iload 4, 2) := by decide +kernel
theorem dX8_drinkSky_71 : decode cX8_drinkSky 71 = .ok (.iadd, 1) := by decide +kernel
theorem dX8_drinkSky_72 : decode cX8_drinkSky 72 = .ok (.putfield 87, 3) := by decide +kernel
theorem dX8_drinkSky_75 : decode cX8_drinkSky 75 = .ok (.iinc 3 1, 3) := by decide +kernel
theorem dX8_drinkSky_78 : decode cX8_drinkSky 78 = .ok (.goto (-67), 3) := by decide +kernel
theorem dX8_drinkSky_81 : decode cX8_drinkSky 81 = .ok (.return_, 1) := by decide +kernel
theorem dX8_seepAway_0 : decode cX8_seepAway 0 = .ok (.aload_n 0, 1) := by decide +kernel
theorem dX8_seepAway_1 : decode cX8_seepAway 1 = .ok (.getfield 52, 3) := by decide +kernel
theorem dX8_seepAway_4 : decode cX8_seepAway 4 = .ok (.getfield 78, 3) := by decide +kernel
theorem dX8_seepAway_7 : decode cX8_seepAway 7 = .ok (.getfield 141, 3) := by decide +kernel
theorem dX8_seepAway_10 : decode cX8_seepAway 10 = .ok (.iconst 1, 1) := by decide +kernel
theorem dX8_seepAway_11 : decode cX8_seepAway 11 = .ok (.isub, 1) := by decide +kernel
theorem dX8_seepAway_12 : decode cX8_seepAway 12 = .ok (.istore_n 1, 1) := by decide +kernel
theorem dX8_seepAway_13 : decode cX8_seepAway 13 = .ok (.iload_n 1, 1) := by decide +kernel
theorem dX8_seepAway_14 : decode cX8_seepAway 14 = .ok (.istore_n 2, 1) := by decide +kernel
theorem dX8_seepAway_15 : decode cX8_seepAway 15 = .ok (.iload_n 2, 1) := by decide +kernel
theorem dX8_seepAway_16 : decode cX8_seepAway 16 = .ok (.ifCond .lt 94, 3) := by decide +kernel
theorem dX8_seepAway_19 : decode cX8_seepAway 19 = .ok (.aload_n 0, 1) := by decide +kernel
theorem dX8_seepAway_20 : decode cX8_seepAway 20 = .ok (.getfield 15, 3) := by decide +kernel
theorem dX8_seepAway_23 : decode cX8_seepAway 23 = .ok (.iload_n 2, 1) := by decide +kernel
theorem dX8_seepAway_24 : decode cX8_seepAway 24 = .ok (.iaload, 1) := by decide +kernel
theorem dX8_seepAway_25 : decode cX8_seepAway 25 = .ok (.aload_n 0, 1) := by decide +kernel
theorem dX8_seepAway_26 : decode cX8_seepAway 26 = .ok (.getfield 52, 3) := by decide +kernel
theorem dX8_seepAway_29 : decode cX8_seepAway 29 = .ok (.getfield 78, 3) := by decide +kernel
theorem dX8_seepAway_32 : decode cX8_seepAway 32 = .ok (.iload_n 2, 1) := by decide +kernel
theorem dX8_seepAway_33 : decode cX8_seepAway 33 = .ok (.iconst 3, 1) := by decide +kernel
theorem dX8_seepAway_34 : decode cX8_seepAway 34 = .ok (.invokevirtual 72, 3) := by decide +kernel
theorem dX8_seepAway_37 : decode cX8_seepAway 37 = .ok (.invokestatic 147, 3) := by decide +kernel
theorem dX8_seepAway_40 : decode cX8_seepAway 40 = .ok (.istore_n 3, 1) := by decide +kernel
theorem dX8_seepAway_41 : decode cX8_seepAway 41 = .ok (.iload_n 2, 1) := by decide +kernel
theorem dX8_seepAway_42 : decode cX8_seepAway 42 = .ok (.iload_n 1, 1) := by decide +kernel
theorem dX8_seepAway_43 : decode cX8_seepAway 43 = .ok (.if_icmp .ge 17, 3) := by decide +kernel
theorem dX8_seepAway_46 : decode cX8_seepAway 46 = .ok (.iload_n 3, 1) := by decide +kernel
theorem dX8_seepAway_47 : decode cX8_seepAway 47 = .ok (.aload_n 0, 1) := by decide +kernel
theorem dX8_seepAway_48 : decode cX8_seepAway 48 = .ok (.iload_n 2, 1) := by decide +kernel
theorem dX8_seepAway_49 : decode cX8_seepAway 49 = .ok (.iconst 1, 1) := by decide +kernel
theorem dX8_seepAway_50 : decode cX8_seepAway 50 = .ok (.iadd, 1) := by decide +kernel
theorem dX8_seepAway_51 : decode cX8_seepAway 51 = .ok (.invokevirtual 144, 3) := by decide +kernel
theorem dX8_seepAway_54 : decode cX8_seepAway 54 = .ok (.invokestatic 147, 3) := by decide +kernel
theorem dX8_seepAway_57 : decode cX8_seepAway 57 = .ok (.goto 4, 3) := by decide +kernel
theorem dX8_seepAway_60 : decode cX8_seepAway 60 = .ok (.iconst 0, 1) := by decide +kernel
theorem dX8_seepAway_61 : decode cX8_seepAway 61 = .ok (.istore 4, 2) := by decide +kernel
theorem dX8_seepAway_63 : decode cX8_seepAway 63 = .ok (.aload_n 0, 1) := by decide +kernel
theorem dX8_seepAway_64 : decode cX8_seepAway 64 = .ok (.getfield 15, 3) := by decide +kernel
theorem dX8_seepAway_67 : decode cX8_seepAway 67 = .ok (.iload_n 2, 1) := by decide +kernel
theorem dX8_seepAway_68 : decode cX8_seepAway 68 = .ok (.dup2, 1) := by decide +kernel
theorem dX8_seepAway_69 : decode cX8_seepAway 69 = .ok (.iaload, 1) := by decide +kernel
theorem dX8_seepAway_70 : decode cX8_seepAway 70 = .ok (.iload_n 3, 1) := by decide +kernel
theorem dX8_seepAway_71 : decode cX8_seepAway 71 = .ok (.isub, 1) := by decide +kernel
theorem dX8_seepAway_72 : decode cX8_seepAway 72 = .ok (.iastore, 1) := by decide +kernel
theorem dX8_seepAway_73 : decode cX8_seepAway 73 = .ok (.iload_n 2, 1) := by decide +kernel
theorem dX8_seepAway_74 : decode cX8_seepAway 74 = .ok (.iload_n 1, 1) := by decide +kernel
theorem dX8_seepAway_75 : decode cX8_seepAway 75 = .ok (.if_icmp .ge 16, 3) := by decide +kernel
theorem dX8_seepAway_78 : decode cX8_seepAway 78 = .ok (.aload_n 0, 1) := by decide +kernel
theorem dX8_seepAway_79 : decode cX8_seepAway 79 = .ok (.getfield 15, 3) := by decide +kernel
theorem dX8_seepAway_82 : decode cX8_seepAway 82 = .ok (.iload_n 2, 1) := by decide +kernel
theorem dX8_seepAway_83 : decode cX8_seepAway 83 = .ok (.iconst 1, 1) := by decide +kernel
theorem dX8_seepAway_84 : decode cX8_seepAway 84 = .ok (.iadd, 1) := by decide +kernel
theorem dX8_seepAway_85 : decode cX8_seepAway 85 = .ok (.dup2, 1) := by decide +kernel
theorem dX8_seepAway_86 : decode cX8_seepAway 86 = .ok (.iaload, 1) := by decide +kernel
theorem dX8_seepAway_87 : decode cX8_seepAway 87 = .ok (.iload 4, 2) := by decide +kernel
theorem dX8_seepAway_89 : decode cX8_seepAway 89 = .ok (.iadd, 1) := by decide +kernel
theorem dX8_seepAway_90 : decode cX8_seepAway 90 = .ok (.iastore, 1) := by decide +kernel
theorem dX8_seepAway_91 : decode cX8_seepAway 91 = .ok (.aload_n 0, 1) := by decide +kernel
theorem dX8_seepAway_92 : decode cX8_seepAway 92 = .ok (.dup, 1) := by decide +kernel
theorem dX8_seepAway_93 : decode cX8_seepAway 93 = .ok (.getfield 90, 3) := by decide +kernel
theorem dX8_seepAway_96 : decode cX8_seepAway 96 = .ok (.iload_n 3, 1) := by decide +kernel
theorem dX8_seepAway_97 : decode cX8_seepAway 97 = .ok (.iload 4, 2) := by decide +kernel
theorem dX8_seepAway_99 : decode cX8_seepAway 99 = .ok (.isub, 1) := by decide +kernel
theorem dX8_seepAway_100 : decode cX8_seepAway 100 = .ok (.iadd, 1) := by decide +kernel
theorem dX8_seepAway_101 : decode cX8_seepAway 101 = .ok (.putfield 90, 3) := by decide +kernel
theorem dX8_seepAway_104 : decode cX8_seepAway 104 = .ok (.iinc 2 (-1), 3) := by decide +kernel
theorem dX8_seepAway_107 : decode cX8_seepAway 107 = .ok (.goto (-92), 3) := by decide +kernel
theorem dX8_seepAway_110 : decode cX8_seepAway 110 = .ok (.return_, 1) := by decide +kernel
theorem dX8_noteWater_0 : decode cX8_noteWater 0 = .ok (.iload_n 1, 1) := by decide +kernel
theorem dX8_noteWater_1 : decode cX8_noteWater 1 = .ok (.ifCond .lt 48, 3) := by decide +kernel
theorem dX8_noteWater_4 : decode cX8_noteWater 4 = .ok (.iload_n 1, 1) := by decide +kernel
theorem dX8_noteWater_5 : decode cX8_noteWater 5 = .ok (.bipush 30, 2) := by decide +kernel
theorem dX8_noteWater_7 : decode cX8_noteWater 7 = .ok (.if_icmp .ge 42, 3) := by decide +kernel
theorem dX8_noteWater_10 : decode cX8_noteWater 10 = .ok (.iconst 0, 1) := by decide +kernel
theorem dX8_noteWater_11 : decode cX8_noteWater 11 = .ok (.istore_n 2, 1) := by decide +kernel
theorem dX8_noteWater_12 : decode cX8_noteWater 12 = .ok (.iload_n 2, 1) := by decide +kernel
theorem dX8_noteWater_13 : decode cX8_noteWater 13 = .ok (.aload_n 0, 1) := by decide +kernel
theorem dX8_noteWater_14 : decode cX8_noteWater 14 = .ok (.getfield 52, 3) := by decide +kernel
theorem dX8_noteWater_17 : decode cX8_noteWater 17 = .ok (.getfield 78, 3) := by decide +kernel
theorem dX8_noteWater_20 : decode cX8_noteWater 20 = .ok (.getfield 141, 3) := by decide +kernel
theorem dX8_noteWater_23 : decode cX8_noteWater 23 = .ok (.if_icmp .ge 26, 3) := by decide +kernel
theorem dX8_noteWater_26 : decode cX8_noteWater 26 = .ok (.aload_n 0, 1) := by decide +kernel
theorem dX8_noteWater_27 : decode cX8_noteWater 27 = .ok (.getfield 18, 3) := by decide +kernel
theorem dX8_noteWater_30 : decode cX8_noteWater 30 = .ok (.iload_n 2, 1) := by decide +kernel
theorem dX8_noteWater_31 : decode cX8_noteWater 31 = .ok (.bipush 30, 2) := by decide +kernel
theorem dX8_noteWater_33 : decode cX8_noteWater 33 = .ok (.imul, 1) := by decide +kernel
theorem dX8_noteWater_34 : decode cX8_noteWater 34 = .ok (.iload_n 1, 1) := by decide +kernel
theorem dX8_noteWater_35 : decode cX8_noteWater 35 = .ok (.iadd, 1) := by decide +kernel
theorem dX8_noteWater_36 : decode cX8_noteWater 36 = .ok (.aload_n 0, 1) := by decide +kernel
theorem dX8_noteWater_37 : decode cX8_noteWater 37 = .ok (.getfield 15, 3) := by decide +kernel
theorem dX8_noteWater_40 : decode cX8_noteWater 40 = .ok (.iload_n 2, 1) := by decide +kernel
theorem dX8_noteWater_41 : decode cX8_noteWater 41 = .ok (.iaload, 1) := by decide +kernel
theorem dX8_noteWater_42 : decode cX8_noteWater 42 = .ok (.iastore, 1) := by decide +kernel
theorem dX8_noteWater_43 : decode cX8_noteWater 43 = .ok (.iinc 2 1, 3) := by decide +kernel
theorem dX8_noteWater_46 : decode cX8_noteWater 46 = .ok (.goto (-34), 3) := by decide +kernel
theorem dX8_noteWater_49 : decode cX8_noteWater 49 = .ok (.return_, 1) := by decide +kernel
theorem dX9_init_0 : decode cX9_init 0 = .ok (.aload_n 0, 1) := by decide +kernel
theorem dX9_init_1 : decode cX9_init 1 = .ok (.invokespecial 1, 3) := by decide +kernel
theorem dX9_init_4 : decode cX9_init 4 = .ok (.aload_n 0, 1) := by decide +kernel
theorem dX9_init_5 : decode cX9_init 5 = .ok (.new 7, 3) := by decide +kernel
theorem dX9_init_8 : decode cX9_init 8 = .ok (.dup, 1) := by decide +kernel
theorem dX9_init_9 : decode cX9_init 9 = .ok (.invokespecial 9, 3) := by decide +kernel
theorem dX9_init_12 : decode cX9_init 12 = .ok (.putfield 10, 3) := by decide +kernel
theorem dX9_init_15 : decode cX9_init 15 = .ok (.aload_n 0, 1) := by decide +kernel
theorem dX9_init_16 : decode cX9_init 16 = .ok (.new 16, 3) := by decide +kernel
theorem dX9_init_19 : decode cX9_init 19 = .ok (.dup, 1) := by decide +kernel
theorem dX9_init_20 : decode cX9_init 20 = .ok (.aload_n 0, 1) := by decide +kernel
theorem dX9_init_21 : decode cX9_init 21 = .ok (.getfield 10, 3) := by decide +kernel
theorem dX9_init_24 : decode cX9_init 24 = .ok (.invokespecial 18, 3) := by decide +kernel
theorem dX9_init_27 : decode cX9_init 27 = .ok (.putfield 21, 3) := by decide +kernel
theorem dX9_init_30 : decode cX9_init 30 = .ok (.aload_n 0, 1) := by decide +kernel
theorem dX9_init_31 : decode cX9_init 31 = .ok (.new 25, 3) := by decide +kernel
theorem dX9_init_34 : decode cX9_init 34 = .ok (.dup, 1) := by decide +kernel
theorem dX9_init_35 : decode cX9_init 35 = .ok (.invokespecial 27, 3) := by decide +kernel
theorem dX9_init_38 : decode cX9_init 38 = .ok (.putfield 28, 3) := by decide +kernel
theorem dX9_init_41 : decode cX9_init 41 = .ok (.aload_n 0, 1) := by decide +kernel
theorem dX9_init_42 : decode cX9_init 42 = .ok (.new 25, 3) := by decide +kernel
theorem dX9_init_45 : decode cX9_init 45 = .ok (.dup, 1) := by decide +kernel
theorem dX9_init_46 : decode cX9_init 46 = .ok (.invokespecial 27, 3) := by decide +kernel
theorem dX9_init_49 : decode cX9_init 49 = .ok (.putfield 32, 3) := by decide +kernel
theorem dX9_init_52 : decode cX9_init 52 = .ok (.aload_n 0, 1) := by decide +kernel
theorem dX9_init_53 : decode cX9_init 53 = .ok (.iconst 3, 1) := by decide +kernel
theorem dX9_init_54 : decode cX9_init 54 = .ok (.anewarray 25, 3) := by decide +kernel
theorem dX9_init_57 : decode cX9_init 57 = .ok (.putfield 35, 3) := by decide +kernel
theorem dX9_init_60 : decode cX9_init 60 = .ok (.aload_n 0, 1) := by decide +kernel
theorem dX9_init_61 : decode cX9_init 61 = .ok (.iconst 4, 1) := by decide +kernel
theorem dX9_init_62 : decode cX9_init 62 = .ok (.anewarray 39, 3) := by decide +kernel
theorem dX9_init_65 : decode cX9_init 65 = .ok (.putfield 41, 3) := by decide +kernel
theorem dX9_init_68 : decode cX9_init 68 = .ok (.aload_n 0, 1) := by decide +kernel
theorem dX9_init_69 : decode cX9_init 69 = .ok (.new 45, 3) := by decide +kernel
theorem dX9_init_72 : decode cX9_init 72 = .ok (.dup, 1) := by decide +kernel
theorem dX9_init_73 : decode cX9_init 73 = .ok (.aload_n 0, 1) := by decide +kernel
theorem dX9_init_74 : decode cX9_init 74 = .ok (.getfield 28, 3) := by decide +kernel
theorem dX9_init_77 : decode cX9_init 77 = .ok (.invokespecial 47, 3) := by decide +kernel
theorem dX9_init_80 : decode cX9_init 80 = .ok (.putfield 50, 3) := by decide +kernel
theorem dX9_init_83 : decode cX9_init 83 = .ok (.aload_n 0, 1) := by decide +kernel
theorem dX9_init_84 : decode cX9_init 84 = .ok (.new 54, 3) := by decide +kernel
theorem dX9_init_87 : decode cX9_init 87 = .ok (.dup, 1) := by decide +kernel
theorem dX9_init_88 : decode cX9_init 88 = .ok (.aload_n 0, 1) := by decide +kernel
theorem dX9_init_89 : decode cX9_init 89 = .ok (.getfield 28, 3) := by decide +kernel
theorem dX9_init_92 : decode cX9_init 92 = .ok (.aload_n 0, 1) := by decide +kernel
theorem dX9_init_93 : decode cX9_init 93 = .ok (.getfield 50, 3) := by decide +kernel
theorem dX9_init_96 : decode cX9_init 96 = .ok (.invokespecial 56, 3) := by decide +kernel
theorem dX9_init_99 : decode cX9_init 99 = .ok (.putfield 59, 3) := by decide +kernel
theorem dX9_init_102 : decode cX9_init 102 = .ok (.aload_n 0, 1) := by decide +kernel
theorem dX9_init_103 : decode cX9_init 103 = .ok (.new 63, 3) := by decide +kernel
theorem dX9_init_106 : decode cX9_init 106 = .ok (.dup, 1) := by decide +kernel
theorem dX9_init_107 : decode cX9_init 107 = .ok (.aload_n 0, 1) := by decide +kernel
theorem dX9_init_108 : decode cX9_init 108 = .ok (.getfield 28, 3) := by decide +kernel
theorem dX9_init_111 : decode cX9_init 111 = .ok (.aload_n 0, 1) := by decide +kernel
theorem dX9_init_112 : decode cX9_init 112 = .ok (.getfield 50, 3) := by decide +kernel
theorem dX9_init_115 : decode cX9_init 115 = .ok (.invokespecial 65, 3) := by decide +kernel
theorem dX9_init_118 : decode cX9_init 118 = .ok (.putfield 66, 3) := by decide +kernel
theorem dX9_init_121 : decode cX9_init 121 = .ok (.return_, 1) := by decide +kernel
theorem dX9_feed_0 : decode cX9_feed 0 = .ok (.aload_n 0, 1) := by decide +kernel
theorem dX9_feed_1 : decode cX9_feed 1 = .ok (.getfield 10, 3) := by decide +kernel
theorem dX9_feed_4 : decode cX9_feed 4 = .ok (.bipush 20, 2) := by decide +kernel
theorem dX9_feed_6 : decode cX9_feed 6 = .ok (.invokevirtual 70, 3) := by decide +kernel
theorem dX9_feed_9 : decode cX9_feed 9 = .ok (.ifCond .ne 5, 3) := by decide +kernel
theorem dX9_feed_12 : decode cX9_feed 12 = .ok (.iconst (-1), 1) := by decide +kernel
theorem dX9_feed_13 : decode cX9_feed 13 = .ok (.ireturn, 1) := by decide +kernel
theorem dX9_feed_14 : decode cX9_feed 14 = .ok (.aload_n 0, 1) := by decide +kernel
theorem dX9_feed_15 : decode cX9_feed 15 = .ok (.getfield 10, 3) := by decide +kernel
theorem dX9_feed_18 : decode cX9_feed 18 = .ok (.iload_n 1, 1) := by decide +kernel
theorem dX9_feed_19 : decode cX9_feed 19 = .ok (.invokevirtual 74, 3) := by decide +kernel
theorem dX9_feed_22 : decode cX9_feed 22 = .ok (.aload_n 0, 1) := by decide +kernel
theorem dX9_feed_23 : decode cX9_feed 23 = .ok (.getfield 10, 3) := by decide +kernel
theorem dX9_feed_26 : decode cX9_feed 26 = .ok (.iload_n 2, 1) := by decide +kernel
theorem dX9_feed_27 : decode cX9_feed 27 = .ok (.invokevirtual 74, 3) := by decide +kernel
theorem dX9_feed_30 : decode cX9_feed 30 = .ok (.aload_n 0, 1) := by decide +kernel
theorem dX9_feed_31 : decode cX9_feed 31 = .ok (.getfield 10, 3) := by decide +kernel
theorem dX9_feed_34 : decode cX9_feed 34 = .ok (.iload_n 3, 1) := by decide +kernel
theorem dX9_feed_35 : decode cX9_feed 35 = .ok (.invokevirtual 74, 3) := by decide +kernel
theorem dX9_feed_38 : decode cX9_feed 38 = .ok (.aload_n 0, 1) := by decide +kernel
theorem dX9_feed_39 : decode cX9_feed 39 = .ok (.getfield 10, 3) := by decide +kernel
theorem dX9_feed_42 : decode cX9_feed 42 = .ok (.iload 4, 2) := by decide +kernel
theorem dX9_feed_44 : decode cX9_feed 44 = .ok (.invokevirtual 74, 3) := by decide +kernel
theorem dX9_feed_47 : decode cX9_feed 47 = .ok (.aload_n 0, 1) := by decide +kernel
theorem dX9_feed_48 : decode cX9_feed 48 = .ok (.getfield 10, 3) := by decide +kernel
theorem dX9_feed_51 : decode cX9_feed 51 = .ok (.iload 5, 2) := by decide +kernel
theorem dX9_feed_53 : decode cX9_feed 53 = .ok (.invokevirtual 74, 3) := by decide +kernel
theorem dX9_feed_56 : decode cX9_feed 56 = .ok (.aload_n 0, 1) := by decide +kernel
theorem dX9_feed_57 : decode cX9_feed 57 = .ok (.getfield 10, 3) := by decide +kernel
theorem dX9_feed_60 : decode cX9_feed 60 = .ok (.getfield 78, 3) := by decide +kernel
theorem dX9_feed_63 : decode cX9_feed 63 = .ok (.ireturn, 1) := by decide +kernel
theorem dX9_end_0 : decode cX9_end 0 = .ok (.iload_n 1, 1) := by decide +kernel
theorem dX9_end_1 : decode cX9_end 1 = .ok (.ifCond .lt 14, 3) := by decide +kernel
theorem dX9_end_4 : decode cX9_end 4 = .ok (.iload_n 1, 1) := by decide +kernel
theorem dX9_end_5 : decode cX9_end 5 = .ok (.aload_n 0, 1) := by decide +kernel
theorem dX9_end_6 : decode cX9_end 6 = .ok (.getfield 10, 3) := by decide +kernel
theorem dX9_end_9 : decode cX9_end 9 = .ok (.getfield 78, 3) := by decide +kernel
theorem dX9_end_12 : decode cX9_end 12 = .ok (.if_icmp .le 5, 3) := by decide +kernel
theorem dX9_end_15 : decode cX9_end 15 = .ok (.iconst (-1), 1) := by decide +kernel
theorem dX9_end_16 : decode cX9_end 16 = .ok (.ireturn, 1) := by decide +kernel
theorem dX9_end_17 : decode cX9_end 17 = .ok (.aload_n 0, 1) := by decide +kernel
theorem dX9_end_18 : decode cX9_end 18 = .ok (.getfield 10, 3) := by decide +kernel
theorem dX9_end_21 : decode cX9_end 21 = .ok (.iload_n 1, 1) := by decide +kernel
theorem dX9_end_22 : decode cX9_end 22 = .ok (.putfield 78, 3) := by decide +kernel
theorem dX9_end_25 : decode cX9_end 25 = .ok (.iload_n 1, 1) := by decide +kernel
theorem dX9_end_26 : decode cX9_end 26 = .ok (.ireturn, 1) := by decide +kernel
theorem dX9_plain_0 : decode cX9_plain 0 = .ok (.aload_n 0, 1) := by decide +kernel
theorem dX9_plain_1 : decode cX9_plain 1 = .ok (.getfield 21, 3) := by decide +kernel
theorem dX9_plain_4 : decode cX9_plain 4 = .ok (.aload_n 0, 1) := by decide +kernel
theorem dX9_plain_5 : decode cX9_plain 5 = .ok (.getfield 32, 3) := by decide +kernel
theorem dX9_plain_8 : decode cX9_plain 8 = .ok (.invokevirtual 82, 3) := by decide +kernel
theorem dX9_plain_11 : decode cX9_plain 11 = .ok (.istore_n 1, 1) := by decide +kernel
theorem dX9_plain_12 : decode cX9_plain 12 = .ok (.aload_n 0, 1) := by decide +kernel
theorem dX9_plain_13 : decode cX9_plain 13 = .ok (.getfield 10, 3) := by decide +kernel
theorem dX9_plain_16 : decode cX9_plain 16 = .ok (.iconst 0, 1) := by decide +kernel
theorem dX9_plain_17 : decode cX9_plain 17 = .ok (.putfield 78, 3) := by decide +kernel
theorem dX9_plain_20 : decode cX9_plain 20 = .ok (.iload_n 1, 1) := by decide +kernel
theorem dX9_plain_21 : decode cX9_plain 21 = .ok (.ifCond .ne 6, 3) := by decide +kernel
theorem dX9_plain_24 : decode cX9_plain 24 = .ok (.bipush (-4), 2) := by decide +kernel
theorem dX9_plain_26 : decode cX9_plain 26 = .ok (.ireturn, 1) := by decide +kernel
theorem dX9_plain_27 : decode cX9_plain 27 = .ok (.aload_n 0, 1) := by decide +kernel
theorem dX9_plain_28 : decode cX9_plain 28 = .ok (.getfield 28, 3) := by decide +kernel
theorem dX9_plain_31 : decode cX9_plain 31 = .ok (.aload_n 0, 1) := by decide +kernel
theorem dX9_plain_32 : decode cX9_plain 32 = .ok (.getfield 32, 3) := by decide +kernel
theorem dX9_plain_35 : decode cX9_plain 35 = .ok (.invokevirtual 86, 3) := by decide +kernel
theorem dX9_plain_38 : decode cX9_plain 38 = .ok (.aload_n 0, 1) := by decide +kernel
theorem dX9_plain_39 : decode cX9_plain 39 = .ok (.getfield 59, 3) := by decide +kernel
theorem dX9_plain_42 : decode cX9_plain 42 = .ok (.invokevirtual 89, 3) := by decide +kernel
theorem dX9_plain_45 : decode cX9_plain 45 = .ok (.aload_n 0, 1) := by decide +kernel
theorem dX9_plain_46 : decode cX9_plain 46 = .ok (.getfield 28, 3) := by decide +kernel
theorem dX9_plain_49 : decode cX9_plain 49 = .ok (.getfield 92, 3) := by decide +kernel
theorem dX9_plain_52 : decode cX9_plain 52 = .ok (.ireturn, 1) := by decide +kernel
theorem dX9_fault_0 : decode cX9_fault 0 = .ok (.iload_n 1, 1) := by decide +kernel
theorem dX9_fault_1 : decode cX9_fault 1 = .ok (.ifCond .ne 11, 3) := by decide +kernel
theorem dX9_fault_4 : decode cX9_fault 4 = .ok (.aload_n 0, 1) := by decide +kernel
theorem dX9_fault_5 : decode cX9_fault 5 = .ok (.getfield 21, 3) := by decide +kernel
theorem dX9_fault_8 : decode cX9_fault 8 = .ok (.getfield 95, 3) := by decide +kernel
theorem dX9_fault_11 : decode cX9_fault 11 = .ok (.ireturn, 1) := by decide +kernel
theorem dX9_fault_12 : decode cX9_fault 12 = .ok (.iload_n 1, 1) := by decide +kernel
theorem dX9_fault_13 : decode cX9_fault 13 = .ok (.iconst 1, 1) := by decide +kernel
theorem dX9_fault_14 : decode cX9_fault 14 = .ok (.if_icmp .ne 13, 3) := by decide +kernel
theorem dX9_fault_17 : decode cX9_fault 17 = .ok (.aload_n 0, 1) := by decide +kernel
theorem dX9_fault_18 : decode cX9_fault 18 = .ok (.getfield 21, 3) := by decide +kernel
theorem dX9_fault_21 : decode cX9_fault 21 = .ok (.getfield 98, 3) := by decide +kernel
theorem dX9_fault_24 : decode cX9_fault 24 = .ok (.goto 4, 3) := by decide +kernel
theorem dX9_fault_27 : decode cX9_fault 27 = .ok (.iconst (-1), 1) := by decide +kernel
theorem dX9_fault_28 : decode cX9_fault 28 = .ok (.ireturn, 1) := by decide +kernel
theorem dX9_village_0 : decode cX9_village 0 = .ok (.aload_n 0, 1) := by decide +kernel
theorem dX9_village_1 : decode cX9_village 1 = .ok (.iload_n 1, 1) := by decide +kernel
theorem dX9_village_2 : decode cX9_village 2 = .ok (.invokevirtual 101, 3) := by decide +kernel
theorem dX9_village_5 : decode cX9_village 5 = .ok (.ifCond .eq 12, 3) := by decide +kernel
theorem dX9_village_8 : decode cX9_village 8 = .ok (.iload_n 2, 1) := by decide +kernel
theorem dX9_village_9 : decode cX9_village 9 = .ok (.ifCond .lt 8, 3) := by decide +kernel
theorem dX9_village_12 : decode cX9_village 12 = .ok (.iload_n 2, 1) := by decide +kernel
theorem dX9_village_13 : decode cX9_village 13 = .ok (.iconst 5, 1) := by decide +kernel
theorem dX9_village_14 : decode cX9_village 14 = .ok (.if_icmp .lt 6, 3) := by decide +kernel
theorem dX9_village_17 : decode cX9_village 17 = .ok (.bipush (-2), 2) := by decide +kernel
theorem dX9_village_19 : decode cX9_village 19 = .ok (.ireturn, 1) := by decide +kernel
theorem dX9_village_20 : decode cX9_village 20 = .ok (.aload_n 0, 1) := by decide +kernel
theorem dX9_village_21 : decode cX9_village 21 = .ok (.getfield 28, 3) := by decide +kernel
theorem dX9_village_24 : decode cX9_village 24 = .ok (.getfield 104, 3) := by decide +kernel
theorem dX9_village_27 : decode cX9_village 27 = .ok (.iload_n 1, 1) := by decide +kernel
theorem dX9_village_28 : decode cX9_village 28 = .ok (.iload_n 2, 1) := by decide +kernel
theorem dX9_village_29 : decode cX9_village 29 = .ok (.invokevirtual 108, 3) := by decide +kernel
theorem dX9_village_32 : decode cX9_village 32 = .ok (.ireturn, 1) := by decide +kernel
theorem dX9_takes_0 : decode cX9_takes 0 = .ok (.aload_n 0, 1) := by decide +kernel
theorem dX9_takes_1 : decode cX9_takes 1 = .ok (.iload_n 1, 1) := by decide +kernel
theorem dX9_takes_2 : decode cX9_takes 2 = .ok (.invokevirtual 114, 3) := by decide +kernel
theorem dX9_takes_5 : decode cX9_takes 5 = .ok (.ifCond .eq 16, 3) := by decide +kernel
theorem dX9_takes_8 : decode cX9_takes 8 = .ok (.iload_n 2, 1) := by decide +kernel
theorem dX9_takes_9 : decode cX9_takes 9 = .ok (.iconst (-1), 1) := by decide +kernel
theorem dX9_takes_10 : decode cX9_takes 10 = .ok (.if_icmp .eq 14, 3) := by decide +kernel
theorem dX9_takes_13 : decode cX9_takes 13 = .ok (.aload_n 0, 1) := by decide +kernel
theorem dX9_takes_14 : decode cX9_takes 14 = .ok (.iload_n 2, 1) := by decide +kernel
theorem dX9_takes_15 : decode cX9_takes 15 = .ok (.invokevirtual 101, 3) := by decide +kernel
theorem dX9_takes_18 : decode cX9_takes 18 = .ok (.ifCond .ne 6, 3) := by decide +kernel
theorem dX9_takes_21 : decode cX9_takes 21 = .ok (.bipush (-2), 2) := by decide +kernel
theorem dX9_takes_23 : decode cX9_takes 23 = .ok (.ireturn, 1) := by decide +kernel
theorem dX9_takes_24 : decode cX9_takes 24 = .ok (.aload_n 0, 1) := by decide +kernel
theorem dX9_takes_25 : decode cX9_takes 25 = .ok (.getfield 28, 3) := by decide +kernel
theorem dX9_takes_28 : decode cX9_takes 28 = .ok (.getfield 117, 3) := by decide +kernel
theorem dX9_takes_31 : decode cX9_takes 31 = .ok (.iload_n 1, 1) := by decide +kernel
theorem dX9_takes_32 : decode cX9_takes 32 = .ok (.iconst 3, 1) := by decide +kernel
theorem dX9_takes_33 : decode cX9_takes 33 = .ok (.invokevirtual 108, 3) := by decide +kernel
theorem dX9_takes_36 : decode cX9_takes 36 = .ok (.istore_n 3, 1) := by decide +kernel
theorem dX9_takes_37 : decode cX9_takes 37 = .ok (.aload_n 0, 1) := by decide +kernel
theorem dX9_takes_38 : decode cX9_takes 38 = .ok (.getfield 28, 3) := by decide +kernel
theorem dX9_takes_41 : decode cX9_takes 41 = .ok (.getfield 117, 3) := by decide +kernel
theorem dX9_takes_44 : decode cX9_takes 44 = .ok (.iload_n 1, 1) := by decide +kernel
theorem dX9_takes_45 : decode cX9_takes 45 = .ok (.iconst 3, 1) := by decide +kernel
theorem dX9_takes_46 : decode cX9_takes 46 = .ok (.iload_n 2, 1) := by decide +kernel
theorem dX9_takes_47 : decode cX9_takes 47 = .ok (.invokevirtual 120, 3) := by decide +kernel
theorem dX9_takes_50 : decode cX9_takes 50 = .ok (.iload_n 3, 1) := by decide +kernel
theorem dX9_takes_51 : decode cX9_takes 51 = .ok (.ireturn, 1) := by decide +kernel
theorem dX9_more_0 : decode cX9_more 0 = .ok (.aload_n 0, 1) := by decide +kernel
theorem dX9_more_1 : decode cX9_more 1 = .ok (.invokevirtual 124, 3) := by decide +kernel
theorem dX9_more_4 : decode cX9_more 4 = .ok (.ifCond .eq 13, 3) := by decide +kernel
theorem dX9_more_7 : decode cX9_more 7 = .ok (.iload_n 1, 1) := by decide +kernel
theorem dX9_more_8 : decode cX9_more 8 = .ok (.ifCond .lt 9, 3) := by decide +kernel
theorem dX9_more_11 : decode cX9_more 11 = .ok (.iload_n 1, 1) := by decide +kernel
theorem dX9_more_12 : decode cX9_more 12 = .ok (.bipush 100, 2) := by decide +kernel
theorem dX9_more_14 : decode cX9_more 14 = .ok (.if_icmp .le 6, 3) := by decide +kernel
theorem dX9_more_17 : decode cX9_more 17 = .ok (.bipush (-2), 2) := by decide +kernel
theorem dX9_more_19 : decode cX9_more 19 = .ok (.ireturn, 1) := by decide +kernel
theorem dX9_more_20 : decode cX9_more 20 = .ok (.aload_n 0, 1) := by decide +kernel
theorem dX9_more_21 : decode cX9_more 21 = .ok (.getfield 28, 3) := by decide +kernel
theorem dX9_more_24 : decode cX9_more 24 = .ok (.getfield 128, 3) := by decide +kernel
theorem dX9_more_27 : decode cX9_more 27 = .ok (.istore_n 2, 1) := by decide +kernel
theorem dX9_more_28 : decode cX9_more 28 = .ok (.aload_n 0, 1) := by decide +kernel
theorem dX9_more_29 : decode cX9_more 29 = .ok (.getfield 28, 3) := by decide +kernel
theorem dX9_more_32 : decode cX9_more 32 = .ok (.iload_n 1, 1) := by decide +kernel
theorem dX9_more_33 : decode cX9_more 33 = .ok (.putfield 128, 3) := by decide +kernel
theorem dX9_more_36 : decode cX9_more 36 = .ok (.aload_n 0, 1) := by decide +kernel
theorem dX9_more_37 : decode cX9_more 37 = .ok (.getfield 59, 3) := by decide +kernel
theorem dX9_more_40 : decode cX9_more 40 = .ok (.invokevirtual 89, 3) := by decide +kernel
theorem dX9_more_43 : decode cX9_more 43 = .ok (.iload_n 2, 1) := by decide +kernel
theorem dX9_more_44 : decode cX9_more 44 = .ok (.ireturn, 1) := by decide +kernel
theorem dX9_count_0 : decode cX9_count 0 = .ok (.iload_n 1, 1) := by decide +kernel
theorem dX9_count_1 : decode cX9_count 1 = .ok (.tableswitch 144 0 9 #[55, 63, 74, 85, 96, 107, 115, 123, 131, 139], 55) := by decide +kernel
theorem dX9_count_56 : decode cX9_count 56 = .ok (.aload_n 0, 1) := by decide +kernel
theorem dX9_count_57 : decode cX9_count 57 = .ok (.getfield 28, 3) := by decide +kernel
theorem dX9_count_60 : decode cX9_count 60 = .ok (.getfield 131, 3) := by decide +kernel
theorem dX9_count_63 : decode cX9_count 63 = .ok (.ireturn, 1) := by decide +kernel
theorem dX9_count_64 : decode cX9_count 64 = .ok (.aload_n 0, 1) := by decide +kernel
theorem dX9_count_65 : decode cX9_count 65 = .ok (.getfield 28, 3) := by decide +kernel
theorem dX9_count_68 : decode cX9_count 68 = .ok (.getfield 104, 3) := by decide +kernel
theorem dX9_count_71 : decode cX9_count 71 = .ok (.getfield 134, 3) := by decide +kernel
theorem dX9_count_74 : decode cX9_count 74 = .ok (.ireturn, 1) := by decide +kernel
theorem dX9_count_75 : decode cX9_count 75 = .ok (.aload_n 0, 1) := by decide +kernel
theorem dX9_count_76 : decode cX9_count 76 = .ok (.getfield 28, 3) := by decide +kernel
theorem dX9_count_79 : decode cX9_count 79 = .ok (.getfield 137, 3) := by decide +kernel
theorem dX9_count_82 : decode cX9_count 82 = .ok (.getfield 134, 3) := by decide +kernel
theorem dX9_count_85 : decode cX9_count 85 = .ok (.ireturn, 1) := by decide +kernel
theorem dX9_count_86 : decode cX9_count 86 = .ok (.aload_n 0, 1) := by decide +kernel
theorem dX9_count_87 : decode cX9_count 87 = .ok (.getfield 28, 3) := by decide +kernel
theorem dX9_count_90 : decode cX9_count 90 = .ok (.getfield 117, 3) := by decide +kernel
theorem dX9_count_93 : decode cX9_count 93 = .ok (.getfield 134, 3) := by decide +kernel
theorem dX9_count_96 : decode cX9_count 96 = .ok (.ireturn, 1) := by decide +kernel
theorem dX9_count_97 : decode cX9_count 97 = .ok (.aload_n 0, 1) := by decide +kernel
theorem dX9_count_98 : decode cX9_count 98 = .ok (.getfield 28, 3) := by decide +kernel
theorem dX9_count_101 : decode cX9_count 101 = .ok (.getfield 140, 3) := by decide +kernel
theorem dX9_count_104 : decode cX9_count 104 = .ok (.getfield 134, 3) := by decide +kernel
theorem dX9_count_107 : decode cX9_count 107 = .ok (.ireturn, 1) := by decide +kernel
theorem dX9_count_108 : decode cX9_count 108 = .ok (.aload_n 0, 1) := by decide +kernel
theorem dX9_count_109 : decode cX9_count 109 = .ok (.getfield 28, 3) := by decide +kernel
theorem dX9_count_112 : decode cX9_count 112 = .ok (.getfield 92, 3) := by decide +kernel
theorem dX9_count_115 : decode cX9_count 115 = .ok (.ireturn, 1) := by decide +kernel
theorem dX9_count_116 : decode cX9_count 116 = .ok (.aload_n 0, 1) := by decide +kernel
theorem dX9_count_117 : decode cX9_count 117 = .ok (.getfield 10, 3) := by decide +kernel
theorem dX9_count_120 : decode cX9_count 120 = .ok (.getfield 78, 3) := by decide +kernel
theorem dX9_count_123 : decode cX9_count 123 = .ok (.ireturn, 1) := by decide +kernel
theorem dX9_count_124 : decode cX9_count 124 = .ok (.aload_n 0, 1) := by decide +kernel
theorem dX9_count_125 : decode cX9_count 125 = .ok (.getfield 28, 3) := by decide +kernel
theorem dX9_count_128 : decode cX9_count 128 = .ok (.getfield 128, 3) := by decide +kernel
theorem dX9_count_131 : decode cX9_count 131 = .ok (.ireturn, 1) := by decide +kernel
theorem dX9_count_132 : decode cX9_count 132 = .ok (.aload_n 0, 1) := by decide +kernel
theorem dX9_count_133 : decode cX9_count 133 = .ok (.getfield 28, 3) := by decide +kernel
theorem dX9_count_136 : decode cX9_count 136 = .ok (.getfield 143, 3) := by decide +kernel
theorem dX9_count_139 : decode cX9_count 139 = .ok (.ireturn, 1) := by decide +kernel
theorem dX9_count_140 : decode cX9_count 140 = .ok (.aload_n 0, 1) := by decide +kernel
theorem dX9_count_141 : decode cX9_count 141 = .ok (.invokevirtual 146, 3) := by decide +kernel
theorem dX9_count_144 : decode cX9_count 144 = .ok (.ireturn, 1) := by decide +kernel
theorem dX9_count_145 : decode cX9_count 145 = .ok (.iconst (-1), 1) := by decide +kernel
theorem dX9_count_146 : decode cX9_count 146 = .ok (.ireturn, 1) := by decide +kernel
theorem dX9_slotsWithRows_0 : decode cX9_slotsWithRows 0 = .ok (.iconst 0, 1) := by decide +kernel
theorem dX9_slotsWithRows_1 : decode cX9_slotsWithRows 1 = .ok (.istore_n 1, 1) := by decide +kernel
theorem dX9_slotsWithRows_2 : decode cX9_slotsWithRows 2 = .ok (.iconst 0, 1) := by decide +kernel
theorem dX9_slotsWithRows_3 : decode cX9_slotsWithRows 3 = .ok (.istore_n 2, 1) := by decide +kernel
theorem dX9_slotsWithRows_4 : decode cX9_slotsWithRows 4 = .ok (.iload_n 2, 1) := by decide +kernel
theorem dX9_slotsWithRows_5 : decode cX9_slotsWithRows 5 = .ok (.iconst 4, 1) := by decide +kernel
theorem dX9_slotsWithRows_6 : decode cX9_slotsWithRows 6 = .ok (.if_icmp .ge 21, 3) := by decide +kernel
theorem dX9_slotsWithRows_9 : decode cX9_slotsWithRows 9 = .ok (.aload_n 0, 1) := by decide +kernel
theorem dX9_slotsWithRows_10 : decode cX9_slotsWithRows 10 = .ok (.getfield 41, 3) := by decide +kernel
theorem dX9_slotsWithRows_13 : decode cX9_slotsWithRows 13 = .ok (.iload_n 2, 1) := by decide +kernel
theorem dX9_slotsWithRows_14 : decode cX9_slotsWithRows 14 = .ok (.aaload, 1) := by decide +kernel
theorem dX9_slotsWithRows_15 : decode cX9_slotsWithRows 15 = .ok (.ifnull 6, 3) := by decide +kernel
theorem dX9_slotsWithRows_18 : decode cX9_slotsWithRows 18 = .ok (.iinc 1 1, 3) := by decide +kernel
theorem dX9_slotsWithRows_21 : decode cX9_slotsWithRows 21 = .ok (.iinc 2 1, 3) := by decide +kernel
theorem dX9_slotsWithRows_24 : decode cX9_slotsWithRows 24 = .ok (.goto (-20), 3) := by decide +kernel
theorem dX9_slotsWithRows_27 : decode cX9_slotsWithRows 27 = .ok (.iload_n 1, 1) := by decide +kernel
theorem dX9_slotsWithRows_28 : decode cX9_slotsWithRows 28 = .ok (.ireturn, 1) := by decide +kernel
theorem dX9_hasPlain_0 : decode cX9_hasPlain 0 = .ok (.aload_n 0, 1) := by decide +kernel
theorem dX9_hasPlain_1 : decode cX9_hasPlain 1 = .ok (.getfield 28, 3) := by decide +kernel
theorem dX9_hasPlain_4 : decode cX9_hasPlain 4 = .ok (.getfield 92, 3) := by decide +kernel
theorem dX9_hasPlain_7 : decode cX9_hasPlain 7 = .ok (.ifCond .le 7, 3) := by decide +kernel
theorem dX9_hasPlain_10 : decode cX9_hasPlain 10 = .ok (.iconst 1, 1) := by decide +kernel
theorem dX9_hasPlain_11 : decode cX9_hasPlain 11 = .ok (.goto 4, 3) := by decide +kernel
theorem dX9_hasPlain_14 : decode cX9_hasPlain 14 = .ok (.iconst 0, 1) := by decide +kernel
theorem dX9_hasPlain_15 : decode cX9_hasPlain 15 = .ok (.ireturn, 1) := by decide +kernel
theorem dX9_hasVillage_0 : decode cX9_hasVillage 0 = .ok (.aload_n 0, 1) := by decide +kernel
theorem dX9_hasVillage_1 : decode cX9_hasVillage 1 = .ok (.getfield 28, 3) := by decide +kernel
theorem dX9_hasVillage_4 : decode cX9_hasVillage 4 = .ok (.getfield 104, 3) := by decide +kernel
theorem dX9_hasVillage_7 : decode cX9_hasVillage 7 = .ok (.iload_n 1, 1) := by decide +kernel
theorem dX9_hasVillage_8 : decode cX9_hasVillage 8 = .ok (.invokevirtual 150, 3) := by decide +kernel
theorem dX9_hasVillage_11 : decode cX9_hasVillage 11 = .ok (.ireturn, 1) := by decide +kernel
theorem dX9_hasFlood_0 : decode cX9_hasFlood 0 = .ok (.aload_n 0, 1) := by decide +kernel
theorem dX9_hasFlood_1 : decode cX9_hasFlood 1 = .ok (.getfield 28, 3) := by decide +kernel
theorem dX9_hasFlood_4 : decode cX9_hasFlood 4 = .ok (.getfield 117, 3) := by decide +kernel
theorem dX9_hasFlood_7 : decode cX9_hasFlood 7 = .ok (.iload_n 1, 1) := by decide +kernel
theorem dX9_hasFlood_8 : decode cX9_hasFlood 8 = .ok (.invokevirtual 150, 3) := by decide +kernel
theorem dX9_hasFlood_11 : decode cX9_hasFlood 11 = .ok (.ireturn, 1) := by decide +kernel
theorem dX9_hasWeek_0 : decode cX9_hasWeek 0 = .ok (.iload_n 1, 1) := by decide +kernel
theorem dX9_hasWeek_1 : decode cX9_hasWeek 1 = .ok (.ifCond .lt 18, 3) := by decide +kernel
theorem dX9_hasWeek_4 : decode cX9_hasWeek 4 = .ok (.iload_n 1, 1) := by decide +kernel
theorem dX9_hasWeek_5 : decode cX9_hasWeek 5 = .ok (.aload_n 0, 1) := by decide +kernel
theorem dX9_hasWeek_6 : decode cX9_hasWeek 6 = .ok (.getfield 28, 3) := by decide +kernel
theorem dX9_hasWeek_9 : decode cX9_hasWeek 9 = .ok (.getfield 131, 3) := by decide +kernel
theorem dX9_hasWeek_12 : decode cX9_hasWeek 12 = .ok (.if_icmp .ge 7, 3) := by decide +kernel
theorem dX9_hasWeek_15 : decode cX9_hasWeek 15 = .ok (.iconst 1, 1) := by decide +kernel
theorem dX9_hasWeek_16 : decode cX9_hasWeek 16 = .ok (.goto 4, 3) := by decide +kernel
theorem dX9_hasWeek_19 : decode cX9_hasWeek 19 = .ok (.iconst 0, 1) := by decide +kernel
theorem dX9_hasWeek_20 : decode cX9_hasWeek 20 = .ok (.ireturn, 1) := by decide +kernel
theorem dX9_goThroughYear_0 : decode cX9_goThroughYear 0 = .ok (.aload_n 0, 1) := by decide +kernel
theorem dX9_goThroughYear_1 : decode cX9_goThroughYear 1 = .ok (.getfield 50, 3) := by decide +kernel
theorem dX9_goThroughYear_4 : decode cX9_goThroughYear 4 = .ok (.invokevirtual 153, 3) := by decide +kernel
theorem dX9_goThroughYear_7 : decode cX9_goThroughYear 7 = .ok (.aload_n 0, 1) := by decide +kernel
theorem dX9_goThroughYear_8 : decode cX9_goThroughYear 8 = .ok (.getfield 50, 3) := by decide +kernel
theorem dX9_goThroughYear_11 : decode cX9_goThroughYear 11 = .ok (.invokevirtual 156, 3) := by decide +kernel
theorem dX9_goThroughYear_14 : decode cX9_goThroughYear 14 = .ok (.return_, 1) := by decide +kernel
theorem dX9_water_0 : decode cX9_water 0 = .ok (.aload_n 0, 1) := by decide +kernel
theorem dX9_water_1 : decode cX9_water 1 = .ok (.iload_n 1, 1) := by decide +kernel
theorem dX9_water_2 : decode cX9_water 2 = .ok (.invokevirtual 101, 3) := by decide +kernel
theorem dX9_water_5 : decode cX9_water 5 = .ok (.ifCond .eq 11, 3) := by decide +kernel
theorem dX9_water_8 : decode cX9_water 8 = .ok (.aload_n 0, 1) := by decide +kernel
theorem dX9_water_9 : decode cX9_water 9 = .ok (.iload_n 2, 1) := by decide +kernel
theorem dX9_water_10 : decode cX9_water 10 = .ok (.invokevirtual 159, 3) := by decide +kernel
theorem dX9_water_13 : decode cX9_water 13 = .ok (.ifCond .ne 6, 3) := by decide +kernel
theorem dX9_water_16 : decode cX9_water 16 = .ok (.bipush (-2), 2) := by decide +kernel
theorem dX9_water_18 : decode cX9_water 18 = .ok (.ireturn, 1) := by decide +kernel
theorem dX9_water_19 : decode cX9_water 19 = .ok (.aload_n 0, 1) := by decide +kernel
theorem dX9_water_20 : decode cX9_water 20 = .ok (.invokevirtual 162, 3) := by decide +kernel
theorem dX9_water_23 : decode cX9_water 23 = .ok (.aload_n 0, 1) := by decide +kernel
theorem dX9_water_24 : decode cX9_water 24 = .ok (.getfield 50, 3) := by decide +kernel
theorem dX9_water_27 : decode cX9_water 27 = .ok (.iload_n 1, 1) := by decide +kernel
theorem dX9_water_28 : decode cX9_water 28 = .ok (.iload_n 2, 1) := by decide +kernel
theorem dX9_water_29 : decode cX9_water 29 = .ok (.invokevirtual 165, 3) := by decide +kernel
theorem dX9_water_32 : decode cX9_water 32 = .ok (.ireturn, 1) := by decide +kernel
theorem dX9_flood_0 : decode cX9_flood 0 = .ok (.aload_n 0, 1) := by decide +kernel
theorem dX9_flood_1 : decode cX9_flood 1 = .ok (.iload_n 1, 1) := by decide +kernel
theorem dX9_flood_2 : decode cX9_flood 2 = .ok (.invokevirtual 114, 3) := by decide +kernel
theorem dX9_flood_5 : decode cX9_flood 5 = .ok (.ifCond .ne 6, 3) := by decide +kernel
theorem dX9_flood_8 : decode cX9_flood 8 = .ok (.bipush (-2), 2) := by decide +kernel
theorem dX9_flood_10 : decode cX9_flood 10 = .ok (.ireturn, 1) := by decide +kernel
theorem dX9_flood_11 : decode cX9_flood 11 = .ok (.aload_n 0, 1) := by decide +kernel
theorem dX9_flood_12 : decode cX9_flood 12 = .ok (.invokevirtual 162, 3) := by decide +kernel
theorem dX9_flood_15 : decode cX9_flood 15 = .ok (.aload_n 0, 1) := by decide +kernel
theorem dX9_flood_16 : decode cX9_flood 16 = .ok (.getfield 50, 3) := by decide +kernel
theorem dX9_flood_19 : decode cX9_flood 19 = .ok (.getfield 168, 3) := by decide +kernel
theorem dX9_flood_22 : decode cX9_flood 22 = .ok (.iload_n 1, 1) := by decide +kernel
theorem dX9_flood_23 : decode cX9_flood 23 = .ok (.iaload, 1) := by decide +kernel
theorem dX9_flood_24 : decode cX9_flood 24 = .ok (.aload_n 0, 1) := by decide +kernel
theorem dX9_flood_25 : decode cX9_flood 25 = .ok (.getfield 50, 3) := by decide +kernel
theorem dX9_flood_28 : decode cX9_flood 28 = .ok (.getfield 172, 3) := by decide +kernel
theorem dX9_flood_31 : decode cX9_flood 31 = .ok (.iload_n 1, 1) := by decide +kernel
theorem dX9_flood_32 : decode cX9_flood 32 = .ok (.iaload, 1) := by decide +kernel
theorem dX9_flood_33 : decode cX9_flood 33 = .ok (.aload_n 0, 1) := by decide +kernel
theorem dX9_flood_34 : decode cX9_flood 34 = .ok (.getfield 50, 3) := by decide +kernel
theorem dX9_flood_37 : decode cX9_flood 37 = .ok (.getfield 175, 3) := by decide +kernel
theorem dX9_flood_40 : decode cX9_flood 40 = .ok (.iload_n 1, 1) := by decide +kernel
theorem dX9_flood_41 : decode cX9_flood 41 = .ok (.iaload, 1) := by decide +kernel
theorem dX9_flood_42 : decode cX9_flood 42 = .ok (.iload_n 2, 1) := by decide +kernel
theorem dX9_flood_43 : decode cX9_flood 43 = .ok (.invokestatic 178, 3) := by decide +kernel
theorem dX9_flood_46 : decode cX9_flood 46 = .ok (.ireturn, 1) := by decide +kernel
theorem dX9_loan_0 : decode cX9_loan 0 = .ok (.aload_n 0, 1) := by decide +kernel
theorem dX9_loan_1 : decode cX9_loan 1 = .ok (.getfield 28, 3) := by decide +kernel
theorem dX9_loan_4 : decode cX9_loan 4 = .ok (.getfield 140, 3) := by decide +kernel
theorem dX9_loan_7 : decode cX9_loan 7 = .ok (.iload_n 1, 1) := by decide +kernel
theorem dX9_loan_8 : decode cX9_loan 8 = .ok (.invokevirtual 150, 3) := by decide +kernel
theorem dX9_loan_11 : decode cX9_loan 11 = .ok (.ifCond .ne 6, 3) := by decide +kernel
theorem dX9_loan_14 : decode cX9_loan 14 = .ok (.bipush (-2), 2) := by decide +kernel
theorem dX9_loan_16 : decode cX9_loan 16 = .ok (.ireturn, 1) := by decide +kernel
theorem dX9_loan_17 : decode cX9_loan 17 = .ok (.aload_n 0, 1) := by decide +kernel
theorem dX9_loan_18 : decode cX9_loan 18 = .ok (.invokevirtual 162, 3) := by decide +kernel
theorem dX9_loan_21 : decode cX9_loan 21 = .ok (.aload_n 0, 1) := by decide +kernel
theorem dX9_loan_22 : decode cX9_loan 22 = .ok (.getfield 50, 3) := by decide +kernel
theorem dX9_loan_25 : decode cX9_loan 25 = .ok (.getfield 182, 3) := by decide +kernel
theorem dX9_loan_28 : decode cX9_loan 28 = .ok (.iload_n 1, 1) := by decide +kernel
theorem dX9_loan_29 : decode cX9_loan 29 = .ok (.iaload, 1) := by decide +kernel
theorem dX9_loan_30 : decode cX9_loan 30 = .ok (.aload_n 0, 1) := by decide +kernel
theorem dX9_loan_31 : decode cX9_loan 31 = .ok (.getfield 50, 3) := by decide +kernel
theorem dX9_loan_34 : decode cX9_loan 34 = .ok (.getfield 185, 3) := by decide +kernel
theorem dX9_loan_37 : decode cX9_loan 37 = .ok (.iload_n 1, 1) := by decide +kernel
theorem dX9_loan_38 : decode cX9_loan 38 = .ok (.iaload, 1) := by decide +kernel
theorem dX9_loan_39 : decode cX9_loan 39 = .ok (.aload_n 0, 1) := by decide +kernel
theorem dX9_loan_40 : decode cX9_loan 40 = .ok (.getfield 50, 3) := by decide +kernel
theorem dX9_loan_43 : decode cX9_loan 43 = .ok (.getfield 188, 3) := by decide +kernel
theorem dX9_loan_46 : decode cX9_loan 46 = .ok (.iload_n 1, 1) := by decide +kernel
theorem dX9_loan_47 : decode cX9_loan 47 = .ok (.iaload, 1) := by decide +kernel
theorem dX9_loan_48 : decode cX9_loan 48 = .ok (.iload_n 2, 1) := by decide +kernel
theorem dX9_loan_49 : decode cX9_loan 49 = .ok (.invokestatic 178, 3) := by decide +kernel
theorem dX9_loan_52 : decode cX9_loan 52 = .ok (.ireturn, 1) := by decide +kernel
theorem dX9_account_0 : decode cX9_account 0 = .ok (.iload_n 3, 1) := by decide +kernel
theorem dX9_account_1 : decode cX9_account 1 = .ok (.tableswitch 41 0 3 #[31, 33, 35, 37], 31) := by decide +kernel
theorem dX9_account_32 : decode cX9_account 32 = .ok (.iload_n 0, 1) := by decide +kernel
theorem dX9_account_33 : decode cX9_account 33 = .ok (.ireturn, 1) := by decide +kernel
theorem dX9_account_34 : decode cX9_account 34 = .ok (.iload_n 1, 1) := by decide +kernel
theorem dX9_account_35 : decode cX9_account 35 = .ok (.ireturn, 1) := by decide +kernel
theorem dX9_account_36 : decode cX9_account 36 = .ok (.iload_n 2, 1) := by decide +kernel
theorem dX9_account_37 : decode cX9_account 37 = .ok (.ireturn, 1) := by decide +kernel
theorem dX9_account_38 : decode cX9_account 38 = .ok (.iload_n 1, 1) := by decide +kernel
theorem dX9_account_39 : decode cX9_account 39 = .ok (.iload_n 2, 1) := by decide +kernel
theorem dX9_account_40 : decode cX9_account 40 = .ok (.isub, 1) := by decide +kernel
theorem dX9_account_41 : decode cX9_account 41 = .ok (.ireturn, 1) := by decide +kernel
theorem dX9_account_42 : decode cX9_account 42 = .ok (.bipush (-2), 2) := by decide +kernel
theorem dX9_account_44 : decode cX9_account 44 = .ok (.ireturn, 1) := by decide +kernel
theorem dX9_crop_0 : decode cX9_crop 0 = .ok (.aload_n 0, 1) := by decide +kernel
theorem dX9_crop_1 : decode cX9_crop 1 = .ok (.getfield 28, 3) := by decide +kernel
theorem dX9_crop_4 : decode cX9_crop 4 = .ok (.getfield 137, 3) := by decide +kernel
theorem dX9_crop_7 : decode cX9_crop 7 = .ok (.iload_n 1, 1) := by decide +kernel
theorem dX9_crop_8 : decode cX9_crop 8 = .ok (.invokevirtual 150, 3) := by decide +kernel
theorem dX9_crop_11 : decode cX9_crop 11 = .ok (.ifCond .ne 6, 3) := by decide +kernel
theorem dX9_crop_14 : decode cX9_crop 14 = .ok (.bipush (-2), 2) := by decide +kernel
theorem dX9_crop_16 : decode cX9_crop 16 = .ok (.ireturn, 1) := by decide +kernel
theorem dX9_crop_17 : decode cX9_crop 17 = .ok (.aload_n 0, 1) := by decide +kernel
theorem dX9_crop_18 : decode cX9_crop 18 = .ok (.invokevirtual 162, 3) := by decide +kernel
theorem dX9_crop_21 : decode cX9_crop 21 = .ok (.iload_n 2, 1) := by decide +kernel
theorem dX9_crop_22 : decode cX9_crop 22 = .ok (.tableswitch 56 0 2 #[26, 36, 46], 26) := by decide +kernel
theorem dX9_crop_48 : decode cX9_crop 48 = .ok (.aload_n 0, 1) := by decide +kernel
theorem dX9_crop_49 : decode cX9_crop 49 = .ok (.getfield 50, 3) := by decide +kernel
theorem dX9_crop_52 : decode cX9_crop 52 = .ok (.getfield 191, 3) := by decide +kernel
theorem dX9_crop_55 : decode cX9_crop 55 = .ok (.iload_n 1, 1) := by decide +kernel
theorem dX9_crop_56 : decode cX9_crop 56 = .ok (.iaload, 1) := by decide +kernel
theorem dX9_crop_57 : decode cX9_crop 57 = .ok (.ireturn, 1) := by decide +kernel
theorem dX9_crop_58 : decode cX9_crop 58 = .ok (.aload_n 0, 1) := by decide +kernel
theorem dX9_crop_59 : decode cX9_crop 59 = .ok (.getfield 50, 3) := by decide +kernel
theorem dX9_crop_62 : decode cX9_crop 62 = .ok (.getfield 194, 3) := by decide +kernel
theorem dX9_crop_65 : decode cX9_crop 65 = .ok (.iload_n 1, 1) := by decide +kernel
theorem dX9_crop_66 : decode cX9_crop 66 = .ok (.iaload, 1) := by decide +kernel
theorem dX9_crop_67 : decode cX9_crop 67 = .ok (.ireturn, 1) := by decide +kernel
theorem dX9_crop_68 : decode cX9_crop 68 = .ok (.aload_n 0, 1) := by decide +kernel
theorem dX9_crop_69 : decode cX9_crop 69 = .ok (.getfield 50, 3) := by decide +kernel
theorem dX9_crop_72 : decode cX9_crop 72 = .ok (.getfield 197, 3) := by decide +kernel
theorem dX9_crop_75 : decode cX9_crop 75 = .ok (.iload_n 1, 1) := by decide +kernel
theorem dX9_crop_76 : decode cX9_crop 76 = .ok (.iaload, 1) := by decide +kernel
theorem dX9_crop_77 : decode cX9_crop 77 = .ok (.ireturn, 1) := by decide +kernel
theorem dX9_crop_78 : decode cX9_crop 78 = .ok (.bipush (-2), 2) := by decide +kernel
theorem dX9_crop_80 : decode cX9_crop 80 = .ok (.ireturn, 1) := by decide +kernel
theorem dX9_sum_0 : decode cX9_sum 0 = .ok (.aload_n 0, 1) := by decide +kernel
theorem dX9_sum_1 : decode cX9_sum 1 = .ok (.invokevirtual 124, 3) := by decide +kernel
theorem dX9_sum_4 : decode cX9_sum 4 = .ok (.ifCond .ne 6, 3) := by decide +kernel
theorem dX9_sum_7 : decode cX9_sum 7 = .ok (.bipush (-2), 2) := by decide +kernel
theorem dX9_sum_9 : decode cX9_sum 9 = .ok (.ireturn, 1) := by decide +kernel
theorem dX9_sum_10 : decode cX9_sum 10 = .ok (.aload_n 0, 1) := by decide +kernel
theorem dX9_sum_11 : decode cX9_sum 11 = .ok (.invokevirtual 162, 3) := by decide +kernel
theorem dX9_sum_14 : decode cX9_sum 14 = .ok (.iload_n 1, 1) := by decide +kernel
theorem dX9_sum_15 : decode cX9_sum 15 = .ok (.tableswitch 161 0 8 #[49, 60, 82, 104, 112, 120, 128, 139, 150], 49) := by decide +kernel
theorem dX9_sum_64 : decode cX9_sum 64 = .ok (.aload_n 0, 1) := by decide +kernel
theorem dX9_sum_65 : decode cX9_sum 65 = .ok (.getfield 50, 3) := by decide +kernel
theorem dX9_sum_68 : decode cX9_sum 68 = .ok (.getfield 191, 3) := by decide +kernel
theorem dX9_sum_71 : decode cX9_sum 71 = .ok (.invokestatic 200, 3) := by decide +kernel
theorem dX9_sum_74 : decode cX9_sum 74 = .ok (.ireturn, 1) := by decide +kernel
theorem dX9_sum_75 : decode cX9_sum 75 = .ok (.aload_n 0, 1) := by decide +kernel
theorem dX9_sum_76 : decode cX9_sum 76 = .ok (.getfield 50, 3) := by decide +kernel
theorem dX9_sum_79 : decode cX9_sum 79 = .ok (.getfield 172, 3) := by decide +kernel
theorem dX9_sum_82 : decode cX9_sum 82 = .ok (.invokestatic 200, 3) := by decide +kernel
theorem dX9_sum_85 : decode cX9_sum 85 = .ok (.aload_n 0, 1) := by decide +kernel
theorem dX9_sum_86 : decode cX9_sum 86 = .ok (.getfield 50, 3) := by decide +kernel
theorem dX9_sum_89 : decode cX9_sum 89 = .ok (.getfield 175, 3) := by decide +kernel
theorem dX9_sum_92 : decode cX9_sum 92 = .ok (.invokestatic 200, 3) := by decide +kernel
theorem dX9_sum_95 : decode cX9_sum 95 = .ok (.isub, 1) := by decide +kernel
theorem dX9_sum_96 : decode cX9_sum 96 = .ok (.ireturn, 1) := by decide +kernel
theorem dX9_sum_97 : decode cX9_sum 97 = .ok (.aload_n 0, 1) := by decide +kernel
theorem dX9_sum_98 : decode cX9_sum 98 = .ok (.getfield 50, 3) := by decide +kernel
theorem dX9_sum_101 : decode cX9_sum 101 = .ok (.getfield 185, 3) := by decide +kernel
theorem dX9_sum_104 : decode cX9_sum 104 = .ok (.invokestatic 200, 3) := by decide +kernel
theorem dX9_sum_107 : decode cX9_sum 107 = .ok (.aload_n 0, 1) := by decide +kernel
theorem dX9_sum_108 : decode cX9_sum 108 = .ok (.getfield 50, 3) := by decide +kernel
theorem dX9_sum_111 : decode cX9_sum 111 = .ok (.getfield 188, 3) := by decide +kernel
theorem dX9_sum_114 : decode cX9_sum 114 = .ok (.invokestatic 200, 3) := by decide +kernel
theorem dX9_sum_117 : decode cX9_sum 117 = .ok (.isub, 1) := by decide +kernel
theorem dX9_sum_118 : decode cX9_sum 118 = .ok (.ireturn, 1) := by decide +kernel
theorem dX9_sum_119 : decode cX9_sum 119 = .ok (.aload_n 0, 1) := by decide +kernel
theorem dX9_sum_120 : decode cX9_sum 120 = .ok (.getfield 50, 3) := by decide +kernel
theorem dX9_sum_123 : decode cX9_sum 123 = .ok (.getfield 204, 3) := by decide +kernel
theorem dX9_sum_126 : decode cX9_sum 126 = .ok (.ireturn, 1) := by decide +kernel
theorem dX9_sum_127 : decode cX9_sum 127 = .ok (.aload_n 0, 1) := by decide +kernel
theorem dX9_sum_128 : decode cX9_sum 128 = .ok (.getfield 50, 3) := by decide +kernel
theorem dX9_sum_131 : decode cX9_sum 131 = .ok (.getfield 207, 3) := by decide +kernel
theorem dX9_sum_134 : decode cX9_sum 134 = .ok (.ireturn, 1) := by decide +kernel
theorem dX9_sum_135 : decode cX9_sum 135 = .ok (.aload_n 0, 1) := by decide +kernel
theorem dX9_sum_136 : decode cX9_sum 136 = .ok (.getfield 50, 3) := by decide +kernel
theorem dX9_sum_139 : decode cX9_sum 139 = .ok (.getfield 210, 3) := by decide +kernel
theorem dX9_sum_142 : decode cX9_sum 142 = .ok (.ireturn, 1) := by decide +kernel
theorem dX9_sum_143 : decode cX9_sum 143 = .ok (.aload_n 0, 1) := by decide +kernel
theorem dX9_sum_144 : decode cX9_sum 144 = .ok (.getfield 50, 3) := by decide +kernel
theorem dX9_sum_147 : decode cX9_sum 147 = .ok (.getfield 168, 3) := by decide +kernel
theorem dX9_sum_150 : decode cX9_sum 150 = .ok (.invokestatic 200, 3) := by decide +kernel
theorem dX9_sum_153 : decode cX9_sum 153 = .ok (.ireturn, 1) := by decide +kernel
theorem dX9_sum_154 : decode cX9_sum 154 = .ok (.aload_n 0, 1) := by decide +kernel
theorem dX9_sum_155 : decode cX9_sum 155 = .ok (.getfield 50, 3) := by decide +kernel
theorem dX9_sum_158 : decode cX9_sum 158 = .ok (.getfield 175, 3) := by decide +kernel
theorem dX9_sum_161 : decode cX9_sum 161 = .ok (.invokestatic 200, 3) := by decide +kernel
theorem dX9_sum_164 : decode cX9_sum 164 = .ok (.ireturn, 1) := by decide +kernel
theorem dX9_sum_165 : decode cX9_sum 165 = .ok (.aload_n 0, 1) := by decide +kernel
theorem dX9_sum_166 : decode cX9_sum 166 = .ok (.getfield 50, 3) := by decide +kernel
theorem dX9_sum_169 : decode cX9_sum 169 = .ok (.getfield 213, 3) := by decide +kernel
theorem dX9_sum_172 : decode cX9_sum 172 = .ok (.invokestatic 200, 3) := by decide +kernel
theorem dX9_sum_175 : decode cX9_sum 175 = .ok (.ireturn, 1) := by decide +kernel
theorem dX9_sum_176 : decode cX9_sum 176 = .ok (.bipush (-2), 2) := by decide +kernel
theorem dX9_sum_178 : decode cX9_sum 178 = .ok (.ireturn, 1) := by decide +kernel
theorem dX9_first_0 : decode cX9_first 0 = .ok (.aload_n 0, 1) := by decide +kernel
theorem dX9_first_1 : decode cX9_first 1 = .ok (.invokevirtual 124, 3) := by decide +kernel
theorem dX9_first_4 : decode cX9_first 4 = .ok (.ifCond .ne 6, 3) := by decide +kernel
theorem dX9_first_7 : decode cX9_first 7 = .ok (.bipush (-2), 2) := by decide +kernel
theorem dX9_first_9 : decode cX9_first 9 = .ok (.ireturn, 1) := by decide +kernel
theorem dX9_first_10 : decode cX9_first 10 = .ok (.aload_n 0, 1) := by decide +kernel
theorem dX9_first_11 : decode cX9_first 11 = .ok (.invokevirtual 162, 3) := by decide +kernel
theorem dX9_first_14 : decode cX9_first 14 = .ok (.aload_n 0, 1) := by decide +kernel
theorem dX9_first_15 : decode cX9_first 15 = .ok (.getfield 50, 3) := by decide +kernel
theorem dX9_first_18 : decode cX9_first 18 = .ok (.getfield 216, 3) := by decide +kernel
theorem dX9_first_21 : decode cX9_first 21 = .ok (.ireturn, 1) := by decide +kernel
theorem dX9_together_0 : decode cX9_together 0 = .ok (.iconst 0, 1) := by decide +kernel
theorem dX9_together_1 : decode cX9_together 1 = .ok (.istore_n 1, 1) := by decide +kernel
theorem dX9_together_2 : decode cX9_together 2 = .ok (.aload_n 0, 1) := by decide +kernel
theorem dX9_together_3 : decode cX9_together 3 = .ok (.astore_n 2, 1) := by decide +kernel
theorem dX9_together_4 : decode cX9_together 4 = .ok (.aload_n 2, 1) := by decide +kernel
theorem dX9_together_5 : decode cX9_together 5 = .ok (.arraylength, 1) := by decide +kernel
theorem dX9_together_6 : decode cX9_together 6 = .ok (.istore_n 3, 1) := by decide +kernel
theorem dX9_together_7 : decode cX9_together 7 = .ok (.iconst 0, 1) := by decide +kernel
theorem dX9_together_8 : decode cX9_together 8 = .ok (.istore 4, 2) := by decide +kernel
theorem dX9_together_10 : decode cX9_together 10 = .ok (.iload 4, 2) := by decide +kernel
theorem dX9_together_12 : decode cX9_together 12 = .ok (.iload_n 3, 1) := by decide +kernel
theorem dX9_together_13 : decode cX9_together 13 = .ok (.if_icmp .ge 20, 3) := by decide +kernel
theorem dX9_together_16 : decode cX9_together 16 = .ok (.aload_n 2, 1) := by decide +kernel
theorem dX9_together_17 : decode cX9_together 17 = .ok (.iload 4, 2) := by decide +kernel
theorem dX9_together_19 : decode cX9_together 19 = .ok (.iaload, 1) := by decide +kernel
theorem dX9_together_20 : decode cX9_together 20 = .ok (.istore 5, 2) := by decide +kernel
theorem dX9_together_22 : decode cX9_together 22 = .ok (.iload_n 1, 1) := by decide +kernel
theorem dX9_together_23 : decode cX9_together 23 = .ok (.iload 5, 2) := by decide +kernel
theorem dX9_together_25 : decode cX9_together 25 = .ok (.iadd, 1) := by decide +kernel
theorem dX9_together_26 : decode cX9_together 26 = .ok (.istore_n 1, 1) := by decide +kernel
theorem dX9_together_27 : decode cX9_together 27 = .ok (.iinc 4 1, 3) := by decide +kernel
theorem dX9_together_30 : decode cX9_together 30 = .ok (.goto (-20), 3) := by decide +kernel
theorem dX9_together_33 : decode cX9_together 33 = .ok (.iload_n 1, 1) := by decide +kernel
theorem dX9_together_34 : decode cX9_together 34 = .ok (.ireturn, 1) := by decide +kernel
theorem dX9_best_0 : decode cX9_best 0 = .ok (.aload_n 0, 1) := by decide +kernel
theorem dX9_best_1 : decode cX9_best 1 = .ok (.invokevirtual 124, 3) := by decide +kernel
theorem dX9_best_4 : decode cX9_best 4 = .ok (.ifCond .ne 6, 3) := by decide +kernel
theorem dX9_best_7 : decode cX9_best 7 = .ok (.bipush (-2), 2) := by decide +kernel
theorem dX9_best_9 : decode cX9_best 9 = .ok (.ireturn, 1) := by decide +kernel
theorem dX9_best_10 : decode cX9_best 10 = .ok (.aload_n 0, 1) := by decide +kernel
theorem dX9_best_11 : decode cX9_best 11 = .ok (.getfield 59, 3) := by decide +kernel
theorem dX9_best_14 : decode cX9_best 14 = .ok (.invokevirtual 219, 3) := by decide +kernel
theorem dX9_best_17 : decode cX9_best 17 = .ok (.aload_n 0, 1) := by decide +kernel
theorem dX9_best_18 : decode cX9_best 18 = .ok (.getfield 59, 3) := by decide +kernel
theorem dX9_best_21 : decode cX9_best 21 = .ok (.invokevirtual 222, 3) := by decide +kernel
theorem dX9_best_24 : decode cX9_best 24 = .ok (.istore_n 1, 1) := by decide +kernel
theorem dX9_best_25 : decode cX9_best 25 = .ok (.iload_n 1, 1) := by decide +kernel
theorem dX9_best_26 : decode cX9_best 26 = .ok (.iconst (-1), 1) := by decide +kernel
theorem dX9_best_27 : decode cX9_best 27 = .ok (.if_icmp .ne 7, 3) := by decide +kernel
theorem dX9_best_30 : decode cX9_best 30 = .ok (.iconst (-1), 1) := by decide +kernel
theorem dX9_best_31 : decode cX9_best 31 = .ok (.goto 11, 3) := by decide +kernel
theorem dX9_best_34 : decode cX9_best 34 = .ok (.aload_n 0, 1) := by decide +kernel
theorem dX9_best_35 : decode cX9_best 35 = .ok (.getfield 59, 3) := by decide +kernel
theorem dX9_best_38 : decode cX9_best 38 = .ok (.iload_n 1, 1) := by decide +kernel
theorem dX9_best_39 : decode cX9_best 39 = .ok (.invokevirtual 225, 3) := by decide +kernel
theorem dX9_best_42 : decode cX9_best 42 = .ok (.ireturn, 1) := by decide +kernel
theorem dX9_taker_0 : decode cX9_taker 0 = .ok (.aload_n 0, 1) := by decide +kernel
theorem dX9_taker_1 : decode cX9_taker 1 = .ok (.iload_n 1, 1) := by decide +kernel
theorem dX9_taker_2 : decode cX9_taker 2 = .ok (.invokevirtual 114, 3) := by decide +kernel
theorem dX9_taker_5 : decode cX9_taker 5 = .ok (.ifCond .ne 6, 3) := by decide +kernel
theorem dX9_taker_8 : decode cX9_taker 8 = .ok (.bipush (-2), 2) := by decide +kernel
theorem dX9_taker_10 : decode cX9_taker 10 = .ok (.ireturn, 1) := by decide +kernel
theorem dX9_taker_11 : decode cX9_taker 11 = .ok (.aload_n 0, 1) := by decide +kernel
theorem dX9_taker_12 : decode cX9_taker 12 = .ok (.getfield 59, 3) := by decide +kernel
theorem dX9_taker_15 : decode cX9_taker 15 = .ok (.invokevirtual 219, 3) := by decide +kernel
theorem dX9_taker_18 : decode cX9_taker 18 = .ok (.aload_n 0, 1) := by decide +kernel
theorem dX9_taker_19 : decode cX9_taker 19 = .ok (.getfield 59, 3) := by decide +kernel
theorem dX9_taker_22 : decode cX9_taker 22 = .ok (.invokevirtual 222, 3) := by decide +kernel
theorem dX9_taker_25 : decode cX9_taker 25 = .ok (.istore_n 2, 1) := by decide +kernel
theorem dX9_taker_26 : decode cX9_taker 26 = .ok (.iload_n 2, 1) := by decide +kernel
theorem dX9_taker_27 : decode cX9_taker 27 = .ok (.iconst (-1), 1) := by decide +kernel
theorem dX9_taker_28 : decode cX9_taker 28 = .ok (.if_icmp .ne 7, 3) := by decide +kernel
theorem dX9_taker_31 : decode cX9_taker 31 = .ok (.iconst (-1), 1) := by decide +kernel
theorem dX9_taker_32 : decode cX9_taker 32 = .ok (.goto 12, 3) := by decide +kernel
theorem dX9_taker_35 : decode cX9_taker 35 = .ok (.aload_n 0, 1) := by decide +kernel
theorem dX9_taker_36 : decode cX9_taker 36 = .ok (.getfield 59, 3) := by decide +kernel
theorem dX9_taker_39 : decode cX9_taker 39 = .ok (.iload_n 2, 1) := by decide +kernel
theorem dX9_taker_40 : decode cX9_taker 40 = .ok (.iload_n 1, 1) := by decide +kernel
theorem dX9_taker_41 : decode cX9_taker 41 = .ok (.invokevirtual 229, 3) := by decide +kernel
theorem dX9_taker_44 : decode cX9_taker 44 = .ok (.ireturn, 1) := by decide +kernel
theorem dX9_safe_0 : decode cX9_safe 0 = .ok (.aload_n 0, 1) := by decide +kernel
theorem dX9_safe_1 : decode cX9_safe 1 = .ok (.invokevirtual 124, 3) := by decide +kernel
theorem dX9_safe_4 : decode cX9_safe 4 = .ok (.ifCond .ne 6, 3) := by decide +kernel
theorem dX9_safe_7 : decode cX9_safe 7 = .ok (.bipush (-2), 2) := by decide +kernel
theorem dX9_safe_9 : decode cX9_safe 9 = .ok (.ireturn, 1) := by decide +kernel
theorem dX9_safe_10 : decode cX9_safe 10 = .ok (.aload_n 0, 1) := by decide +kernel
theorem dX9_safe_11 : decode cX9_safe 11 = .ok (.getfield 59, 3) := by decide +kernel
theorem dX9_safe_14 : decode cX9_safe 14 = .ok (.invokevirtual 219, 3) := by decide +kernel
theorem dX9_safe_17 : decode cX9_safe 17 = .ok (.aload_n 0, 1) := by decide +kernel
theorem dX9_safe_18 : decode cX9_safe 18 = .ok (.getfield 59, 3) := by decide +kernel
theorem dX9_safe_21 : decode cX9_safe 21 = .ok (.invokevirtual 232, 3) := by decide +kernel
theorem dX9_safe_24 : decode cX9_safe 24 = .ok (.ireturn, 1) := by decide +kernel
theorem dX9_hope_0 : decode cX9_hope 0 = .ok (.aload_n 0, 1) := by decide +kernel
theorem dX9_hope_1 : decode cX9_hope 1 = .ok (.invokevirtual 124, 3) := by decide +kernel
theorem dX9_hope_4 : decode cX9_hope 4 = .ok (.ifCond .eq 12, 3) := by decide +kernel
theorem dX9_hope_7 : decode cX9_hope 7 = .ok (.iload_n 1, 1) := by decide +kernel
theorem dX9_hope_8 : decode cX9_hope 8 = .ok (.ifCond .eq 12, 3) := by decide +kernel
theorem dX9_hope_11 : decode cX9_hope 11 = .ok (.iload_n 1, 1) := by decide +kernel
theorem dX9_hope_12 : decode cX9_hope 12 = .ok (.iconst 1, 1) := by decide +kernel
theorem dX9_hope_13 : decode cX9_hope 13 = .ok (.if_icmp .eq 7, 3) := by decide +kernel
theorem dX9_hope_16 : decode cX9_hope 16 = .ok (.ldc2_w 235, 3) := by decide +kernel
theorem dX9_hope_19 : decode cX9_hope 19 = .ok (.lreturn, 1) := by decide +kernel
theorem dX9_hope_20 : decode cX9_hope 20 = .ok (.aload_n 0, 1) := by decide +kernel
theorem dX9_hope_21 : decode cX9_hope 21 = .ok (.getfield 59, 3) := by decide +kernel
theorem dX9_hope_24 : decode cX9_hope 24 = .ok (.invokevirtual 237, 3) := by decide +kernel
theorem dX9_hope_27 : decode cX9_hope 27 = .ok (.istore_n 2, 1) := by decide +kernel
theorem dX9_hope_28 : decode cX9_hope 28 = .ok (.aload_n 0, 1) := by decide +kernel
theorem dX9_hope_29 : decode cX9_hope 29 = .ok (.getfield 59, 3) := by decide +kernel
theorem dX9_hope_32 : decode cX9_hope 32 = .ok (.iload_n 2, 1) := by decide +kernel
theorem dX9_hope_33 : decode cX9_hope 33 = .ok (.invokevirtual 240, 3) := by decide +kernel
theorem dX9_hope_36 : decode cX9_hope 36 = .ok (.aload_n 0, 1) := by decide +kernel
theorem dX9_hope_37 : decode cX9_hope 37 = .ok (.iload_n 2, 1) := by decide +kernel
theorem dX9_hope_38 : decode cX9_hope 38 = .ok (.iload_n 1, 1) := by decide +kernel
theorem dX9_hope_39 : decode cX9_hope 39 = .ok (.invokevirtual 243, 3) := by decide +kernel
theorem dX9_hope_42 : decode cX9_hope 42 = .ok (.lreturn, 1) := by decide +kernel
theorem dX9_wise_0 : decode cX9_wise 0 = .ok (.aload_n 0, 1) := by decide +kernel
theorem dX9_wise_1 : decode cX9_wise 1 = .ok (.iload_n 1, 1) := by decide +kernel
theorem dX9_wise_2 : decode cX9_wise 2 = .ok (.invokevirtual 114, 3) := by decide +kernel
theorem dX9_wise_5 : decode cX9_wise 5 = .ok (.ifCond .ne 6, 3) := by decide +kernel
theorem dX9_wise_8 : decode cX9_wise 8 = .ok (.bipush (-2), 2) := by decide +kernel
theorem dX9_wise_10 : decode cX9_wise 10 = .ok (.ireturn, 1) := by decide +kernel
theorem dX9_wise_11 : decode cX9_wise 11 = .ok (.aload_n 0, 1) := by decide +kernel
theorem dX9_wise_12 : decode cX9_wise 12 = .ok (.getfield 59, 3) := by decide +kernel
theorem dX9_wise_15 : decode cX9_wise 15 = .ok (.invokevirtual 219, 3) := by decide +kernel
theorem dX9_wise_18 : decode cX9_wise 18 = .ok (.aload_n 0, 1) := by decide +kernel
theorem dX9_wise_19 : decode cX9_wise 19 = .ok (.getfield 59, 3) := by decide +kernel
theorem dX9_wise_22 : decode cX9_wise 22 = .ok (.aload_n 0, 1) := by decide +kernel
theorem dX9_wise_23 : decode cX9_wise 23 = .ok (.getfield 59, 3) := by decide +kernel
theorem dX9_wise_26 : decode cX9_wise 26 = .ok (.invokevirtual 247, 3) := by decide +kernel
theorem dX9_wise_29 : decode cX9_wise 29 = .ok (.iload_n 1, 1) := by decide +kernel
theorem dX9_wise_30 : decode cX9_wise 30 = .ok (.invokevirtual 229, 3) := by decide +kernel
theorem dX9_wise_33 : decode cX9_wise 33 = .ok (.ireturn, 1) := by decide +kernel
theorem dX9_wisest_0 : decode cX9_wisest 0 = .ok (.aload_n 0, 1) := by decide +kernel
theorem dX9_wisest_1 : decode cX9_wisest 1 = .ok (.invokevirtual 124, 3) := by decide +kernel
theorem dX9_wisest_4 : decode cX9_wisest 4 = .ok (.ifCond .eq 12, 3) := by decide +kernel
theorem dX9_wisest_7 : decode cX9_wisest 7 = .ok (.iload_n 1, 1) := by decide +kernel
theorem dX9_wisest_8 : decode cX9_wisest 8 = .ok (.ifCond .eq 12, 3) := by decide +kernel
theorem dX9_wisest_11 : decode cX9_wisest 11 = .ok (.iload_n 1, 1) := by decide +kernel
theorem dX9_wisest_12 : decode cX9_wisest 12 = .ok (.iconst 1, 1) := by decide +kernel
theorem dX9_wisest_13 : decode cX9_wisest 13 = .ok (.if_icmp .eq 7, 3) := by decide +kernel
theorem dX9_wisest_16 : decode cX9_wisest 16 = .ok (.ldc2_w 235, 3) := by decide +kernel
theorem dX9_wisest_19 : decode cX9_wisest 19 = .ok (.lreturn, 1) := by decide +kernel
theorem dX9_wisest_20 : decode cX9_wisest 20 = .ok (.aload_n 0, 1) := by decide +kernel
theorem dX9_wisest_21 : decode cX9_wisest 21 = .ok (.getfield 59, 3) := by decide +kernel
theorem dX9_wisest_24 : decode cX9_wisest 24 = .ok (.invokevirtual 219, 3) := by decide +kernel
theorem dX9_wisest_27 : decode cX9_wisest 27 = .ok (.aload_n 0, 1) := by decide +kernel
theorem dX9_wisest_28 : decode cX9_wisest 28 = .ok (.aload_n 0, 1) := by decide +kernel
theorem dX9_wisest_29 : decode cX9_wisest 29 = .ok (.getfield 59, 3) := by decide +kernel
theorem dX9_wisest_32 : decode cX9_wisest 32 = .ok (.invokevirtual 247, 3) := by decide +kernel
theorem dX9_wisest_35 : decode cX9_wisest 35 = .ok (.iload_n 1, 1) := by decide +kernel
theorem dX9_wisest_36 : decode cX9_wisest 36 = .ok (.invokevirtual 243, 3) := by decide +kernel
theorem dX9_wisest_39 : decode cX9_wisest 39 = .ok (.lreturn, 1) := by decide +kernel
theorem dX9_fraction_0 : decode cX9_fraction 0 = .ok (.aload_n 0, 1) := by decide +kernel
theorem dX9_fraction_1 : decode cX9_fraction 1 = .ok (.getfield 59, 3) := by decide +kernel
theorem dX9_fraction_4 : decode cX9_fraction 4 = .ok (.iload_n 1, 1) := by decide +kernel
theorem dX9_fraction_5 : decode cX9_fraction 5 = .ok (.invokevirtual 250, 3) := by decide +kernel
theorem dX9_fraction_8 : decode cX9_fraction 8 = .ok (.lstore_n 3, 1) := by decide +kernel
theorem dX9_fraction_9 : decode cX9_fraction 9 = .ok (.aload_n 0, 1) := by decide +kernel
theorem dX9_fraction_10 : decode cX9_fraction 10 = .ok (.getfield 59, 3) := by decide +kernel
theorem dX9_fraction_13 : decode cX9_fraction 13 = .ok (.invokevirtual 254, 3) := by decide +kernel
theorem dX9_fraction_16 : decode cX9_fraction 16 = .ok (.lstore 5, 2) := by decide +kernel
theorem dX9_fraction_18 : decode cX9_fraction 18 = .ok (.lload_n 3, 1) := by decide +kernel
theorem dX9_fraction_19 : decode cX9_fraction 19 = .ok (.invokestatic 258, 3) := by decide +kernel
theorem dX9_fraction_22 : decode cX9_fraction 22 = .ok (.lload 5, 2) := by decide +kernel
theorem dX9_fraction_24 : decode cX9_fraction 24 = .ok (.invokestatic 264, 3) := by decide +kernel
theorem dX9_fraction_27 : decode cX9_fraction 27 = .ok (.lstore 7, 2) := by decide +kernel
theorem dX9_fraction_29 : decode cX9_fraction 29 = .ok (.iload_n 2, 1) := by decide +kernel
theorem dX9_fraction_30 : decode cX9_fraction 30 = .ok (.ifCond .ne 7, 3) := by decide +kernel
theorem dX9_fraction_33 : decode cX9_fraction 33 = .ok (.lload_n 3, 1) := by decide +kernel
theorem dX9_fraction_34 : decode cX9_fraction 34 = .ok (.goto 5, 3) := by decide +kernel
theorem dX9_fraction_37 : decode cX9_fraction 37 = .ok (.lload 5, 2) := by decide +kernel
theorem dX9_fraction_39 : decode cX9_fraction 39 = .ok (.lload 7, 2) := by decide +kernel
theorem dX9_fraction_41 : decode cX9_fraction 41 = .ok (.ldiv, 1) := by decide +kernel
theorem dX9_fraction_42 : decode cX9_fraction 42 = .ok (.lreturn, 1) := by decide +kernel
theorem dX9_commonDivisor_0 : decode cX9_commonDivisor 0 = .ok (.lload_n 0, 1) := by decide +kernel
theorem dX9_commonDivisor_1 : decode cX9_commonDivisor 1 = .ok (.lstore 4, 2) := by decide +kernel
theorem dX9_commonDivisor_3 : decode cX9_commonDivisor 3 = .ok (.lload_n 2, 1) := by decide +kernel
theorem dX9_commonDivisor_4 : decode cX9_commonDivisor 4 = .ok (.lstore 6, 2) := by decide +kernel
theorem dX9_commonDivisor_6 : decode cX9_commonDivisor 6 = .ok (.iconst 0, 1) := by decide +kernel
theorem dX9_commonDivisor_7 : decode cX9_commonDivisor 7 = .ok (.istore 8, 2) := by decide +kernel
theorem dX9_commonDivisor_9 : decode cX9_commonDivisor 9 = .ok (.iload 8, 2) := by decide +kernel
theorem dX9_commonDivisor_11 : decode cX9_commonDivisor 11 = .ok (.sipush 200, 3) := by decide +kernel
theorem dX9_commonDivisor_14 : decode cX9_commonDivisor 14 = .ok (.if_icmp .ge 31, 3) := by decide +kernel
theorem dX9_commonDivisor_17 : decode cX9_commonDivisor 17 = .ok (.lload 6, 2) := by decide +kernel
theorem dX9_commonDivisor_19 : decode cX9_commonDivisor 19 = .ok (.lconst 0, 1) := by decide +kernel
theorem dX9_commonDivisor_20 : decode cX9_commonDivisor 20 = .ok (.lcmp, 1) := by decide +kernel
theorem dX9_commonDivisor_21 : decode cX9_commonDivisor 21 = .ok (.ifCond .eq 24, 3) := by decide +kernel
theorem dX9_commonDivisor_24 : decode cX9_commonDivisor 24 = .ok (.lload 4, 2) := by decide +kernel
theorem dX9_commonDivisor_26 : decode cX9_commonDivisor 26 = .ok (.lload 6, 2) := by decide +kernel
theorem dX9_commonDivisor_28 : decode cX9_commonDivisor 28 = .ok (.lrem, 1) := by decide +kernel
theorem dX9_commonDivisor_29 : decode cX9_commonDivisor 29 = .ok (.lstore 9, 2) := by decide +kernel
theorem dX9_commonDivisor_31 : decode cX9_commonDivisor 31 = .ok (.lload 6, 2) := by decide +kernel
theorem dX9_commonDivisor_33 : decode cX9_commonDivisor 33 = .ok (.lstore 4, 2) := by decide +kernel
theorem dX9_commonDivisor_35 : decode cX9_commonDivisor 35 = .ok (.lload 9, 2) := by decide +kernel
theorem dX9_commonDivisor_37 : decode cX9_commonDivisor 37 = .ok (.lstore 6, 2) := by decide +kernel
theorem dX9_commonDivisor_39 : decode cX9_commonDivisor 39 = .ok (.iinc 8 1, 3) := by decide +kernel
theorem dX9_commonDivisor_42 : decode cX9_commonDivisor 42 = .ok (.goto (-33), 3) := by decide +kernel
theorem dX9_commonDivisor_45 : decode cX9_commonDivisor 45 = .ok (.lconst 1, 1) := by decide +kernel
theorem dX9_commonDivisor_46 : decode cX9_commonDivisor 46 = .ok (.lload 4, 2) := by decide +kernel
theorem dX9_commonDivisor_48 : decode cX9_commonDivisor 48 = .ok (.invokestatic 268, 3) := by decide +kernel
theorem dX9_commonDivisor_51 : decode cX9_commonDivisor 51 = .ok (.lreturn, 1) := by decide +kernel
theorem dX9_agree_0 : decode cX9_agree 0 = .ok (.aload_n 0, 1) := by decide +kernel
theorem dX9_agree_1 : decode cX9_agree 1 = .ok (.iload_n 1, 1) := by decide +kernel
theorem dX9_agree_2 : decode cX9_agree 2 = .ok (.iconst 1, 1) := by decide +kernel
theorem dX9_agree_3 : decode cX9_agree 3 = .ok (.invokevirtual 271, 3) := by decide +kernel
theorem dX9_agree_6 : decode cX9_agree 6 = .ok (.istore_n 2, 1) := by decide +kernel
theorem dX9_agree_7 : decode cX9_agree 7 = .ok (.iload_n 2, 1) := by decide +kernel
theorem dX9_agree_8 : decode cX9_agree 8 = .ok (.ifCond .eq 5, 3) := by decide +kernel
theorem dX9_agree_11 : decode cX9_agree 11 = .ok (.iload_n 2, 1) := by decide +kernel
theorem dX9_agree_12 : decode cX9_agree 12 = .ok (.ireturn, 1) := by decide +kernel
theorem dX9_agree_13 : decode cX9_agree 13 = .ok (.iconst 0, 1) := by decide +kernel
theorem dX9_agree_14 : decode cX9_agree 14 = .ok (.istore_n 3, 1) := by decide +kernel
theorem dX9_agree_15 : decode cX9_agree 15 = .ok (.aload_n 0, 1) := by decide +kernel
theorem dX9_agree_16 : decode cX9_agree 16 = .ok (.getfield 59, 3) := by decide +kernel
theorem dX9_agree_19 : decode cX9_agree 19 = .ok (.invokevirtual 275, 3) := by decide +kernel
theorem dX9_agree_22 : decode cX9_agree 22 = .ok (.istore 4, 2) := by decide +kernel
theorem dX9_agree_24 : decode cX9_agree 24 = .ok (.iconst 0, 1) := by decide +kernel
theorem dX9_agree_25 : decode cX9_agree 25 = .ok (.istore 5, 2) := by decide +kernel
theorem dX9_agree_27 : decode cX9_agree 27 = .ok (.iload 5, 2) := by decide +kernel
theorem dX9_agree_29 : decode cX9_agree 29 = .ok (.iload 4, 2) := by decide +kernel
theorem dX9_agree_31 : decode cX9_agree 31 = .ok (.if_icmp .ge 27, 3) := by decide +kernel
theorem dX9_agree_34 : decode cX9_agree 34 = .ok (.aload_n 0, 1) := by decide +kernel
theorem dX9_agree_35 : decode cX9_agree 35 = .ok (.iload 5, 2) := by decide +kernel
theorem dX9_agree_37 : decode cX9_agree 37 = .ok (.invokevirtual 278, 3) := by decide +kernel
theorem dX9_agree_40 : decode cX9_agree 40 = .ok (.aload_n 0, 1) := by decide +kernel
theorem dX9_agree_41 : decode cX9_agree 41 = .ok (.iload_n 1, 1) := by decide +kernel
theorem dX9_agree_42 : decode cX9_agree 42 = .ok (.invokevirtual 281, 3) := by decide +kernel
theorem dX9_agree_45 : decode cX9_agree 45 = .ok (.iconst (-1), 1) := by decide +kernel
theorem dX9_agree_46 : decode cX9_agree 46 = .ok (.if_icmp .ne 6, 3) := by decide +kernel
theorem dX9_agree_49 : decode cX9_agree 49 = .ok (.iinc 3 1, 3) := by decide +kernel
theorem dX9_agree_52 : decode cX9_agree 52 = .ok (.iinc 5 1, 3) := by decide +kernel
theorem dX9_agree_55 : decode cX9_agree 55 = .ok (.goto (-28), 3) := by decide +kernel
theorem dX9_agree_58 : decode cX9_agree 58 = .ok (.iload_n 3, 1) := by decide +kernel
theorem dX9_agree_59 : decode cX9_agree 59 = .ok (.ireturn, 1) := by decide +kernel
theorem dX9_who_0 : decode cX9_who 0 = .ok (.aload_n 0, 1) := by decide +kernel
theorem dX9_who_1 : decode cX9_who 1 = .ok (.iload_n 1, 1) := by decide +kernel
theorem dX9_who_2 : decode cX9_who 2 = .ok (.aload_n 0, 1) := by decide +kernel
theorem dX9_who_3 : decode cX9_who 3 = .ok (.iload_n 2, 1) := by decide +kernel
theorem dX9_who_4 : decode cX9_who 4 = .ok (.invokevirtual 114, 3) := by decide +kernel
theorem dX9_who_7 : decode cX9_who 7 = .ok (.invokevirtual 271, 3) := by decide +kernel
theorem dX9_who_10 : decode cX9_who 10 = .ok (.istore_n 3, 1) := by decide +kernel
theorem dX9_who_11 : decode cX9_who 11 = .ok (.iload_n 3, 1) := by decide +kernel
theorem dX9_who_12 : decode cX9_who 12 = .ok (.ifCond .eq 5, 3) := by decide +kernel
theorem dX9_who_15 : decode cX9_who 15 = .ok (.iload_n 3, 1) := by decide +kernel
theorem dX9_who_16 : decode cX9_who 16 = .ok (.ireturn, 1) := by decide +kernel
theorem dX9_who_17 : decode cX9_who 17 = .ok (.iconst (-1), 1) := by decide +kernel
theorem dX9_who_18 : decode cX9_who 18 = .ok (.istore 4, 2) := by decide +kernel
theorem dX9_who_20 : decode cX9_who 20 = .ok (.aload_n 0, 1) := by decide +kernel
theorem dX9_who_21 : decode cX9_who 21 = .ok (.getfield 59, 3) := by decide +kernel
theorem dX9_who_24 : decode cX9_who 24 = .ok (.invokevirtual 275, 3) := by decide +kernel
theorem dX9_who_27 : decode cX9_who 27 = .ok (.istore 5, 2) := by decide +kernel
theorem dX9_who_29 : decode cX9_who 29 = .ok (.iconst 0, 1) := by decide +kernel
theorem dX9_who_30 : decode cX9_who 30 = .ok (.istore 6, 2) := by decide +kernel
theorem dX9_who_32 : decode cX9_who 32 = .ok (.iload 6, 2) := by decide +kernel
theorem dX9_who_34 : decode cX9_who 34 = .ok (.iload 5, 2) := by decide +kernel
theorem dX9_who_36 : decode cX9_who 36 = .ok (.if_icmp .ge 70, 3) := by decide +kernel
theorem dX9_who_39 : decode cX9_who 39 = .ok (.aload_n 0, 1) := by decide +kernel
theorem dX9_who_40 : decode cX9_who 40 = .ok (.iload 6, 2) := by decide +kernel
theorem dX9_who_42 : decode cX9_who 42 = .ok (.invokevirtual 278, 3) := by decide +kernel
theorem dX9_who_45 : decode cX9_who 45 = .ok (.aload_n 0, 1) := by decide +kernel
theorem dX9_who_46 : decode cX9_who 46 = .ok (.iload_n 1, 1) := by decide +kernel
theorem dX9_who_47 : decode cX9_who 47 = .ok (.invokevirtual 281, 3) := by decide +kernel
theorem dX9_who_50 : decode cX9_who 50 = .ok (.iconst (-1), 1) := by decide +kernel
theorem dX9_who_51 : decode cX9_who 51 = .ok (.if_icmp .ne 49, 3) := by decide +kernel
theorem dX9_who_54 : decode cX9_who 54 = .ok (.aload_n 0, 1) := by decide +kernel
theorem dX9_who_55 : decode cX9_who 55 = .ok (.getfield 59, 3) := by decide +kernel
theorem dX9_who_58 : decode cX9_who 58 = .ok (.iload 6, 2) := by decide +kernel
theorem dX9_who_60 : decode cX9_who 60 = .ok (.iload_n 2, 1) := by decide +kernel
theorem dX9_who_61 : decode cX9_who 61 = .ok (.invokevirtual 229, 3) := by decide +kernel
theorem dX9_who_64 : decode cX9_who 64 = .ok (.istore 7, 2) := by decide +kernel
theorem dX9_who_66 : decode cX9_who 66 = .ok (.iload 7, 2) := by decide +kernel
theorem dX9_who_68 : decode cX9_who 68 = .ok (.iconst (-1), 1) := by decide +kernel
theorem dX9_who_69 : decode cX9_who 69 = .ok (.if_icmp .ne 8, 3) := by decide +kernel
theorem dX9_who_72 : decode cX9_who 72 = .ok (.bipush 9, 2) := by decide +kernel
theorem dX9_who_74 : decode cX9_who 74 = .ok (.goto 5, 3) := by decide +kernel
theorem dX9_who_77 : decode cX9_who 77 = .ok (.iload 7, 2) := by decide +kernel
theorem dX9_who_79 : decode cX9_who 79 = .ok (.istore 8, 2) := by decide +kernel
theorem dX9_who_81 : decode cX9_who 81 = .ok (.iload 4, 2) := by decide +kernel
theorem dX9_who_83 : decode cX9_who 83 = .ok (.iconst (-1), 1) := by decide +kernel
theorem dX9_who_84 : decode cX9_who 84 = .ok (.if_icmp .eq 12, 3) := by decide +kernel
theorem dX9_who_87 : decode cX9_who 87 = .ok (.iload 4, 2) := by decide +kernel
theorem dX9_who_89 : decode cX9_who 89 = .ok (.iload 8, 2) := by decide +kernel
theorem dX9_who_91 : decode cX9_who 91 = .ok (.if_icmp .eq 5, 3) := by decide +kernel
theorem dX9_who_94 : decode cX9_who 94 = .ok (.iconst (-1), 1) := by decide +kernel
theorem dX9_who_95 : decode cX9_who 95 = .ok (.ireturn, 1) := by decide +kernel
theorem dX9_who_96 : decode cX9_who 96 = .ok (.iload 8, 2) := by decide +kernel
theorem dX9_who_98 : decode cX9_who 98 = .ok (.istore 4, 2) := by decide +kernel
theorem dX9_who_100 : decode cX9_who 100 = .ok (.iinc 6 1, 3) := by decide +kernel
theorem dX9_who_103 : decode cX9_who 103 = .ok (.goto (-71), 3) := by decide +kernel
theorem dX9_who_106 : decode cX9_who 106 = .ok (.iload 4, 2) := by decide +kernel
theorem dX9_who_108 : decode cX9_who 108 = .ok (.ireturn, 1) := by decide +kernel
theorem dX9_sure_0 : decode cX9_sure 0 = .ok (.aload_n 0, 1) := by decide +kernel
theorem dX9_sure_1 : decode cX9_sure 1 = .ok (.iload_n 1, 1) := by decide +kernel
theorem dX9_sure_2 : decode cX9_sure 2 = .ok (.aload_n 0, 1) := by decide +kernel
theorem dX9_sure_3 : decode cX9_sure 3 = .ok (.iload_n 2, 1) := by decide +kernel
theorem dX9_sure_4 : decode cX9_sure 4 = .ok (.invokevirtual 101, 3) := by decide +kernel
theorem dX9_sure_7 : decode cX9_sure 7 = .ok (.ifCond .eq 15, 3) := by decide +kernel
theorem dX9_sure_10 : decode cX9_sure 10 = .ok (.aload_n 0, 1) := by decide +kernel
theorem dX9_sure_11 : decode cX9_sure 11 = .ok (.iload_n 3, 1) := by decide +kernel
theorem dX9_sure_12 : decode cX9_sure 12 = .ok (.invokevirtual 159, 3) := by decide +kernel
theorem dX9_sure_15 : decode cX9_sure 15 = .ok (.ifCond .eq 7, 3) := by decide +kernel
theorem dX9_sure_18 : decode cX9_sure 18 = .ok (.iconst 1, 1) := by decide +kernel
theorem dX9_sure_19 : decode cX9_sure 19 = .ok (.goto 4, 3) := by decide +kernel
theorem dX9_sure_22 : decode cX9_sure 22 = .ok (.iconst 0, 1) := by decide +kernel
theorem dX9_sure_23 : decode cX9_sure 23 = .ok (.invokevirtual 271, 3) := by decide +kernel
theorem dX9_sure_26 : decode cX9_sure 26 = .ok (.istore 4, 2) := by decide +kernel
theorem dX9_sure_28 : decode cX9_sure 28 = .ok (.iload 4, 2) := by decide +kernel
theorem dX9_sure_30 : decode cX9_sure 30 = .ok (.ifCond .eq 6, 3) := by decide +kernel
theorem dX9_sure_33 : decode cX9_sure 33 = .ok (.iload 4, 2) := by decide +kernel
theorem dX9_sure_35 : decode cX9_sure 35 = .ok (.ireturn, 1) := by decide +kernel
theorem dX9_sure_36 : decode cX9_sure 36 = .ok (.iconst (-1), 1) := by decide +kernel
theorem dX9_sure_37 : decode cX9_sure 37 = .ok (.istore 5, 2) := by decide +kernel
theorem dX9_sure_39 : decode cX9_sure 39 = .ok (.aload_n 0, 1) := by decide +kernel
theorem dX9_sure_40 : decode cX9_sure 40 = .ok (.getfield 59, 3) := by decide +kernel
theorem dX9_sure_43 : decode cX9_sure 43 = .ok (.invokevirtual 275, 3) := by decide +kernel
theorem dX9_sure_46 : decode cX9_sure 46 = .ok (.istore 6, 2) := by decide +kernel
theorem dX9_sure_48 : decode cX9_sure 48 = .ok (.iconst 0, 1) := by decide +kernel
theorem dX9_sure_49 : decode cX9_sure 49 = .ok (.istore 7, 2) := by decide +kernel
theorem dX9_sure_51 : decode cX9_sure 51 = .ok (.iload 7, 2) := by decide +kernel
theorem dX9_sure_53 : decode cX9_sure 53 = .ok (.iload 6, 2) := by decide +kernel
theorem dX9_sure_55 : decode cX9_sure 55 = .ok (.if_icmp .ge 54, 3) := by decide +kernel
theorem dX9_sure_58 : decode cX9_sure 58 = .ok (.aload_n 0, 1) := by decide +kernel
theorem dX9_sure_59 : decode cX9_sure 59 = .ok (.iload 7, 2) := by decide +kernel
theorem dX9_sure_61 : decode cX9_sure 61 = .ok (.invokevirtual 278, 3) := by decide +kernel
theorem dX9_sure_64 : decode cX9_sure 64 = .ok (.aload_n 0, 1) := by decide +kernel
theorem dX9_sure_65 : decode cX9_sure 65 = .ok (.iload_n 1, 1) := by decide +kernel
theorem dX9_sure_66 : decode cX9_sure 66 = .ok (.invokevirtual 281, 3) := by decide +kernel
theorem dX9_sure_69 : decode cX9_sure 69 = .ok (.iconst (-1), 1) := by decide +kernel
theorem dX9_sure_70 : decode cX9_sure 70 = .ok (.if_icmp .ne 33, 3) := by decide +kernel
theorem dX9_sure_73 : decode cX9_sure 73 = .ok (.aload_n 0, 1) := by decide +kernel
theorem dX9_sure_74 : decode cX9_sure 74 = .ok (.getfield 50, 3) := by decide +kernel
theorem dX9_sure_77 : decode cX9_sure 77 = .ok (.iload_n 2, 1) := by decide +kernel
theorem dX9_sure_78 : decode cX9_sure 78 = .ok (.iload_n 3, 1) := by decide +kernel
theorem dX9_sure_79 : decode cX9_sure 79 = .ok (.invokevirtual 165, 3) := by decide +kernel
theorem dX9_sure_82 : decode cX9_sure 82 = .ok (.istore 8, 2) := by decide +kernel
theorem dX9_sure_84 : decode cX9_sure 84 = .ok (.iload 5, 2) := by decide +kernel
theorem dX9_sure_86 : decode cX9_sure 86 = .ok (.iconst (-1), 1) := by decide +kernel
theorem dX9_sure_87 : decode cX9_sure 87 = .ok (.if_icmp .eq 12, 3) := by decide +kernel
theorem dX9_sure_90 : decode cX9_sure 90 = .ok (.iload 5, 2) := by decide +kernel
theorem dX9_sure_92 : decode cX9_sure 92 = .ok (.iload 8, 2) := by decide +kernel
theorem dX9_sure_94 : decode cX9_sure 94 = .ok (.if_icmp .eq 5, 3) := by decide +kernel
theorem dX9_sure_97 : decode cX9_sure 97 = .ok (.iconst (-1), 1) := by decide +kernel
theorem dX9_sure_98 : decode cX9_sure 98 = .ok (.ireturn, 1) := by decide +kernel
theorem dX9_sure_99 : decode cX9_sure 99 = .ok (.iload 8, 2) := by decide +kernel
theorem dX9_sure_101 : decode cX9_sure 101 = .ok (.istore 5, 2) := by decide +kernel
theorem dX9_sure_103 : decode cX9_sure 103 = .ok (.iinc 7 1, 3) := by decide +kernel
theorem dX9_sure_106 : decode cX9_sure 106 = .ok (.goto (-55), 3) := by decide +kernel
theorem dX9_sure_109 : decode cX9_sure 109 = .ok (.iload 5, 2) := by decide +kernel
theorem dX9_sure_111 : decode cX9_sure 111 = .ok (.ireturn, 1) := by decide +kernel
theorem dX9_needed_0 : decode cX9_needed 0 = .ok (.aload_n 0, 1) := by decide +kernel
theorem dX9_needed_1 : decode cX9_needed 1 = .ok (.iload_n 1, 1) := by decide +kernel
theorem dX9_needed_2 : decode cX9_needed 2 = .ok (.iconst 1, 1) := by decide +kernel
theorem dX9_needed_3 : decode cX9_needed 3 = .ok (.invokevirtual 271, 3) := by decide +kernel
theorem dX9_needed_6 : decode cX9_needed 6 = .ok (.istore_n 2, 1) := by decide +kernel
theorem dX9_needed_7 : decode cX9_needed 7 = .ok (.iload_n 2, 1) := by decide +kernel
theorem dX9_needed_8 : decode cX9_needed 8 = .ok (.ifCond .eq 5, 3) := by decide +kernel
theorem dX9_needed_11 : decode cX9_needed 11 = .ok (.iload_n 2, 1) := by decide +kernel
theorem dX9_needed_12 : decode cX9_needed 12 = .ok (.ireturn, 1) := by decide +kernel
theorem dX9_needed_13 : decode cX9_needed 13 = .ok (.bipush 99, 2) := by decide +kernel
theorem dX9_needed_15 : decode cX9_needed 15 = .ok (.istore_n 3, 1) := by decide +kernel
theorem dX9_needed_16 : decode cX9_needed 16 = .ok (.aload_n 0, 1) := by decide +kernel
theorem dX9_needed_17 : decode cX9_needed 17 = .ok (.getfield 59, 3) := by decide +kernel
theorem dX9_needed_20 : decode cX9_needed 20 = .ok (.invokevirtual 275, 3) := by decide +kernel
theorem dX9_needed_23 : decode cX9_needed 23 = .ok (.istore 4, 2) := by decide +kernel
theorem dX9_needed_25 : decode cX9_needed 25 = .ok (.iconst 0, 1) := by decide +kernel
theorem dX9_needed_26 : decode cX9_needed 26 = .ok (.istore 5, 2) := by decide +kernel
theorem dX9_needed_28 : decode cX9_needed 28 = .ok (.iload 5, 2) := by decide +kernel
theorem dX9_needed_30 : decode cX9_needed 30 = .ok (.iload 4, 2) := by decide +kernel
theorem dX9_needed_32 : decode cX9_needed 32 = .ok (.if_icmp .ge 35, 3) := by decide +kernel
theorem dX9_needed_35 : decode cX9_needed 35 = .ok (.aload_n 0, 1) := by decide +kernel
theorem dX9_needed_36 : decode cX9_needed 36 = .ok (.iload 5, 2) := by decide +kernel
theorem dX9_needed_38 : decode cX9_needed 38 = .ok (.invokevirtual 278, 3) := by decide +kernel
theorem dX9_needed_41 : decode cX9_needed 41 = .ok (.aload_n 0, 1) := by decide +kernel
theorem dX9_needed_42 : decode cX9_needed 42 = .ok (.iload_n 1, 1) := by decide +kernel
theorem dX9_needed_43 : decode cX9_needed 43 = .ok (.invokevirtual 281, 3) := by decide +kernel
theorem dX9_needed_46 : decode cX9_needed 46 = .ok (.istore 6, 2) := by decide +kernel
theorem dX9_needed_48 : decode cX9_needed 48 = .ok (.iload 6, 2) := by decide +kernel
theorem dX9_needed_50 : decode cX9_needed 50 = .ok (.iconst (-1), 1) := by decide +kernel
theorem dX9_needed_51 : decode cX9_needed 51 = .ok (.if_icmp .eq 10, 3) := by decide +kernel
theorem dX9_needed_54 : decode cX9_needed 54 = .ok (.iload_n 3, 1) := by decide +kernel
theorem dX9_needed_55 : decode cX9_needed 55 = .ok (.iload 6, 2) := by decide +kernel
theorem dX9_needed_57 : decode cX9_needed 57 = .ok (.invokestatic 284, 3) := by decide +kernel
theorem dX9_needed_60 : decode cX9_needed 60 = .ok (.istore_n 3, 1) := by decide +kernel
theorem dX9_needed_61 : decode cX9_needed 61 = .ok (.iinc 5 1, 3) := by decide +kernel
theorem dX9_needed_64 : decode cX9_needed 64 = .ok (.goto (-36), 3) := by decide +kernel
theorem dX9_needed_67 : decode cX9_needed 67 = .ok (.iload_n 3, 1) := by decide +kernel
theorem dX9_needed_68 : decode cX9_needed 68 = .ok (.bipush 99, 2) := by decide +kernel
theorem dX9_needed_70 : decode cX9_needed 70 = .ok (.if_icmp .ne 7, 3) := by decide +kernel
theorem dX9_needed_73 : decode cX9_needed 73 = .ok (.iconst (-1), 1) := by decide +kernel
theorem dX9_needed_74 : decode cX9_needed 74 = .ok (.goto 4, 3) := by decide +kernel
theorem dX9_needed_77 : decode cX9_needed 77 = .ok (.iload_n 3, 1) := by decide +kernel
theorem dX9_needed_78 : decode cX9_needed 78 = .ok (.ireturn, 1) := by decide +kernel
theorem dX9_marksWrong_0 : decode cX9_marksWrong 0 = .ok (.aload_n 0, 1) := by decide +kernel
theorem dX9_marksWrong_1 : decode cX9_marksWrong 1 = .ok (.invokevirtual 124, 3) := by decide +kernel
theorem dX9_marksWrong_4 : decode cX9_marksWrong 4 = .ok (.ifCond .eq 14, 3) := by decide +kernel
theorem dX9_marksWrong_7 : decode cX9_marksWrong 7 = .ok (.iload_n 1, 1) := by decide +kernel
theorem dX9_marksWrong_8 : decode cX9_marksWrong 8 = .ok (.invokestatic 287, 3) := by decide +kernel
theorem dX9_marksWrong_11 : decode cX9_marksWrong 11 = .ok (.ifCond .eq 7, 3) := by decide +kernel
theorem dX9_marksWrong_14 : decode cX9_marksWrong 14 = .ok (.iload_n 2, 1) := by decide +kernel
theorem dX9_marksWrong_15 : decode cX9_marksWrong 15 = .ok (.ifCond .ne 6, 3) := by decide +kernel
theorem dX9_marksWrong_18 : decode cX9_marksWrong 18 = .ok (.bipush (-2), 2) := by decide +kernel
theorem dX9_marksWrong_20 : decode cX9_marksWrong 20 = .ok (.ireturn, 1) := by decide +kernel
theorem dX9_marksWrong_21 : decode cX9_marksWrong 21 = .ok (.aload_n 0, 1) := by decide +kernel
theorem dX9_marksWrong_22 : decode cX9_marksWrong 22 = .ok (.iload_n 1, 1) := by decide +kernel
theorem dX9_marksWrong_23 : decode cX9_marksWrong 23 = .ok (.invokevirtual 290, 3) := by decide +kernel
theorem dX9_marksWrong_26 : decode cX9_marksWrong 26 = .ok (.astore_n 3, 1) := by decide +kernel
theorem dX9_marksWrong_27 : decode cX9_marksWrong 27 = .ok (.aload_n 3, 1) := by decide +kernel
theorem dX9_marksWrong_28 : decode cX9_marksWrong 28 = .ok (.ifnonnull 6, 3) := by decide +kernel
theorem dX9_marksWrong_31 : decode cX9_marksWrong 31 = .ok (.bipush (-6), 2) := by decide +kernel
theorem dX9_marksWrong_33 : decode cX9_marksWrong 33 = .ok (.ireturn, 1) := by decide +kernel
theorem dX9_marksWrong_34 : decode cX9_marksWrong 34 = .ok (.aload_n 3, 1) := by decide +kernel
theorem dX9_marksWrong_35 : decode cX9_marksWrong 35 = .ok (.getfield 294, 3) := by decide +kernel
theorem dX9_marksWrong_38 : decode cX9_marksWrong 38 = .ok (.iconst 3, 1) := by decide +kernel
theorem dX9_marksWrong_39 : decode cX9_marksWrong 39 = .ok (.irem, 1) := by decide +kernel
theorem dX9_marksWrong_40 : decode cX9_marksWrong 40 = .ok (.ifCond .eq 6, 3) := by decide +kernel
theorem dX9_marksWrong_43 : decode cX9_marksWrong 43 = .ok (.bipush (-2), 2) := by decide +kernel
theorem dX9_marksWrong_45 : decode cX9_marksWrong 45 = .ok (.ireturn, 1) := by decide +kernel
theorem dX9_marksWrong_46 : decode cX9_marksWrong 46 = .ok (.iconst 0, 1) := by decide +kernel
theorem dX9_marksWrong_47 : decode cX9_marksWrong 47 = .ok (.istore 4, 2) := by decide +kernel
theorem dX9_marksWrong_49 : decode cX9_marksWrong 49 = .ok (.iload 4, 2) := by decide +kernel
theorem dX9_marksWrong_51 : decode cX9_marksWrong 51 = .ok (.aload_n 3, 1) := by decide +kernel
theorem dX9_marksWrong_52 : decode cX9_marksWrong 52 = .ok (.getfield 294, 3) := by decide +kernel
theorem dX9_marksWrong_55 : decode cX9_marksWrong 55 = .ok (.if_icmp .ge 75, 3) := by decide +kernel
theorem dX9_marksWrong_58 : decode cX9_marksWrong 58 = .ok (.aload_n 3, 1) := by decide +kernel
theorem dX9_marksWrong_59 : decode cX9_marksWrong 59 = .ok (.iload 4, 2) := by decide +kernel
theorem dX9_marksWrong_61 : decode cX9_marksWrong 61 = .ok (.invokevirtual 295, 3) := by decide +kernel
theorem dX9_marksWrong_64 : decode cX9_marksWrong 64 = .ok (.lstore 5, 2) := by decide +kernel
theorem dX9_marksWrong_66 : decode cX9_marksWrong 66 = .ok (.aload_n 3, 1) := by decide +kernel
theorem dX9_marksWrong_67 : decode cX9_marksWrong 67 = .ok (.iload 4, 2) := by decide +kernel
theorem dX9_marksWrong_69 : decode cX9_marksWrong 69 = .ok (.iconst 1, 1) := by decide +kernel
theorem dX9_marksWrong_70 : decode cX9_marksWrong 70 = .ok (.iadd, 1) := by decide +kernel
theorem dX9_marksWrong_71 : decode cX9_marksWrong 71 = .ok (.invokevirtual 295, 3) := by decide +kernel
theorem dX9_marksWrong_74 : decode cX9_marksWrong 74 = .ok (.lstore 7, 2) := by decide +kernel
theorem dX9_marksWrong_76 : decode cX9_marksWrong 76 = .ok (.lload 5, 2) := by decide +kernel
theorem dX9_marksWrong_78 : decode cX9_marksWrong 78 = .ok (.lconst 0, 1) := by decide +kernel
theorem dX9_marksWrong_79 : decode cX9_marksWrong 79 = .ok (.lcmp, 1) := by decide +kernel
theorem dX9_marksWrong_80 : decode cX9_marksWrong 80 = .ok (.ifCond .lt 41, 3) := by decide +kernel
theorem dX9_marksWrong_83 : decode cX9_marksWrong 83 = .ok (.lload 5, 2) := by decide +kernel
theorem dX9_marksWrong_85 : decode cX9_marksWrong 85 = .ok (.aload_n 0, 1) := by decide +kernel
theorem dX9_marksWrong_86 : decode cX9_marksWrong 86 = .ok (.getfield 28, 3) := by decide +kernel
theorem dX9_marksWrong_89 : decode cX9_marksWrong 89 = .ok (.getfield 104, 3) := by decide +kernel
theorem dX9_marksWrong_92 : decode cX9_marksWrong 92 = .ok (.getfield 134, 3) := by decide +kernel
theorem dX9_marksWrong_95 : decode cX9_marksWrong 95 = .ok (.i2l, 1) := by decide +kernel
theorem dX9_marksWrong_96 : decode cX9_marksWrong 96 = .ok (.lcmp, 1) := by decide +kernel
theorem dX9_marksWrong_97 : decode cX9_marksWrong 97 = .ok (.ifCond .ge 24, 3) := by decide +kernel
theorem dX9_marksWrong_100 : decode cX9_marksWrong 100 = .ok (.lload 7, 2) := by decide +kernel
theorem dX9_marksWrong_102 : decode cX9_marksWrong 102 = .ok (.lconst 0, 1) := by decide +kernel
theorem dX9_marksWrong_103 : decode cX9_marksWrong 103 = .ok (.lcmp, 1) := by decide +kernel
theorem dX9_marksWrong_104 : decode cX9_marksWrong 104 = .ok (.ifCond .lt 17, 3) := by decide +kernel
theorem dX9_marksWrong_107 : decode cX9_marksWrong 107 = .ok (.lload 7, 2) := by decide +kernel
theorem dX9_marksWrong_109 : decode cX9_marksWrong 109 = .ok (.aload_n 0, 1) := by decide +kernel
theorem dX9_marksWrong_110 : decode cX9_marksWrong 110 = .ok (.getfield 28, 3) := by decide +kernel
theorem dX9_marksWrong_113 : decode cX9_marksWrong 113 = .ok (.getfield 131, 3) := by decide +kernel
theorem dX9_marksWrong_116 : decode cX9_marksWrong 116 = .ok (.i2l, 1) := by decide +kernel
theorem dX9_marksWrong_117 : decode cX9_marksWrong 117 = .ok (.lcmp, 1) := by decide +kernel
theorem dX9_marksWrong_118 : decode cX9_marksWrong 118 = .ok (.ifCond .lt 6, 3) := by decide +kernel
theorem dX9_marksWrong_121 : decode cX9_marksWrong 121 = .ok (.bipush (-2), 2) := by decide +kernel
theorem dX9_marksWrong_123 : decode cX9_marksWrong 123 = .ok (.ireturn, 1) := by decide +kernel
theorem dX9_marksWrong_124 : decode cX9_marksWrong 124 = .ok (.iinc 4 3, 3) := by decide +kernel
theorem dX9_marksWrong_127 : decode cX9_marksWrong 127 = .ok (.goto (-78), 3) := by decide +kernel
theorem dX9_marksWrong_130 : decode cX9_marksWrong 130 = .ok (.iconst 0, 1) := by decide +kernel
theorem dX9_marksWrong_131 : decode cX9_marksWrong 131 = .ok (.ireturn, 1) := by decide +kernel
theorem dX9_goThroughYearBy_0 : decode cX9_goThroughYearBy 0 = .ok (.aload_n 0, 1) := by decide +kernel
theorem dX9_goThroughYearBy_1 : decode cX9_goThroughYearBy 1 = .ok (.getfield 59, 3) := by decide +kernel
theorem dX9_goThroughYearBy_4 : decode cX9_goThroughYearBy 4 = .ok (.iload_n 1, 1) := by decide +kernel
theorem dX9_goThroughYearBy_5 : decode cX9_goThroughYearBy 5 = .ok (.invokevirtual 298, 3) := by decide +kernel
theorem dX9_goThroughYearBy_8 : decode cX9_goThroughYearBy 8 = .ok (.aload_n 0, 1) := by decide +kernel
theorem dX9_goThroughYearBy_9 : decode cX9_goThroughYearBy 9 = .ok (.getfield 50, 3) := by decide +kernel
theorem dX9_goThroughYearBy_12 : decode cX9_goThroughYearBy 12 = .ok (.invokevirtual 156, 3) := by decide +kernel
theorem dX9_goThroughYearBy_15 : decode cX9_goThroughYearBy 15 = .ok (.return_, 1) := by decide +kernel
theorem dX9_missed_0 : decode cX9_missed 0 = .ok (.aload_n 0, 1) := by decide +kernel
theorem dX9_missed_1 : decode cX9_missed 1 = .ok (.iload_n 1, 1) := by decide +kernel
theorem dX9_missed_2 : decode cX9_missed 2 = .ok (.invokevirtual 290, 3) := by decide +kernel
theorem dX9_missed_5 : decode cX9_missed 5 = .ok (.astore_n 2, 1) := by decide +kernel
theorem dX9_missed_6 : decode cX9_missed 6 = .ok (.aload_n 2, 1) := by decide +kernel
theorem dX9_missed_7 : decode cX9_missed 7 = .ok (.ifnonnull 5, 3) := by decide +kernel
theorem dX9_missed_10 : decode cX9_missed 10 = .ok (.iconst (-1), 1) := by decide +kernel
theorem dX9_missed_11 : decode cX9_missed 11 = .ok (.ireturn, 1) := by decide +kernel
theorem dX9_missed_12 : decode cX9_missed 12 = .ok (.iconst (-1), 1) := by decide +kernel
theorem dX9_missed_13 : decode cX9_missed 13 = .ok (.istore_n 3, 1) := by decide +kernel
theorem dX9_missed_14 : decode cX9_missed 14 = .ok (.iconst 0, 1) := by decide +kernel
theorem dX9_missed_15 : decode cX9_missed 15 = .ok (.istore 4, 2) := by decide +kernel
theorem dX9_missed_17 : decode cX9_missed 17 = .ok (.iload 4, 2) := by decide +kernel
theorem dX9_missed_19 : decode cX9_missed 19 = .ok (.aload_n 2, 1) := by decide +kernel
theorem dX9_missed_20 : decode cX9_missed 20 = .ok (.getfield 294, 3) := by decide +kernel
theorem dX9_missed_23 : decode cX9_missed 23 = .ok (.if_icmp .ge 66, 3) := by decide +kernel
theorem dX9_missed_26 : decode cX9_missed 26 = .ok (.aload_n 2, 1) := by decide +kernel
theorem dX9_missed_27 : decode cX9_missed 27 = .ok (.iload 4, 2) := by decide +kernel
theorem dX9_missed_29 : decode cX9_missed 29 = .ok (.invokevirtual 295, 3) := by decide +kernel
theorem dX9_missed_32 : decode cX9_missed 32 = .ok (.l2i, 1) := by decide +kernel
theorem dX9_missed_33 : decode cX9_missed 33 = .ok (.istore 5, 2) := by decide +kernel
theorem dX9_missed_35 : decode cX9_missed 35 = .ok (.aload_n 2, 1) := by decide +kernel
theorem dX9_missed_36 : decode cX9_missed 36 = .ok (.iload 4, 2) := by decide +kernel
theorem dX9_missed_38 : decode cX9_missed 38 = .ok (.iconst 1, 1) := by decide +kernel
theorem dX9_missed_39 : decode cX9_missed 39 = .ok (.iadd, 1) := by decide +kernel
theorem dX9_missed_40 : decode cX9_missed 40 = .ok (.invokevirtual 295, 3) := by decide +kernel
theorem dX9_missed_43 : decode cX9_missed 43 = .ok (.l2i, 1) := by decide +kernel
theorem dX9_missed_44 : decode cX9_missed 44 = .ok (.istore 6, 2) := by decide +kernel
theorem dX9_missed_46 : decode cX9_missed 46 = .ok (.aload_n 2, 1) := by decide +kernel
theorem dX9_missed_47 : decode cX9_missed 47 = .ok (.iload 4, 2) := by decide +kernel
theorem dX9_missed_49 : decode cX9_missed 49 = .ok (.iconst 2, 1) := by decide +kernel
theorem dX9_missed_50 : decode cX9_missed 50 = .ok (.iadd, 1) := by decide +kernel
theorem dX9_missed_51 : decode cX9_missed 51 = .ok (.invokevirtual 295, 3) := by decide +kernel
theorem dX9_missed_54 : decode cX9_missed 54 = .ok (.aload_n 0, 1) := by decide +kernel
theorem dX9_missed_55 : decode cX9_missed 55 = .ok (.getfield 50, 3) := by decide +kernel
theorem dX9_missed_58 : decode cX9_missed 58 = .ok (.iload 5, 2) := by decide +kernel
theorem dX9_missed_60 : decode cX9_missed 60 = .ok (.iload 6, 2) := by decide +kernel
theorem dX9_missed_62 : decode cX9_missed 62 = .ok (.invokevirtual 165, 3) := by decide +kernel
theorem dX9_missed_65 : decode cX9_missed 65 = .ok (.i2l, 1) := by decide +kernel
theorem dX9_missed_66 : decode cX9_missed 66 = .ok (.lcmp, 1) := by decide +kernel
theorem dX9_missed_67 : decode cX9_missed 67 = .ok (.ifCond .eq 16, 3) := by decide +kernel
theorem dX9_missed_70 : decode cX9_missed 70 = .ok (.iload_n 3, 1) := by decide +kernel
theorem dX9_missed_71 : decode cX9_missed 71 = .ok (.iconst (-1), 1) := by decide +kernel
theorem dX9_missed_72 : decode cX9_missed 72 = .ok (.if_icmp .eq 6, 3) := by decide +kernel
theorem dX9_missed_75 : decode cX9_missed 75 = .ok (.bipush 99, 2) := by decide +kernel
theorem dX9_missed_77 : decode cX9_missed 77 = .ok (.ireturn, 1) := by decide +kernel
theorem dX9_missed_78 : decode cX9_missed 78 = .ok (.iload 4, 2) := by decide +kernel
theorem dX9_missed_80 : decode cX9_missed 80 = .ok (.iconst 3, 1) := by decide +kernel
theorem dX9_missed_81 : decode cX9_missed 81 = .ok (.idiv, 1) := by decide +kernel
theorem dX9_missed_82 : decode cX9_missed 82 = .ok (.istore_n 3, 1) := by decide +kernel
theorem dX9_missed_83 : decode cX9_missed 83 = .ok (.iinc 4 3, 3) := by decide +kernel
theorem dX9_missed_86 : decode cX9_missed 86 = .ok (.goto (-69), 3) := by decide +kernel
theorem dX9_missed_89 : decode cX9_missed 89 = .ok (.iload_n 3, 1) := by decide +kernel
theorem dX9_missed_90 : decode cX9_missed 90 = .ok (.ireturn, 1) := by decide +kernel
theorem dX9_fair_0 : decode cX9_fair 0 = .ok (.aload_n 0, 1) := by decide +kernel
theorem dX9_fair_1 : decode cX9_fair 1 = .ok (.iload_n 1, 1) := by decide +kernel
theorem dX9_fair_2 : decode cX9_fair 2 = .ok (.invokevirtual 101, 3) := by decide +kernel
theorem dX9_fair_5 : decode cX9_fair 5 = .ok (.ifCond .ne 6, 3) := by decide +kernel
theorem dX9_fair_8 : decode cX9_fair 8 = .ok (.bipush (-2), 2) := by decide +kernel
theorem dX9_fair_10 : decode cX9_fair 10 = .ok (.ireturn, 1) := by decide +kernel
theorem dX9_fair_11 : decode cX9_fair 11 = .ok (.iconst 0, 1) := by decide +kernel
theorem dX9_fair_12 : decode cX9_fair 12 = .ok (.istore_n 2, 1) := by decide +kernel
theorem dX9_fair_13 : decode cX9_fair 13 = .ok (.iload_n 2, 1) := by decide +kernel
theorem dX9_fair_14 : decode cX9_fair 14 = .ok (.bipush 100, 2) := by decide +kernel
theorem dX9_fair_16 : decode cX9_fair 16 = .ok (.if_icmp .gt 28, 3) := by decide +kernel
theorem dX9_fair_19 : decode cX9_fair 19 = .ok (.aload_n 0, 1) := by decide +kernel
theorem dX9_fair_20 : decode cX9_fair 20 = .ok (.iload_n 1, 1) := by decide +kernel
theorem dX9_fair_21 : decode cX9_fair 21 = .ok (.iload_n 2, 1) := by decide +kernel
theorem dX9_fair_22 : decode cX9_fair 22 = .ok (.iconst (-1), 1) := by decide +kernel
theorem dX9_fair_23 : decode cX9_fair 23 = .ok (.invokevirtual 301, 3) := by decide +kernel
theorem dX9_fair_26 : decode cX9_fair 26 = .ok (.aload_n 0, 1) := by decide +kernel
theorem dX9_fair_27 : decode cX9_fair 27 = .ok (.iload_n 1, 1) := by decide +kernel
theorem dX9_fair_28 : decode cX9_fair 28 = .ok (.iload_n 2, 1) := by decide +kernel
theorem dX9_fair_29 : decode cX9_fair 29 = .ok (.iload_n 1, 1) := by decide +kernel
theorem dX9_fair_30 : decode cX9_fair 30 = .ok (.invokevirtual 301, 3) := by decide +kernel
theorem dX9_fair_33 : decode cX9_fair 33 = .ok (.if_icmp .lt 5, 3) := by decide +kernel
theorem dX9_fair_36 : decode cX9_fair 36 = .ok (.iload_n 2, 1) := by decide +kernel
theorem dX9_fair_37 : decode cX9_fair 37 = .ok (.ireturn, 1) := by decide +kernel
theorem dX9_fair_38 : decode cX9_fair 38 = .ok (.iinc 2 1, 3) := by decide +kernel
theorem dX9_fair_41 : decode cX9_fair 41 = .ok (.goto (-28), 3) := by decide +kernel
theorem dX9_fair_44 : decode cX9_fair 44 = .ok (.iconst (-1), 1) := by decide +kernel
theorem dX9_fair_45 : decode cX9_fair 45 = .ok (.ireturn, 1) := by decide +kernel
theorem dX9_wealth_0 : decode cX9_wealth 0 = .ok (.aload_n 0, 1) := by decide +kernel
theorem dX9_wealth_1 : decode cX9_wealth 1 = .ok (.getfield 50, 3) := by decide +kernel
theorem dX9_wealth_4 : decode cX9_wealth 4 = .ok (.invokevirtual 153, 3) := by decide +kernel
theorem dX9_wealth_7 : decode cX9_wealth 7 = .ok (.aload_n 0, 1) := by decide +kernel
theorem dX9_wealth_8 : decode cX9_wealth 8 = .ok (.getfield 50, 3) := by decide +kernel
theorem dX9_wealth_11 : decode cX9_wealth 11 = .ok (.iload_n 2, 1) := by decide +kernel
theorem dX9_wealth_12 : decode cX9_wealth 12 = .ok (.putfield 305, 3) := by decide +kernel
theorem dX9_wealth_15 : decode cX9_wealth 15 = .ok (.aload_n 0, 1) := by decide +kernel
theorem dX9_wealth_16 : decode cX9_wealth 16 = .ok (.getfield 50, 3) := by decide +kernel
theorem dX9_wealth_19 : decode cX9_wealth 19 = .ok (.iload_n 3, 1) := by decide +kernel
theorem dX9_wealth_20 : decode cX9_wealth 20 = .ok (.putfield 308, 3) := by decide +kernel
theorem dX9_wealth_23 : decode cX9_wealth 23 = .ok (.aload_n 0, 1) := by decide +kernel
theorem dX9_wealth_24 : decode cX9_wealth 24 = .ok (.getfield 50, 3) := by decide +kernel
theorem dX9_wealth_27 : decode cX9_wealth 27 = .ok (.invokevirtual 156, 3) := by decide +kernel
theorem dX9_wealth_30 : decode cX9_wealth 30 = .ok (.aload_n 0, 1) := by decide +kernel
theorem dX9_wealth_31 : decode cX9_wealth 31 = .ok (.getfield 50, 3) := by decide +kernel
theorem dX9_wealth_34 : decode cX9_wealth 34 = .ok (.iload_n 1, 1) := by decide +kernel
theorem dX9_wealth_35 : decode cX9_wealth 35 = .ok (.invokevirtual 311, 3) := by decide +kernel
theorem dX9_wealth_38 : decode cX9_wealth 38 = .ok (.istore 4, 2) := by decide +kernel
theorem dX9_wealth_40 : decode cX9_wealth 40 = .ok (.iconst 0, 1) := by decide +kernel
theorem dX9_wealth_41 : decode cX9_wealth 41 = .ok (.istore 5, 2) := by decide +kernel
theorem dX9_wealth_43 : decode cX9_wealth 43 = .ok (.iload 5, 2) := by decide +kernel
theorem dX9_wealth_45 : decode cX9_wealth 45 = .ok (.aload_n 0, 1) := by decide +kernel
theorem dX9_wealth_46 : decode cX9_wealth 46 = .ok (.getfield 28, 3) := by decide +kernel
theorem dX9_wealth_49 : decode cX9_wealth 49 = .ok (.getfield 137, 3) := by decide +kernel
theorem dX9_wealth_52 : decode cX9_wealth 52 = .ok (.getfield 134, 3) := by decide +kernel
theorem dX9_wealth_55 : decode cX9_wealth 55 = .ok (.if_icmp .ge 41, 3) := by decide +kernel
theorem dX9_wealth_58 : decode cX9_wealth 58 = .ok (.aload_n 0, 1) := by decide +kernel
theorem dX9_wealth_59 : decode cX9_wealth 59 = .ok (.getfield 28, 3) := by decide +kernel
theorem dX9_wealth_62 : decode cX9_wealth 62 = .ok (.getfield 137, 3) := by decide +kernel
theorem dX9_wealth_65 : decode cX9_wealth 65 = .ok (.iload 5, 2) := by decide +kernel
theorem dX9_wealth_67 : decode cX9_wealth 67 = .ok (.iconst 0, 1) := by decide +kernel
theorem dX9_wealth_68 : decode cX9_wealth 68 = .ok (.invokevirtual 108, 3) := by decide +kernel
theorem dX9_wealth_71 : decode cX9_wealth 71 = .ok (.iload_n 1, 1) := by decide +kernel
theorem dX9_wealth_72 : decode cX9_wealth 72 = .ok (.if_icmp .ne 18, 3) := by decide +kernel
theorem dX9_wealth_75 : decode cX9_wealth 75 = .ok (.iload 4, 2) := by decide +kernel
theorem dX9_wealth_77 : decode cX9_wealth 77 = .ok (.aload_n 0, 1) := by decide +kernel
theorem dX9_wealth_78 : decode cX9_wealth 78 = .ok (.getfield 50, 3) := by decide +kernel
theorem dX9_wealth_81 : decode cX9_wealth 81 = .ok (.getfield 191, 3) := by decide +kernel
theorem dX9_wealth_84 : decode cX9_wealth 84 = .ok (.iload 5, 2) := by decide +kernel
theorem dX9_wealth_86 : decode cX9_wealth 86 = .ok (.iaload, 1) := by decide +kernel
theorem dX9_wealth_87 : decode cX9_wealth 87 = .ok (.iadd, 1) := by decide +kernel
theorem dX9_wealth_88 : decode cX9_wealth 88 = .ok (.istore 4, 2) := by decide +kernel
theorem dX9_wealth_90 : decode cX9_wealth 90 = .ok (.iinc 5 1, 3) := by decide +kernel
theorem dX9_wealth_93 : decode cX9_wealth 93 = .ok (.goto (-50), 3) := by decide +kernel
theorem dX9_wealth_96 : decode cX9_wealth 96 = .ok (.iload 4, 2) := by decide +kernel
theorem dX9_wealth_98 : decode cX9_wealth 98 = .ok (.ireturn, 1) := by decide +kernel
theorem dX9_melons_0 : decode cX9_melons 0 = .ok (.aload_n 0, 1) := by decide +kernel
theorem dX9_melons_1 : decode cX9_melons 1 = .ok (.iload_n 1, 1) := by decide +kernel
theorem dX9_melons_2 : decode cX9_melons 2 = .ok (.invokevirtual 101, 3) := by decide +kernel
theorem dX9_melons_5 : decode cX9_melons 5 = .ok (.ifCond .ne 6, 3) := by decide +kernel
theorem dX9_melons_8 : decode cX9_melons 8 = .ok (.bipush (-2), 2) := by decide +kernel
theorem dX9_melons_10 : decode cX9_melons 10 = .ok (.ireturn, 1) := by decide +kernel
theorem dX9_melons_11 : decode cX9_melons 11 = .ok (.aload_n 0, 1) := by decide +kernel
theorem dX9_melons_12 : decode cX9_melons 12 = .ok (.iload_n 1, 1) := by decide +kernel
theorem dX9_melons_13 : decode cX9_melons 13 = .ok (.invokevirtual 314, 3) := by decide +kernel
theorem dX9_melons_16 : decode cX9_melons 16 = .ok (.istore_n 2, 1) := by decide +kernel
theorem dX9_melons_17 : decode cX9_melons 17 = .ok (.iload_n 2, 1) := by decide +kernel
theorem dX9_melons_18 : decode cX9_melons 18 = .ok (.iconst 1, 1) := by decide +kernel
theorem dX9_melons_19 : decode cX9_melons 19 = .ok (.if_icmp .ge 5, 3) := by decide +kernel
theorem dX9_melons_22 : decode cX9_melons 22 = .ok (.iconst (-1), 1) := by decide +kernel
theorem dX9_melons_23 : decode cX9_melons 23 = .ok (.ireturn, 1) := by decide +kernel
theorem dX9_melons_24 : decode cX9_melons 24 = .ok (.aload_n 0, 1) := by decide +kernel
theorem dX9_melons_25 : decode cX9_melons 25 = .ok (.invokevirtual 162, 3) := by decide +kernel
theorem dX9_melons_28 : decode cX9_melons 28 = .ok (.aload_n 0, 1) := by decide +kernel
theorem dX9_melons_29 : decode cX9_melons 29 = .ok (.iload_n 1, 1) := by decide +kernel
theorem dX9_melons_30 : decode cX9_melons 30 = .ok (.invokevirtual 317, 3) := by decide +kernel
theorem dX9_melons_33 : decode cX9_melons 33 = .ok (.iload_n 2, 1) := by decide +kernel
theorem dX9_melons_34 : decode cX9_melons 34 = .ok (.iadd, 1) := by decide +kernel
theorem dX9_melons_35 : decode cX9_melons 35 = .ok (.iconst 1, 1) := by decide +kernel
theorem dX9_melons_36 : decode cX9_melons 36 = .ok (.isub, 1) := by decide +kernel
theorem dX9_melons_37 : decode cX9_melons 37 = .ok (.iload_n 2, 1) := by decide +kernel
theorem dX9_melons_38 : decode cX9_melons 38 = .ok (.idiv, 1) := by decide +kernel
theorem dX9_melons_39 : decode cX9_melons 39 = .ok (.ireturn, 1) := by decide +kernel
theorem dX9_firstDrink_0 : decode cX9_firstDrink 0 = .ok (.iconst 0, 1) := by decide +kernel
theorem dX9_firstDrink_1 : decode cX9_firstDrink 1 = .ok (.istore_n 2, 1) := by decide +kernel
theorem dX9_firstDrink_2 : decode cX9_firstDrink 2 = .ok (.iload_n 2, 1) := by decide +kernel
theorem dX9_firstDrink_3 : decode cX9_firstDrink 3 = .ok (.aload_n 0, 1) := by decide +kernel
theorem dX9_firstDrink_4 : decode cX9_firstDrink 4 = .ok (.getfield 28, 3) := by decide +kernel
theorem dX9_firstDrink_7 : decode cX9_firstDrink 7 = .ok (.getfield 137, 3) := by decide +kernel
theorem dX9_firstDrink_10 : decode cX9_firstDrink 10 = .ok (.getfield 134, 3) := by decide +kernel
theorem dX9_firstDrink_13 : decode cX9_firstDrink 13 = .ok (.if_icmp .ge 38, 3) := by decide +kernel
theorem dX9_firstDrink_16 : decode cX9_firstDrink 16 = .ok (.aload_n 0, 1) := by decide +kernel
theorem dX9_firstDrink_17 : decode cX9_firstDrink 17 = .ok (.getfield 28, 3) := by decide +kernel
theorem dX9_firstDrink_20 : decode cX9_firstDrink 20 = .ok (.getfield 137, 3) := by decide +kernel
theorem dX9_firstDrink_23 : decode cX9_firstDrink 23 = .ok (.iload_n 2, 1) := by decide +kernel
theorem dX9_firstDrink_24 : decode cX9_firstDrink 24 = .ok (.iconst 0, 1) := by decide +kernel
theorem dX9_firstDrink_25 : decode cX9_firstDrink 25 = .ok (.invokevirtual 108, 3) := by decide +kernel
theorem dX9_firstDrink_28 : decode cX9_firstDrink 28 = .ok (.iload_n 1, 1) := by decide +kernel
theorem dX9_firstDrink_29 : decode cX9_firstDrink 29 = .ok (.if_icmp .ne 16, 3) := by decide +kernel
theorem dX9_firstDrink_32 : decode cX9_firstDrink 32 = .ok (.aload_n 0, 1) := by decide +kernel
theorem dX9_firstDrink_33 : decode cX9_firstDrink 33 = .ok (.getfield 28, 3) := by decide +kernel
theorem dX9_firstDrink_36 : decode cX9_firstDrink 36 = .ok (.getfield 137, 3) := by decide +kernel
theorem dX9_firstDrink_39 : decode cX9_firstDrink 39 = .ok (.iload_n 2, 1) := by decide +kernel
theorem dX9_firstDrink_40 : decode cX9_firstDrink 40 = .ok (.iconst 1, 1) := by decide +kernel
theorem dX9_firstDrink_41 : decode cX9_firstDrink 41 = .ok (.invokevirtual 108, 3) := by decide +kernel
theorem dX9_firstDrink_44 : decode cX9_firstDrink 44 = .ok (.ireturn, 1) := by decide +kernel
theorem dX9_firstDrink_45 : decode cX9_firstDrink 45 = .ok (.iinc 2 1, 3) := by decide +kernel
theorem dX9_firstDrink_48 : decode cX9_firstDrink 48 = .ok (.goto (-46), 3) := by decide +kernel
theorem dX9_firstDrink_51 : decode cX9_firstDrink 51 = .ok (.iconst 0, 1) := by decide +kernel
theorem dX9_firstDrink_52 : decode cX9_firstDrink 52 = .ok (.ireturn, 1) := by decide +kernel
theorem dX9_shortOf_0 : decode cX9_shortOf 0 = .ok (.iconst 0, 1) := by decide +kernel
theorem dX9_shortOf_1 : decode cX9_shortOf 1 = .ok (.istore_n 2, 1) := by decide +kernel
theorem dX9_shortOf_2 : decode cX9_shortOf 2 = .ok (.iconst 0, 1) := by decide +kernel
theorem dX9_shortOf_3 : decode cX9_shortOf 3 = .ok (.istore_n 3, 1) := by decide +kernel
theorem dX9_shortOf_4 : decode cX9_shortOf 4 = .ok (.iload_n 3, 1) := by decide +kernel
theorem dX9_shortOf_5 : decode cX9_shortOf 5 = .ok (.aload_n 0, 1) := by decide +kernel
theorem dX9_shortOf_6 : decode cX9_shortOf 6 = .ok (.getfield 28, 3) := by decide +kernel
theorem dX9_shortOf_9 : decode cX9_shortOf 9 = .ok (.getfield 140, 3) := by decide +kernel
theorem dX9_shortOf_12 : decode cX9_shortOf 12 = .ok (.getfield 134, 3) := by decide +kernel
theorem dX9_shortOf_15 : decode cX9_shortOf 15 = .ok (.if_icmp .ge 47, 3) := by decide +kernel
theorem dX9_shortOf_18 : decode cX9_shortOf 18 = .ok (.aload_n 0, 1) := by decide +kernel
theorem dX9_shortOf_19 : decode cX9_shortOf 19 = .ok (.getfield 28, 3) := by decide +kernel
theorem dX9_shortOf_22 : decode cX9_shortOf 22 = .ok (.getfield 140, 3) := by decide +kernel
theorem dX9_shortOf_25 : decode cX9_shortOf 25 = .ok (.iload_n 3, 1) := by decide +kernel
theorem dX9_shortOf_26 : decode cX9_shortOf 26 = .ok (.iconst 1, 1) := by decide +kernel
theorem dX9_shortOf_27 : decode cX9_shortOf 27 = .ok (.invokevirtual 108, 3) := by decide +kernel
theorem dX9_shortOf_30 : decode cX9_shortOf 30 = .ok (.iload_n 1, 1) := by decide +kernel
theorem dX9_shortOf_31 : decode cX9_shortOf 31 = .ok (.if_icmp .ne 25, 3) := by decide +kernel
theorem dX9_shortOf_34 : decode cX9_shortOf 34 = .ok (.iload_n 2, 1) := by decide +kernel
theorem dX9_shortOf_35 : decode cX9_shortOf 35 = .ok (.aload_n 0, 1) := by decide +kernel
theorem dX9_shortOf_36 : decode cX9_shortOf 36 = .ok (.getfield 50, 3) := by decide +kernel
theorem dX9_shortOf_39 : decode cX9_shortOf 39 = .ok (.getfield 185, 3) := by decide +kernel
theorem dX9_shortOf_42 : decode cX9_shortOf 42 = .ok (.iload_n 3, 1) := by decide +kernel
theorem dX9_shortOf_43 : decode cX9_shortOf 43 = .ok (.iaload, 1) := by decide +kernel
theorem dX9_shortOf_44 : decode cX9_shortOf 44 = .ok (.aload_n 0, 1) := by decide +kernel
theorem dX9_shortOf_45 : decode cX9_shortOf 45 = .ok (.getfield 50, 3) := by decide +kernel
theorem dX9_shortOf_48 : decode cX9_shortOf 48 = .ok (.getfield 188, 3) := by decide +kernel
theorem dX9_shortOf_51 : decode cX9_shortOf 51 = .ok (.iload_n 3, 1) := by decide +kernel
theorem dX9_shortOf_52 : decode cX9_shortOf 52 = .ok (.iaload, 1) := by decide +kernel
theorem dX9_shortOf_53 : decode cX9_shortOf 53 = .ok (.isub, 1) := by decide +kernel
theorem dX9_shortOf_54 : decode cX9_shortOf 54 = .ok (.iadd, 1) := by decide +kernel
theorem dX9_shortOf_55 : decode cX9_shortOf 55 = .ok (.istore_n 2, 1) := by decide +kernel
theorem dX9_shortOf_56 : decode cX9_shortOf 56 = .ok (.iinc 3 1, 3) := by decide +kernel
theorem dX9_shortOf_59 : decode cX9_shortOf 59 = .ok (.goto (-55), 3) := by decide +kernel
theorem dX9_shortOf_62 : decode cX9_shortOf 62 = .ok (.iconst 0, 1) := by decide +kernel
theorem dX9_shortOf_63 : decode cX9_shortOf 63 = .ok (.istore_n 3, 1) := by decide +kernel
theorem dX9_shortOf_64 : decode cX9_shortOf 64 = .ok (.iload_n 3, 1) := by decide +kernel
theorem dX9_shortOf_65 : decode cX9_shortOf 65 = .ok (.aload_n 0, 1) := by decide +kernel
theorem dX9_shortOf_66 : decode cX9_shortOf 66 = .ok (.getfield 28, 3) := by decide +kernel
theorem dX9_shortOf_69 : decode cX9_shortOf 69 = .ok (.getfield 117, 3) := by decide +kernel
theorem dX9_shortOf_72 : decode cX9_shortOf 72 = .ok (.getfield 134, 3) := by decide +kernel
theorem dX9_shortOf_75 : decode cX9_shortOf 75 = .ok (.if_icmp .ge 47, 3) := by decide +kernel
theorem dX9_shortOf_78 : decode cX9_shortOf 78 = .ok (.aload_n 0, 1) := by decide +kernel
theorem dX9_shortOf_79 : decode cX9_shortOf 79 = .ok (.getfield 28, 3) := by decide +kernel
theorem dX9_shortOf_82 : decode cX9_shortOf 82 = .ok (.getfield 117, 3) := by decide +kernel
theorem dX9_shortOf_85 : decode cX9_shortOf 85 = .ok (.iload_n 3, 1) := by decide +kernel
theorem dX9_shortOf_86 : decode cX9_shortOf 86 = .ok (.iconst 3, 1) := by decide +kernel
theorem dX9_shortOf_87 : decode cX9_shortOf 87 = .ok (.invokevirtual 108, 3) := by decide +kernel
theorem dX9_shortOf_90 : decode cX9_shortOf 90 = .ok (.iload_n 1, 1) := by decide +kernel
theorem dX9_shortOf_91 : decode cX9_shortOf 91 = .ok (.if_icmp .ne 25, 3) := by decide +kernel
theorem dX9_shortOf_94 : decode cX9_shortOf 94 = .ok (.iload_n 2, 1) := by decide +kernel
theorem dX9_shortOf_95 : decode cX9_shortOf 95 = .ok (.aload_n 0, 1) := by decide +kernel
theorem dX9_shortOf_96 : decode cX9_shortOf 96 = .ok (.getfield 50, 3) := by decide +kernel
theorem dX9_shortOf_99 : decode cX9_shortOf 99 = .ok (.getfield 172, 3) := by decide +kernel
theorem dX9_shortOf_102 : decode cX9_shortOf 102 = .ok (.iload_n 3, 1) := by decide +kernel
theorem dX9_shortOf_103 : decode cX9_shortOf 103 = .ok (.iaload, 1) := by decide +kernel
theorem dX9_shortOf_104 : decode cX9_shortOf 104 = .ok (.aload_n 0, 1) := by decide +kernel
theorem dX9_shortOf_105 : decode cX9_shortOf 105 = .ok (.getfield 50, 3) := by decide +kernel
theorem dX9_shortOf_108 : decode cX9_shortOf 108 = .ok (.getfield 175, 3) := by decide +kernel
theorem dX9_shortOf_111 : decode cX9_shortOf 111 = .ok (.iload_n 3, 1) := by decide +kernel
theorem dX9_shortOf_112 : decode cX9_shortOf 112 = .ok (.iaload, 1) := by decide +kernel
theorem dX9_shortOf_113 : decode cX9_shortOf 113 = .ok (.isub, 1) := by decide +kernel
theorem dX9_shortOf_114 : decode cX9_shortOf 114 = .ok (.iadd, 1) := by decide +kernel
theorem dX9_shortOf_115 : decode cX9_shortOf 115 = .ok (.istore_n 2, 1) := by decide +kernel
theorem dX9_shortOf_116 : decode cX9_shortOf 116 = .ok (.iinc 3 1, 3) := by decide +kernel
theorem dX9_shortOf_119 : decode cX9_shortOf 119 = .ok (.goto (-55), 3) := by decide +kernel
theorem dX9_shortOf_122 : decode cX9_shortOf 122 = .ok (.iload_n 2, 1) := by decide +kernel
theorem dX9_shortOf_123 : decode cX9_shortOf 123 = .ok (.ireturn, 1) := by decide +kernel
theorem dX9_share_0 : decode cX9_share 0 = .ok (.aload_n 0, 1) := by decide +kernel
theorem dX9_share_1 : decode cX9_share 1 = .ok (.iload_n 1, 1) := by decide +kernel
theorem dX9_share_2 : decode cX9_share 2 = .ok (.invokevirtual 101, 3) := by decide +kernel
theorem dX9_share_5 : decode cX9_share 5 = .ok (.ifCond .ne 6, 3) := by decide +kernel
theorem dX9_share_8 : decode cX9_share 8 = .ok (.bipush (-2), 2) := by decide +kernel
theorem dX9_share_10 : decode cX9_share 10 = .ok (.ireturn, 1) := by decide +kernel
theorem dX9_share_11 : decode cX9_share 11 = .ok (.aload_n 0, 1) := by decide +kernel
theorem dX9_share_12 : decode cX9_share 12 = .ok (.getfield 28, 3) := by decide +kernel
theorem dX9_share_15 : decode cX9_share 15 = .ok (.getfield 104, 3) := by decide +kernel
theorem dX9_share_18 : decode cX9_share 18 = .ok (.getfield 134, 3) := by decide +kernel
theorem dX9_share_21 : decode cX9_share 21 = .ok (.iconst 1, 1) := by decide +kernel
theorem dX9_share_22 : decode cX9_share 22 = .ok (.isub, 1) := by decide +kernel
theorem dX9_share_23 : decode cX9_share 23 = .ok (.istore_n 2, 1) := by decide +kernel
theorem dX9_share_24 : decode cX9_share 24 = .ok (.iload_n 1, 1) := by decide +kernel
theorem dX9_share_25 : decode cX9_share 25 = .ok (.iload_n 2, 1) := by decide +kernel
theorem dX9_share_26 : decode cX9_share 26 = .ok (.if_icmp .ge 9, 3) := by decide +kernel
theorem dX9_share_29 : decode cX9_share 29 = .ok (.aload_n 0, 1) := by decide +kernel
theorem dX9_share_30 : decode cX9_share 30 = .ok (.iload_n 1, 1) := by decide +kernel
theorem dX9_share_31 : decode cX9_share 31 = .ok (.invokevirtual 320, 3) := by decide +kernel
theorem dX9_share_34 : decode cX9_share 34 = .ok (.ireturn, 1) := by decide +kernel
theorem dX9_share_35 : decode cX9_share 35 = .ok (.iconst 0, 1) := by decide +kernel
theorem dX9_share_36 : decode cX9_share 36 = .ok (.istore_n 3, 1) := by decide +kernel
theorem dX9_share_37 : decode cX9_share 37 = .ok (.iconst 0, 1) := by decide +kernel
theorem dX9_share_38 : decode cX9_share 38 = .ok (.istore 4, 2) := by decide +kernel
theorem dX9_share_40 : decode cX9_share 40 = .ok (.iload 4, 2) := by decide +kernel
theorem dX9_share_42 : decode cX9_share 42 = .ok (.iload_n 2, 1) := by decide +kernel
theorem dX9_share_43 : decode cX9_share 43 = .ok (.if_icmp .gt 25, 3) := by decide +kernel
theorem dX9_share_46 : decode cX9_share 46 = .ok (.iload_n 3, 1) := by decide +kernel
theorem dX9_share_47 : decode cX9_share 47 = .ok (.aload_n 0, 1) := by decide +kernel
theorem dX9_share_48 : decode cX9_share 48 = .ok (.getfield 28, 3) := by decide +kernel
theorem dX9_share_51 : decode cX9_share 51 = .ok (.getfield 104, 3) := by decide +kernel
theorem dX9_share_54 : decode cX9_share 54 = .ok (.iload 4, 2) := by decide +kernel
theorem dX9_share_56 : decode cX9_share 56 = .ok (.iconst 4, 1) := by decide +kernel
theorem dX9_share_57 : decode cX9_share 57 = .ok (.invokevirtual 108, 3) := by decide +kernel
theorem dX9_share_60 : decode cX9_share 60 = .ok (.iadd, 1) := by decide +kernel
theorem dX9_share_61 : decode cX9_share 61 = .ok (.istore_n 3, 1) := by decide +kernel
theorem dX9_share_62 : decode cX9_share 62 = .ok (.iinc 4 1, 3) := by decide +kernel
theorem dX9_share_65 : decode cX9_share 65 = .ok (.goto (-25), 3) := by decide +kernel
theorem dX9_share_68 : decode cX9_share 68 = .ok (.iconst 0, 1) := by decide +kernel
theorem dX9_share_69 : decode cX9_share 69 = .ok (.istore 4, 2) := by decide +kernel
theorem dX9_share_71 : decode cX9_share 71 = .ok (.iload 4, 2) := by decide +kernel
theorem dX9_share_73 : decode cX9_share 73 = .ok (.iload_n 2, 1) := by decide +kernel
theorem dX9_share_74 : decode cX9_share 74 = .ok (.if_icmp .ge 18, 3) := by decide +kernel
theorem dX9_share_77 : decode cX9_share 77 = .ok (.iload_n 3, 1) := by decide +kernel
theorem dX9_share_78 : decode cX9_share 78 = .ok (.aload_n 0, 1) := by decide +kernel
theorem dX9_share_79 : decode cX9_share 79 = .ok (.iload 4, 2) := by decide +kernel
theorem dX9_share_81 : decode cX9_share 81 = .ok (.invokevirtual 320, 3) := by decide +kernel
theorem dX9_share_84 : decode cX9_share 84 = .ok (.isub, 1) := by decide +kernel
theorem dX9_share_85 : decode cX9_share 85 = .ok (.istore_n 3, 1) := by decide +kernel
theorem dX9_share_86 : decode cX9_share 86 = .ok (.iinc 4 1, 3) := by decide +kernel
theorem dX9_share_89 : decode cX9_share 89 = .ok (.goto (-18), 3) := by decide +kernel
theorem dX9_share_92 : decode cX9_share 92 = .ok (.iload_n 3, 1) := by decide +kernel
theorem dX9_share_93 : decode cX9_share 93 = .ok (.ireturn, 1) := by decide +kernel
theorem dX9_cutShare_0 : decode cX9_cutShare 0 = .ok (.iconst 0, 1) := by decide +kernel
theorem dX9_cutShare_1 : decode cX9_cutShare 1 = .ok (.istore_n 2, 1) := by decide +kernel
theorem dX9_cutShare_2 : decode cX9_cutShare 2 = .ok (.iconst 0, 1) := by decide +kernel
theorem dX9_cutShare_3 : decode cX9_cutShare 3 = .ok (.istore_n 3, 1) := by decide +kernel
theorem dX9_cutShare_4 : decode cX9_cutShare 4 = .ok (.iload_n 3, 1) := by decide +kernel
theorem dX9_cutShare_5 : decode cX9_cutShare 5 = .ok (.iload_n 1, 1) := by decide +kernel
theorem dX9_cutShare_6 : decode cX9_cutShare 6 = .ok (.if_icmp .gt 41, 3) := by decide +kernel
theorem dX9_cutShare_9 : decode cX9_cutShare 9 = .ok (.iload_n 2, 1) := by decide +kernel
theorem dX9_cutShare_10 : decode cX9_cutShare 10 = .ok (.aload_n 0, 1) := by decide +kernel
theorem dX9_cutShare_11 : decode cX9_cutShare 11 = .ok (.getfield 28, 3) := by decide +kernel
theorem dX9_cutShare_14 : decode cX9_cutShare 14 = .ok (.getfield 104, 3) := by decide +kernel
theorem dX9_cutShare_17 : decode cX9_cutShare 17 = .ok (.iload_n 3, 1) := by decide +kernel
theorem dX9_cutShare_18 : decode cX9_cutShare 18 = .ok (.iconst 4, 1) := by decide +kernel
theorem dX9_cutShare_19 : decode cX9_cutShare 19 = .ok (.invokevirtual 108, 3) := by decide +kernel
theorem dX9_cutShare_22 : decode cX9_cutShare 22 = .ok (.iconst 1, 1) := by decide +kernel
theorem dX9_cutShare_23 : decode cX9_cutShare 23 = .ok (.aload_n 0, 1) := by decide +kernel
theorem dX9_cutShare_24 : decode cX9_cutShare 24 = .ok (.getfield 28, 3) := by decide +kernel
theorem dX9_cutShare_27 : decode cX9_cutShare 27 = .ok (.getfield 104, 3) := by decide +kernel
theorem dX9_cutShare_30 : decode cX9_cutShare 30 = .ok (.getfield 134, 3) := by decide +kernel
theorem dX9_cutShare_33 : decode cX9_cutShare 33 = .ok (.iload_n 3, 1) := by decide +kernel
theorem dX9_cutShare_34 : decode cX9_cutShare 34 = .ok (.isub, 1) := by decide +kernel
theorem dX9_cutShare_35 : decode cX9_cutShare 35 = .ok (.invokestatic 323, 3) := by decide +kernel
theorem dX9_cutShare_38 : decode cX9_cutShare 38 = .ok (.idiv, 1) := by decide +kernel
theorem dX9_cutShare_39 : decode cX9_cutShare 39 = .ok (.iadd, 1) := by decide +kernel
theorem dX9_cutShare_40 : decode cX9_cutShare 40 = .ok (.istore_n 2, 1) := by decide +kernel
theorem dX9_cutShare_41 : decode cX9_cutShare 41 = .ok (.iinc 3 1, 3) := by decide +kernel
theorem dX9_cutShare_44 : decode cX9_cutShare 44 = .ok (.goto (-40), 3) := by decide +kernel
theorem dX9_cutShare_47 : decode cX9_cutShare 47 = .ok (.iload_n 2, 1) := by decide +kernel
theorem dX9_cutShare_48 : decode cX9_cutShare 48 = .ok (.ireturn, 1) := by decide +kernel
theorem dX9_enough_0 : decode cX9_enough 0 = .ok (.aload_n 0, 1) := by decide +kernel
theorem dX9_enough_1 : decode cX9_enough 1 = .ok (.iload_n 1, 1) := by decide +kernel
theorem dX9_enough_2 : decode cX9_enough 2 = .ok (.invokevirtual 101, 3) := by decide +kernel
theorem dX9_enough_5 : decode cX9_enough 5 = .ok (.ifCond .ne 6, 3) := by decide +kernel
theorem dX9_enough_8 : decode cX9_enough 8 = .ok (.bipush (-2), 2) := by decide +kernel
theorem dX9_enough_10 : decode cX9_enough 10 = .ok (.ireturn, 1) := by decide +kernel
theorem dX9_enough_11 : decode cX9_enough 11 = .ok (.aload_n 0, 1) := by decide +kernel
theorem dX9_enough_12 : decode cX9_enough 12 = .ok (.getfield 28, 3) := by decide +kernel
theorem dX9_enough_15 : decode cX9_enough 15 = .ok (.getfield 104, 3) := by decide +kernel
theorem dX9_enough_18 : decode cX9_enough 18 = .ok (.iload_n 1, 1) := by decide +kernel
theorem dX9_enough_19 : decode cX9_enough 19 = .ok (.iconst 0, 1) := by decide +kernel
theorem dX9_enough_20 : decode cX9_enough 20 = .ok (.invokevirtual 108, 3) := by decide +kernel
theorem dX9_enough_23 : decode cX9_enough 23 = .ok (.istore_n 2, 1) := by decide +kernel
theorem dX9_enough_24 : decode cX9_enough 24 = .ok (.iconst 0, 1) := by decide +kernel
theorem dX9_enough_25 : decode cX9_enough 25 = .ok (.istore_n 3, 1) := by decide +kernel
theorem dX9_enough_26 : decode cX9_enough 26 = .ok (.iload_n 3, 1) := by decide +kernel
theorem dX9_enough_27 : decode cX9_enough 27 = .ok (.iload_n 2, 1) := by decide +kernel
theorem dX9_enough_28 : decode cX9_enough 28 = .ok (.if_icmp .gt 20, 3) := by decide +kernel
theorem dX9_enough_31 : decode cX9_enough 31 = .ok (.aload_n 0, 1) := by decide +kernel
theorem dX9_enough_32 : decode cX9_enough 32 = .ok (.iload_n 1, 1) := by decide +kernel
theorem dX9_enough_33 : decode cX9_enough 33 = .ok (.iload_n 3, 1) := by decide +kernel
theorem dX9_enough_34 : decode cX9_enough 34 = .ok (.invokevirtual 325, 3) := by decide +kernel
theorem dX9_enough_37 : decode cX9_enough 37 = .ok (.ifCond .eq 5, 3) := by decide +kernel
theorem dX9_enough_40 : decode cX9_enough 40 = .ok (.iload_n 3, 1) := by decide +kernel
theorem dX9_enough_41 : decode cX9_enough 41 = .ok (.ireturn, 1) := by decide +kernel
theorem dX9_enough_42 : decode cX9_enough 42 = .ok (.iinc 3 1, 3) := by decide +kernel
theorem dX9_enough_45 : decode cX9_enough 45 = .ok (.goto (-19), 3) := by decide +kernel
theorem dX9_enough_48 : decode cX9_enough 48 = .ok (.iconst (-1), 1) := by decide +kernel
theorem dX9_enough_49 : decode cX9_enough 49 = .ok (.ireturn, 1) := by decide +kernel
theorem dX9_neverDry_0 : decode cX9_neverDry 0 = .ok (.aload_n 0, 1) := by decide +kernel
theorem dX9_neverDry_1 : decode cX9_neverDry 1 = .ok (.getfield 50, 3) := by decide +kernel
theorem dX9_neverDry_4 : decode cX9_neverDry 4 = .ok (.invokevirtual 153, 3) := by decide +kernel
theorem dX9_neverDry_7 : decode cX9_neverDry 7 = .ok (.aload_n 0, 1) := by decide +kernel
theorem dX9_neverDry_8 : decode cX9_neverDry 8 = .ok (.getfield 50, 3) := by decide +kernel
theorem dX9_neverDry_11 : decode cX9_neverDry 11 = .ok (.iload_n 1, 1) := by decide +kernel
theorem dX9_neverDry_12 : decode cX9_neverDry 12 = .ok (.iload_n 2, 1) := by decide +kernel
theorem dX9_neverDry_13 : decode cX9_neverDry 13 = .ok (.aload_n 0, 1) := by decide +kernel
theorem dX9_neverDry_14 : decode cX9_neverDry 14 = .ok (.getfield 50, 3) := by decide +kernel
theorem dX9_neverDry_17 : decode cX9_neverDry 17 = .ok (.iload_n 1, 1) := by decide +kernel
theorem dX9_neverDry_18 : decode cX9_neverDry 18 = .ok (.invokevirtual 311, 3) := by decide +kernel
theorem dX9_neverDry_21 : decode cX9_neverDry 21 = .ok (.isub, 1) := by decide +kernel
theorem dX9_neverDry_22 : decode cX9_neverDry 22 = .ok (.invokevirtual 329, 3) := by decide +kernel
theorem dX9_neverDry_25 : decode cX9_neverDry 25 = .ok (.iconst 0, 1) := by decide +kernel
theorem dX9_neverDry_26 : decode cX9_neverDry 26 = .ok (.istore_n 3, 1) := by decide +kernel
theorem dX9_neverDry_27 : decode cX9_neverDry 27 = .ok (.iload_n 3, 1) := by decide +kernel
theorem dX9_neverDry_28 : decode cX9_neverDry 28 = .ok (.aload_n 0, 1) := by decide +kernel
theorem dX9_neverDry_29 : decode cX9_neverDry 29 = .ok (.getfield 28, 3) := by decide +kernel
theorem dX9_neverDry_32 : decode cX9_neverDry 32 = .ok (.getfield 131, 3) := by decide +kernel
theorem dX9_neverDry_35 : decode cX9_neverDry 35 = .ok (.if_icmp .ge 30, 3) := by decide +kernel
theorem dX9_neverDry_38 : decode cX9_neverDry 38 = .ok (.aload_n 0, 1) := by decide +kernel
theorem dX9_neverDry_39 : decode cX9_neverDry 39 = .ok (.getfield 50, 3) := by decide +kernel
theorem dX9_neverDry_42 : decode cX9_neverDry 42 = .ok (.iload_n 3, 1) := by decide +kernel
theorem dX9_neverDry_43 : decode cX9_neverDry 43 = .ok (.invokevirtual 333, 3) := by decide +kernel
theorem dX9_neverDry_46 : decode cX9_neverDry 46 = .ok (.aload_n 0, 1) := by decide +kernel
theorem dX9_neverDry_47 : decode cX9_neverDry 47 = .ok (.getfield 50, 3) := by decide +kernel
theorem dX9_neverDry_50 : decode cX9_neverDry 50 = .ok (.iload_n 1, 1) := by decide +kernel
theorem dX9_neverDry_51 : decode cX9_neverDry 51 = .ok (.invokevirtual 336, 3) := by decide +kernel
theorem dX9_neverDry_54 : decode cX9_neverDry 54 = .ok (.ifCond .eq 5, 3) := by decide +kernel
theorem dX9_neverDry_57 : decode cX9_neverDry 57 = .ok (.iconst 0, 1) := by decide +kernel
theorem dX9_neverDry_58 : decode cX9_neverDry 58 = .ok (.ireturn, 1) := by decide +kernel
theorem dX9_neverDry_59 : decode cX9_neverDry 59 = .ok (.iinc 3 1, 3) := by decide +kernel
theorem dX9_neverDry_62 : decode cX9_neverDry 62 = .ok (.goto (-35), 3) := by decide +kernel
theorem dX9_neverDry_65 : decode cX9_neverDry 65 = .ok (.iconst 1, 1) := by decide +kernel
theorem dX9_neverDry_66 : decode cX9_neverDry 66 = .ok (.ireturn, 1) := by decide +kernel
theorem dX9_reckonDebts_0 : decode cX9_reckonDebts 0 = .ok (.aload_n 0, 1) := by decide +kernel
theorem dX9_reckonDebts_1 : decode cX9_reckonDebts 1 = .ok (.getfield 50, 3) := by decide +kernel
theorem dX9_reckonDebts_4 : decode cX9_reckonDebts 4 = .ok (.invokevirtual 153, 3) := by decide +kernel
theorem dX9_reckonDebts_7 : decode cX9_reckonDebts 7 = .ok (.aload_n 0, 1) := by decide +kernel
theorem dX9_reckonDebts_8 : decode cX9_reckonDebts 8 = .ok (.getfield 50, 3) := by decide +kernel
theorem dX9_reckonDebts_11 : decode cX9_reckonDebts 11 = .ok (.invokevirtual 156, 3) := by decide +kernel
theorem dX9_reckonDebts_14 : decode cX9_reckonDebts 14 = .ok (.aload_n 0, 1) := by decide +kernel
theorem dX9_reckonDebts_15 : decode cX9_reckonDebts 15 = .ok (.getfield 66, 3) := by decide +kernel
theorem dX9_reckonDebts_18 : decode cX9_reckonDebts 18 = .ok (.invokevirtual 339, 3) := by decide +kernel
theorem dX9_reckonDebts_21 : decode cX9_reckonDebts 21 = .ok (.return_, 1) := by decide +kernel
theorem dX9_arePair_0 : decode cX9_arePair 0 = .ok (.aload_n 0, 1) := by decide +kernel
theorem dX9_arePair_1 : decode cX9_arePair 1 = .ok (.iload_n 1, 1) := by decide +kernel
theorem dX9_arePair_2 : decode cX9_arePair 2 = .ok (.invokevirtual 101, 3) := by decide +kernel
theorem dX9_arePair_5 : decode cX9_arePair 5 = .ok (.ifCond .eq 20, 3) := by decide +kernel
theorem dX9_arePair_8 : decode cX9_arePair 8 = .ok (.aload_n 0, 1) := by decide +kernel
theorem dX9_arePair_9 : decode cX9_arePair 9 = .ok (.iload_n 2, 1) := by decide +kernel
theorem dX9_arePair_10 : decode cX9_arePair 10 = .ok (.invokevirtual 101, 3) := by decide +kernel
theorem dX9_arePair_13 : decode cX9_arePair 13 = .ok (.ifCond .eq 12, 3) := by decide +kernel
theorem dX9_arePair_16 : decode cX9_arePair 16 = .ok (.iload_n 1, 1) := by decide +kernel
theorem dX9_arePair_17 : decode cX9_arePair 17 = .ok (.iload_n 2, 1) := by decide +kernel
theorem dX9_arePair_18 : decode cX9_arePair 18 = .ok (.if_icmp .eq 7, 3) := by decide +kernel
theorem dX9_arePair_21 : decode cX9_arePair 21 = .ok (.iconst 1, 1) := by decide +kernel
theorem dX9_arePair_22 : decode cX9_arePair 22 = .ok (.goto 4, 3) := by decide +kernel
theorem dX9_arePair_25 : decode cX9_arePair 25 = .ok (.iconst 0, 1) := by decide +kernel
theorem dX9_arePair_26 : decode cX9_arePair 26 = .ok (.ireturn, 1) := by decide +kernel
theorem dX9_owes_0 : decode cX9_owes 0 = .ok (.aload_n 0, 1) := by decide +kernel
theorem dX9_owes_1 : decode cX9_owes 1 = .ok (.iload_n 1, 1) := by decide +kernel
theorem dX9_owes_2 : decode cX9_owes 2 = .ok (.iload_n 2, 1) := by decide +kernel
theorem dX9_owes_3 : decode cX9_owes 3 = .ok (.invokevirtual 342, 3) := by decide +kernel
theorem dX9_owes_6 : decode cX9_owes 6 = .ok (.ifCond .ne 6, 3) := by decide +kernel
theorem dX9_owes_9 : decode cX9_owes 9 = .ok (.bipush (-2), 2) := by decide +kernel
theorem dX9_owes_11 : decode cX9_owes 11 = .ok (.ireturn, 1) := by decide +kernel
theorem dX9_owes_12 : decode cX9_owes 12 = .ok (.aload_n 0, 1) := by decide +kernel
theorem dX9_owes_13 : decode cX9_owes 13 = .ok (.invokevirtual 345, 3) := by decide +kernel
theorem dX9_owes_16 : decode cX9_owes 16 = .ok (.aload_n 0, 1) := by decide +kernel
theorem dX9_owes_17 : decode cX9_owes 17 = .ok (.getfield 66, 3) := by decide +kernel
theorem dX9_owes_20 : decode cX9_owes 20 = .ok (.getfield 348, 3) := by decide +kernel
theorem dX9_owes_23 : decode cX9_owes 23 = .ok (.iload_n 1, 1) := by decide +kernel
theorem dX9_owes_24 : decode cX9_owes 24 = .ok (.iload_n 2, 1) := by decide +kernel
theorem dX9_owes_25 : decode cX9_owes 25 = .ok (.invokevirtual 352, 3) := by decide +kernel
theorem dX9_owes_28 : decode cX9_owes 28 = .ok (.ireturn, 1) := by decide +kernel
theorem dX9_rings_0 : decode cX9_rings 0 = .ok (.aload_n 0, 1) := by decide +kernel
theorem dX9_rings_1 : decode cX9_rings 1 = .ok (.invokevirtual 124, 3) := by decide +kernel
theorem dX9_rings_4 : decode cX9_rings 4 = .ok (.ifCond .eq 12, 3) := by decide +kernel
theorem dX9_rings_7 : decode cX9_rings 7 = .ok (.iload_n 1, 1) := by decide +kernel
theorem dX9_rings_8 : decode cX9_rings 8 = .ok (.ifCond .eq 11, 3) := by decide +kernel
theorem dX9_rings_11 : decode cX9_rings 11 = .ok (.iload_n 1, 1) := by decide +kernel
theorem dX9_rings_12 : decode cX9_rings 12 = .ok (.iconst 1, 1) := by decide +kernel
theorem dX9_rings_13 : decode cX9_rings 13 = .ok (.if_icmp .eq 6, 3) := by decide +kernel
theorem dX9_rings_16 : decode cX9_rings 16 = .ok (.bipush (-2), 2) := by decide +kernel
theorem dX9_rings_18 : decode cX9_rings 18 = .ok (.ireturn, 1) := by decide +kernel
theorem dX9_rings_19 : decode cX9_rings 19 = .ok (.aload_n 0, 1) := by decide +kernel
theorem dX9_rings_20 : decode cX9_rings 20 = .ok (.invokevirtual 345, 3) := by decide +kernel
theorem dX9_rings_23 : decode cX9_rings 23 = .ok (.aload_n 0, 1) := by decide +kernel
theorem dX9_rings_24 : decode cX9_rings 24 = .ok (.getfield 66, 3) := by decide +kernel
theorem dX9_rings_27 : decode cX9_rings 27 = .ok (.invokevirtual 355, 3) := by decide +kernel
theorem dX9_rings_30 : decode cX9_rings 30 = .ok (.iload_n 1, 1) := by decide +kernel
theorem dX9_rings_31 : decode cX9_rings 31 = .ok (.ifCond .ne 13, 3) := by decide +kernel
theorem dX9_rings_34 : decode cX9_rings 34 = .ok (.aload_n 0, 1) := by decide +kernel
theorem dX9_rings_35 : decode cX9_rings 35 = .ok (.getfield 66, 3) := by decide +kernel
theorem dX9_rings_38 : decode cX9_rings 38 = .ok (.getfield 358, 3) := by decide +kernel
theorem dX9_rings_41 : decode cX9_rings 41 = .ok (.goto 10, 3) := by decide +kernel
theorem dX9_rings_44 : decode cX9_rings 44 = .ok (.aload_n 0, 1) := by decide +kernel
theorem dX9_rings_45 : decode cX9_rings 45 = .ok (.getfield 66, 3) := by decide +kernel
theorem dX9_rings_48 : decode cX9_rings 48 = .ok (.getfield 361, 3) := by decide +kernel
theorem dX9_rings_51 : decode cX9_rings 51 = .ok (.ireturn, 1) := by decide +kernel
theorem dX9_ring_0 : decode cX9_ring 0 = .ok (.aload_n 0, 1) := by decide +kernel
theorem dX9_ring_1 : decode cX9_ring 1 = .ok (.invokevirtual 124, 3) := by decide +kernel
theorem dX9_ring_4 : decode cX9_ring 4 = .ok (.ifCond .ne 6, 3) := by decide +kernel
theorem dX9_ring_7 : decode cX9_ring 7 = .ok (.bipush (-2), 2) := by decide +kernel
theorem dX9_ring_9 : decode cX9_ring 9 = .ok (.ireturn, 1) := by decide +kernel
theorem dX9_ring_10 : decode cX9_ring 10 = .ok (.aload_n 0, 1) := by decide +kernel
theorem dX9_ring_11 : decode cX9_ring 11 = .ok (.invokevirtual 345, 3) := by decide +kernel
theorem dX9_ring_14 : decode cX9_ring 14 = .ok (.aload_n 0, 1) := by decide +kernel
theorem dX9_ring_15 : decode cX9_ring 15 = .ok (.getfield 66, 3) := by decide +kernel
theorem dX9_ring_18 : decode cX9_ring 18 = .ok (.invokevirtual 355, 3) := by decide +kernel
theorem dX9_ring_21 : decode cX9_ring 21 = .ok (.aload_n 0, 1) := by decide +kernel
theorem dX9_ring_22 : decode cX9_ring 22 = .ok (.getfield 66, 3) := by decide +kernel
theorem dX9_ring_25 : decode cX9_ring 25 = .ok (.iload_n 1, 1) := by decide +kernel
theorem dX9_ring_26 : decode cX9_ring 26 = .ok (.invokevirtual 364, 3) := by decide +kernel
theorem dX9_ring_29 : decode cX9_ring 29 = .ok (.ireturn, 1) := by decide +kernel
theorem dX9_left_0 : decode cX9_left 0 = .ok (.aload_n 0, 1) := by decide +kernel
theorem dX9_left_1 : decode cX9_left 1 = .ok (.iload_n 1, 1) := by decide +kernel
theorem dX9_left_2 : decode cX9_left 2 = .ok (.iload_n 2, 1) := by decide +kernel
theorem dX9_left_3 : decode cX9_left 3 = .ok (.invokevirtual 342, 3) := by decide +kernel
theorem dX9_left_6 : decode cX9_left 6 = .ok (.ifCond .ne 6, 3) := by decide +kernel
theorem dX9_left_9 : decode cX9_left 9 = .ok (.bipush (-2), 2) := by decide +kernel
theorem dX9_left_11 : decode cX9_left 11 = .ok (.ireturn, 1) := by decide +kernel
theorem dX9_left_12 : decode cX9_left 12 = .ok (.aload_n 0, 1) := by decide +kernel
theorem dX9_left_13 : decode cX9_left 13 = .ok (.invokevirtual 345, 3) := by decide +kernel
theorem dX9_left_16 : decode cX9_left 16 = .ok (.aload_n 0, 1) := by decide +kernel
theorem dX9_left_17 : decode cX9_left 17 = .ok (.getfield 66, 3) := by decide +kernel
theorem dX9_left_20 : decode cX9_left 20 = .ok (.invokevirtual 355, 3) := by decide +kernel
theorem dX9_left_23 : decode cX9_left 23 = .ok (.aload_n 0, 1) := by decide +kernel
theorem dX9_left_24 : decode cX9_left 24 = .ok (.getfield 66, 3) := by decide +kernel
theorem dX9_left_27 : decode cX9_left 27 = .ok (.getfield 367, 3) := by decide +kernel
theorem dX9_left_30 : decode cX9_left 30 = .ok (.iload_n 1, 1) := by decide +kernel
theorem dX9_left_31 : decode cX9_left 31 = .ok (.iload_n 2, 1) := by decide +kernel
theorem dX9_left_32 : decode cX9_left 32 = .ok (.invokevirtual 352, 3) := by decide +kernel
theorem dX9_left_35 : decode cX9_left 35 = .ok (.ireturn, 1) := by decide +kernel
theorem dX9_struck_0 : decode cX9_struck 0 = .ok (.aload_n 0, 1) := by decide +kernel
theorem dX9_struck_1 : decode cX9_struck 1 = .ok (.invokevirtual 124, 3) := by decide +kernel
theorem dX9_struck_4 : decode cX9_struck 4 = .ok (.ifCond .eq 21, 3) := by decide +kernel
theorem dX9_struck_7 : decode cX9_struck 7 = .ok (.iload_n 1, 1) := by decide +kernel
theorem dX9_struck_8 : decode cX9_struck 8 = .ok (.ifCond .lt 17, 3) := by decide +kernel
theorem dX9_struck_11 : decode cX9_struck 11 = .ok (.iload_n 1, 1) := by decide +kernel
theorem dX9_struck_12 : decode cX9_struck 12 = .ok (.iconst 3, 1) := by decide +kernel
theorem dX9_struck_13 : decode cX9_struck 13 = .ok (.if_icmp .ge 12, 3) := by decide +kernel
theorem dX9_struck_16 : decode cX9_struck 16 = .ok (.iload_n 2, 1) := by decide +kernel
theorem dX9_struck_17 : decode cX9_struck 17 = .ok (.ifCond .eq 11, 3) := by decide +kernel
theorem dX9_struck_20 : decode cX9_struck 20 = .ok (.iload_n 2, 1) := by decide +kernel
theorem dX9_struck_21 : decode cX9_struck 21 = .ok (.iconst 1, 1) := by decide +kernel
theorem dX9_struck_22 : decode cX9_struck 22 = .ok (.if_icmp .eq 6, 3) := by decide +kernel
theorem dX9_struck_25 : decode cX9_struck 25 = .ok (.bipush (-2), 2) := by decide +kernel
theorem dX9_struck_27 : decode cX9_struck 27 = .ok (.ireturn, 1) := by decide +kernel
theorem dX9_struck_28 : decode cX9_struck 28 = .ok (.aload_n 0, 1) := by decide +kernel
theorem dX9_struck_29 : decode cX9_struck 29 = .ok (.invokevirtual 345, 3) := by decide +kernel
theorem dX9_struck_32 : decode cX9_struck 32 = .ok (.aload_n 0, 1) := by decide +kernel
theorem dX9_struck_33 : decode cX9_struck 33 = .ok (.getfield 66, 3) := by decide +kernel
theorem dX9_struck_36 : decode cX9_struck 36 = .ok (.iload_n 1, 1) := by decide +kernel
theorem dX9_struck_37 : decode cX9_struck 37 = .ok (.invokevirtual 370, 3) := by decide +kernel
theorem dX9_struck_40 : decode cX9_struck 40 = .ok (.iload_n 2, 1) := by decide +kernel
theorem dX9_struck_41 : decode cX9_struck 41 = .ok (.ifCond .ne 16, 3) := by decide +kernel
theorem dX9_struck_44 : decode cX9_struck 44 = .ok (.aload_n 0, 1) := by decide +kernel
theorem dX9_struck_45 : decode cX9_struck 45 = .ok (.getfield 66, 3) := by decide +kernel
theorem dX9_struck_48 : decode cX9_struck 48 = .ok (.getfield 373, 3) := by decide +kernel
theorem dX9_struck_51 : decode cX9_struck 51 = .ok (.invokevirtual 376, 3) := by decide +kernel
theorem dX9_struck_54 : decode cX9_struck 54 = .ok (.goto 10, 3) := by decide +kernel
theorem dX9_struck_57 : decode cX9_struck 57 = .ok (.aload_n 0, 1) := by decide +kernel
theorem dX9_struck_58 : decode cX9_struck 58 = .ok (.getfield 66, 3) := by decide +kernel
theorem dX9_struck_61 : decode cX9_struck 61 = .ok (.invokevirtual 379, 3) := by decide +kernel
theorem dX9_struck_64 : decode cX9_struck 64 = .ok (.ireturn, 1) := by decide +kernel
theorem dX9_pays_0 : decode cX9_pays 0 = .ok (.iload_n 1, 1) := by decide +kernel
theorem dX9_pays_1 : decode cX9_pays 1 = .ok (.ifCond .lt 17, 3) := by decide +kernel
theorem dX9_pays_4 : decode cX9_pays 4 = .ok (.iload_n 1, 1) := by decide +kernel
theorem dX9_pays_5 : decode cX9_pays 5 = .ok (.iconst 3, 1) := by decide +kernel
theorem dX9_pays_6 : decode cX9_pays 6 = .ok (.if_icmp .ge 12, 3) := by decide +kernel
theorem dX9_pays_9 : decode cX9_pays 9 = .ok (.aload_n 0, 1) := by decide +kernel
theorem dX9_pays_10 : decode cX9_pays 10 = .ok (.iload_n 2, 1) := by decide +kernel
theorem dX9_pays_11 : decode cX9_pays 11 = .ok (.iload_n 3, 1) := by decide +kernel
theorem dX9_pays_12 : decode cX9_pays 12 = .ok (.invokevirtual 342, 3) := by decide +kernel
theorem dX9_pays_15 : decode cX9_pays 15 = .ok (.ifCond .ne 6, 3) := by decide +kernel
theorem dX9_pays_18 : decode cX9_pays 18 = .ok (.bipush (-2), 2) := by decide +kernel
theorem dX9_pays_20 : decode cX9_pays 20 = .ok (.ireturn, 1) := by decide +kernel
theorem dX9_pays_21 : decode cX9_pays 21 = .ok (.aload_n 0, 1) := by decide +kernel
theorem dX9_pays_22 : decode cX9_pays 22 = .ok (.invokevirtual 345, 3) := by decide +kernel
theorem dX9_pays_25 : decode cX9_pays 25 = .ok (.aload_n 0, 1) := by decide +kernel
theorem dX9_pays_26 : decode cX9_pays 26 = .ok (.getfield 66, 3) := by decide +kernel
theorem dX9_pays_29 : decode cX9_pays 29 = .ok (.iload_n 1, 1) := by decide +kernel
theorem dX9_pays_30 : decode cX9_pays 30 = .ok (.invokevirtual 370, 3) := by decide +kernel
theorem dX9_pays_33 : decode cX9_pays 33 = .ok (.aload_n 0, 1) := by decide +kernel
theorem dX9_pays_34 : decode cX9_pays 34 = .ok (.getfield 66, 3) := by decide +kernel
theorem dX9_pays_37 : decode cX9_pays 37 = .ok (.getfield 373, 3) := by decide +kernel
theorem dX9_pays_40 : decode cX9_pays 40 = .ok (.iload_n 2, 1) := by decide +kernel
theorem dX9_pays_41 : decode cX9_pays 41 = .ok (.iload_n 3, 1) := by decide +kernel
theorem dX9_pays_42 : decode cX9_pays 42 = .ok (.invokevirtual 352, 3) := by decide +kernel
theorem dX9_pays_45 : decode cX9_pays 45 = .ok (.ireturn, 1) := by decide +kernel
theorem dX9_law_0 : decode cX9_law 0 = .ok (.aload_n 0, 1) := by decide +kernel
theorem dX9_law_1 : decode cX9_law 1 = .ok (.invokevirtual 124, 3) := by decide +kernel
theorem dX9_law_4 : decode cX9_law 4 = .ok (.ifCond .ne 6, 3) := by decide +kernel
theorem dX9_law_7 : decode cX9_law 7 = .ok (.bipush (-2), 2) := by decide +kernel
theorem dX9_law_9 : decode cX9_law 9 = .ok (.ireturn, 1) := by decide +kernel
theorem dX9_law_10 : decode cX9_law 10 = .ok (.aload_n 0, 1) := by decide +kernel
theorem dX9_law_11 : decode cX9_law 11 = .ok (.invokevirtual 345, 3) := by decide +kernel
theorem dX9_law_14 : decode cX9_law 14 = .ok (.iconst 0, 1) := by decide +kernel
theorem dX9_law_15 : decode cX9_law 15 = .ok (.istore_n 1, 1) := by decide +kernel
theorem dX9_law_16 : decode cX9_law 16 = .ok (.bipush 7, 2) := by decide +kernel
theorem dX9_law_18 : decode cX9_law 18 = .ok (.istore_n 2, 1) := by decide +kernel
theorem dX9_law_19 : decode cX9_law 19 = .ok (.iconst 0, 1) := by decide +kernel
theorem dX9_law_20 : decode cX9_law 20 = .ok (.istore_n 3, 1) := by decide +kernel
theorem dX9_law_21 : decode cX9_law 21 = .ok (.iload_n 3, 1) := by decide +kernel
theorem dX9_law_22 : decode cX9_law 22 = .ok (.iconst 3, 1) := by decide +kernel
theorem dX9_law_23 : decode cX9_law 23 = .ok (.if_icmp .ge 40, 3) := by decide +kernel
theorem dX9_law_26 : decode cX9_law 26 = .ok (.aload_n 0, 1) := by decide +kernel
theorem dX9_law_27 : decode cX9_law 27 = .ok (.getfield 66, 3) := by decide +kernel
theorem dX9_law_30 : decode cX9_law 30 = .ok (.iload_n 3, 1) := by decide +kernel
theorem dX9_law_31 : decode cX9_law 31 = .ok (.invokevirtual 370, 3) := by decide +kernel
theorem dX9_law_34 : decode cX9_law 34 = .ok (.aload_n 0, 1) := by decide +kernel
theorem dX9_law_35 : decode cX9_law 35 = .ok (.getfield 66, 3) := by decide +kernel
theorem dX9_law_38 : decode cX9_law 38 = .ok (.invokevirtual 379, 3) := by decide +kernel
theorem dX9_law_41 : decode cX9_law 41 = .ok (.invokestatic 382, 3) := by decide +kernel
theorem dX9_law_44 : decode cX9_law 44 = .ok (.istore 4, 2) := by decide +kernel
theorem dX9_law_46 : decode cX9_law 46 = .ok (.iload 4, 2) := by decide +kernel
theorem dX9_law_48 : decode cX9_law 48 = .ok (.iload_n 2, 1) := by decide +kernel
theorem dX9_law_49 : decode cX9_law 49 = .ok (.if_icmp .ge 8, 3) := by decide +kernel
theorem dX9_law_52 : decode cX9_law 52 = .ok (.iload 4, 2) := by decide +kernel
theorem dX9_law_54 : decode cX9_law 54 = .ok (.istore_n 2, 1) := by decide +kernel
theorem dX9_law_55 : decode cX9_law 55 = .ok (.iload_n 3, 1) := by decide +kernel
theorem dX9_law_56 : decode cX9_law 56 = .ok (.istore_n 1, 1) := by decide +kernel
theorem dX9_law_57 : decode cX9_law 57 = .ok (.iinc 3 1, 3) := by decide +kernel
theorem dX9_law_60 : decode cX9_law 60 = .ok (.goto (-39), 3) := by decide +kernel
theorem dX9_law_63 : decode cX9_law 63 = .ok (.iload_n 1, 1) := by decide +kernel
theorem dX9_law_64 : decode cX9_law 64 = .ok (.ireturn, 1) := by decide +kernel
theorem dX9_isSeed_0 : decode cX9_isSeed 0 = .ok (.iload_n 0, 1) := by decide +kernel
theorem dX9_isSeed_1 : decode cX9_isSeed 1 = .ok (.ifCond .lt 14, 3) := by decide +kernel
theorem dX9_isSeed_4 : decode cX9_isSeed 4 = .ok (.iload_n 0, 1) := by decide +kernel
theorem dX9_isSeed_5 : decode cX9_isSeed 5 = .ok (.ldc_w 387, 3) := by decide +kernel
theorem dX9_isSeed_8 : decode cX9_isSeed 8 = .ok (.if_icmp .gt 7, 3) := by decide +kernel
theorem dX9_isSeed_11 : decode cX9_isSeed 11 = .ok (.iconst 1, 1) := by decide +kernel
theorem dX9_isSeed_12 : decode cX9_isSeed 12 = .ok (.goto 4, 3) := by decide +kernel
theorem dX9_isSeed_15 : decode cX9_isSeed 15 = .ok (.iconst 0, 1) := by decide +kernel
theorem dX9_isSeed_16 : decode cX9_isSeed 16 = .ok (.ireturn, 1) := by decide +kernel
theorem dX9_year_0 : decode cX9_year 0 = .ok (.aload_n 0, 1) := by decide +kernel
theorem dX9_year_1 : decode cX9_year 1 = .ok (.invokevirtual 124, 3) := by decide +kernel
theorem dX9_year_4 : decode cX9_year 4 = .ok (.ifCond .eq 10, 3) := by decide +kernel
theorem dX9_year_7 : decode cX9_year 7 = .ok (.iload_n 1, 1) := by decide +kernel
theorem dX9_year_8 : decode cX9_year 8 = .ok (.invokestatic 388, 3) := by decide +kernel
theorem dX9_year_11 : decode cX9_year 11 = .ok (.ifCond .ne 6, 3) := by decide +kernel
theorem dX9_year_14 : decode cX9_year 14 = .ok (.bipush (-2), 2) := by decide +kernel
theorem dX9_year_16 : decode cX9_year 16 = .ok (.ireturn, 1) := by decide +kernel
theorem dX9_year_17 : decode cX9_year 17 = .ok (.aload_n 0, 1) := by decide +kernel
theorem dX9_year_18 : decode cX9_year 18 = .ok (.iload_n 1, 1) := by decide +kernel
theorem dX9_year_19 : decode cX9_year 19 = .ok (.invokevirtual 391, 3) := by decide +kernel
theorem dX9_year_22 : decode cX9_year 22 = .ok (.istore_n 3, 1) := by decide +kernel
theorem dX9_year_23 : decode cX9_year 23 = .ok (.aload_n 0, 1) := by decide +kernel
theorem dX9_year_24 : decode cX9_year 24 = .ok (.getfield 59, 3) := by decide +kernel
theorem dX9_year_27 : decode cX9_year 27 = .ok (.aload_n 0, 1) := by decide +kernel
theorem dX9_year_28 : decode cX9_year 28 = .ok (.getfield 59, 3) := by decide +kernel
theorem dX9_year_31 : decode cX9_year 31 = .ok (.invokevirtual 237, 3) := by decide +kernel
theorem dX9_year_34 : decode cX9_year 34 = .ok (.iload_n 3, 1) := by decide +kernel
theorem dX9_year_35 : decode cX9_year 35 = .ok (.invokevirtual 394, 3) := by decide +kernel
theorem dX9_year_38 : decode cX9_year 38 = .ok (.istore 4, 2) := by decide +kernel
theorem dX9_year_40 : decode cX9_year 40 = .ok (.aload_n 0, 1) := by decide +kernel
theorem dX9_year_41 : decode cX9_year 41 = .ok (.getfield 59, 3) := by decide +kernel
theorem dX9_year_44 : decode cX9_year 44 = .ok (.iload 4, 2) := by decide +kernel
theorem dX9_year_46 : decode cX9_year 46 = .ok (.invokevirtual 397, 3) := by decide +kernel
theorem dX9_year_49 : decode cX9_year 49 = .ok (.iload_n 2, 1) := by decide +kernel
theorem dX9_year_50 : decode cX9_year 50 = .ok (.tableswitch 48 0 2 #[26, 36, 46], 26) := by decide +kernel
theorem dX9_year_76 : decode cX9_year 76 = .ok (.aload_n 0, 1) := by decide +kernel
theorem dX9_year_77 : decode cX9_year 77 = .ok (.getfield 59, 3) := by decide +kernel
theorem dX9_year_80 : decode cX9_year 80 = .ok (.iload 4, 2) := by decide +kernel
theorem dX9_year_82 : decode cX9_year 82 = .ok (.invokevirtual 225, 3) := by decide +kernel
theorem dX9_year_85 : decode cX9_year 85 = .ok (.ireturn, 1) := by decide +kernel
theorem dX9_year_86 : decode cX9_year 86 = .ok (.aload_n 0, 1) := by decide +kernel
theorem dX9_year_87 : decode cX9_year 87 = .ok (.getfield 59, 3) := by decide +kernel
theorem dX9_year_90 : decode cX9_year 90 = .ok (.iload 4, 2) := by decide +kernel
theorem dX9_year_92 : decode cX9_year 92 = .ok (.invokevirtual 400, 3) := by decide +kernel
theorem dX9_year_95 : decode cX9_year 95 = .ok (.ireturn, 1) := by decide +kernel
theorem dX9_year_96 : decode cX9_year 96 = .ok (.iload_n 3, 1) := by decide +kernel
theorem dX9_year_97 : decode cX9_year 97 = .ok (.ireturn, 1) := by decide +kernel
theorem dX9_year_98 : decode cX9_year 98 = .ok (.bipush (-2), 2) := by decide +kernel
theorem dX9_year_100 : decode cX9_year 100 = .ok (.ireturn, 1) := by decide +kernel
theorem dX9_years_0 : decode cX9_years 0 = .ok (.aload_n 0, 1) := by decide +kernel
theorem dX9_years_1 : decode cX9_years 1 = .ok (.invokevirtual 124, 3) := by decide +kernel
theorem dX9_years_4 : decode cX9_years 4 = .ok (.ifCond .eq 21, 3) := by decide +kernel
theorem dX9_years_7 : decode cX9_years 7 = .ok (.iload_n 1, 1) := by decide +kernel
theorem dX9_years_8 : decode cX9_years 8 = .ok (.invokestatic 388, 3) := by decide +kernel
theorem dX9_years_11 : decode cX9_years 11 = .ok (.ifCond .eq 14, 3) := by decide +kernel
theorem dX9_years_14 : decode cX9_years 14 = .ok (.iload_n 2, 1) := by decide +kernel
theorem dX9_years_15 : decode cX9_years 15 = .ok (.iconst 1, 1) := by decide +kernel
theorem dX9_years_16 : decode cX9_years 16 = .ok (.if_icmp .lt 9, 3) := by decide +kernel
theorem dX9_years_19 : decode cX9_years 19 = .ok (.iload_n 2, 1) := by decide +kernel
theorem dX9_years_20 : decode cX9_years 20 = .ok (.bipush 20, 2) := by decide +kernel
theorem dX9_years_22 : decode cX9_years 22 = .ok (.if_icmp .le 6, 3) := by decide +kernel
theorem dX9_years_25 : decode cX9_years 25 = .ok (.bipush (-2), 2) := by decide +kernel
theorem dX9_years_27 : decode cX9_years 27 = .ok (.ireturn, 1) := by decide +kernel
theorem dX9_years_28 : decode cX9_years 28 = .ok (.iconst 0, 1) := by decide +kernel
theorem dX9_years_29 : decode cX9_years 29 = .ok (.istore_n 3, 1) := by decide +kernel
theorem dX9_years_30 : decode cX9_years 30 = .ok (.aload_n 0, 1) := by decide +kernel
theorem dX9_years_31 : decode cX9_years 31 = .ok (.getfield 59, 3) := by decide +kernel
theorem dX9_years_34 : decode cX9_years 34 = .ok (.invokevirtual 237, 3) := by decide +kernel
theorem dX9_years_37 : decode cX9_years 37 = .ok (.istore 4, 2) := by decide +kernel
theorem dX9_years_39 : decode cX9_years 39 = .ok (.iconst 0, 1) := by decide +kernel
theorem dX9_years_40 : decode cX9_years 40 = .ok (.istore 5, 2) := by decide +kernel
theorem dX9_years_42 : decode cX9_years 42 = .ok (.iload 5, 2) := by decide +kernel
theorem dX9_years_44 : decode cX9_years 44 = .ok (.iload_n 2, 1) := by decide +kernel
theorem dX9_years_45 : decode cX9_years 45 = .ok (.if_icmp .ge 52, 3) := by decide +kernel
theorem dX9_years_48 : decode cX9_years 48 = .ok (.aload_n 0, 1) := by decide +kernel
theorem dX9_years_49 : decode cX9_years 49 = .ok (.getfield 59, 3) := by decide +kernel
theorem dX9_years_52 : decode cX9_years 52 = .ok (.iload 4, 2) := by decide +kernel
theorem dX9_years_54 : decode cX9_years 54 = .ok (.aload_n 0, 1) := by decide +kernel
theorem dX9_years_55 : decode cX9_years 55 = .ok (.iload_n 1, 1) := by decide +kernel
theorem dX9_years_56 : decode cX9_years 56 = .ok (.iload 5, 2) := by decide +kernel
theorem dX9_years_58 : decode cX9_years 58 = .ok (.iadd, 1) := by decide +kernel
theorem dX9_years_59 : decode cX9_years 59 = .ok (.invokevirtual 391, 3) := by decide +kernel
theorem dX9_years_62 : decode cX9_years 62 = .ok (.invokevirtual 394, 3) := by decide +kernel
theorem dX9_years_65 : decode cX9_years 65 = .ok (.istore 6, 2) := by decide +kernel
theorem dX9_years_67 : decode cX9_years 67 = .ok (.aload_n 0, 1) := by decide +kernel
theorem dX9_years_68 : decode cX9_years 68 = .ok (.getfield 59, 3) := by decide +kernel
theorem dX9_years_71 : decode cX9_years 71 = .ok (.iload 6, 2) := by decide +kernel
theorem dX9_years_73 : decode cX9_years 73 = .ok (.invokevirtual 397, 3) := by decide +kernel
theorem dX9_years_76 : decode cX9_years 76 = .ok (.aload_n 0, 1) := by decide +kernel
theorem dX9_years_77 : decode cX9_years 77 = .ok (.getfield 59, 3) := by decide +kernel
theorem dX9_years_80 : decode cX9_years 80 = .ok (.iload 6, 2) := by decide +kernel
theorem dX9_years_82 : decode cX9_years 82 = .ok (.invokevirtual 400, 3) := by decide +kernel
theorem dX9_years_85 : decode cX9_years 85 = .ok (.ifCond .ne 6, 3) := by decide +kernel
theorem dX9_years_88 : decode cX9_years 88 = .ok (.iinc 3 1, 3) := by decide +kernel
theorem dX9_years_91 : decode cX9_years 91 = .ok (.iinc 5 1, 3) := by decide +kernel
theorem dX9_years_94 : decode cX9_years 94 = .ok (.goto (-52), 3) := by decide +kernel
theorem dX9_years_97 : decode cX9_years 97 = .ok (.iload_n 3, 1) := by decide +kernel
theorem dX9_years_98 : decode cX9_years 98 = .ok (.ireturn, 1) := by decide +kernel
theorem dX9_drawn_0 : decode cX9_drawn 0 = .ok (.iload_n 1, 1) := by decide +kernel
theorem dX9_drawn_1 : decode cX9_drawn 1 = .ok (.i2l, 1) := by decide +kernel
theorem dX9_drawn_2 : decode cX9_drawn 2 = .ok (.lstore_n 2, 1) := by decide +kernel
theorem dX9_drawn_3 : decode cX9_drawn 3 = .ok (.iconst 0, 1) := by decide +kernel
theorem dX9_drawn_4 : decode cX9_drawn 4 = .ok (.istore 4, 2) := by decide +kernel
theorem dX9_drawn_6 : decode cX9_drawn 6 = .ok (.iconst 0, 1) := by decide +kernel
theorem dX9_drawn_7 : decode cX9_drawn 7 = .ok (.istore 5, 2) := by decide +kernel
theorem dX9_drawn_9 : decode cX9_drawn 9 = .ok (.iload 5, 2) := by decide +kernel
theorem dX9_drawn_11 : decode cX9_drawn 11 = .ok (.aload_n 0, 1) := by decide +kernel
theorem dX9_drawn_12 : decode cX9_drawn 12 = .ok (.getfield 28, 3) := by decide +kernel
theorem dX9_drawn_15 : decode cX9_drawn 15 = .ok (.getfield 117, 3) := by decide +kernel
theorem dX9_drawn_18 : decode cX9_drawn 18 = .ok (.getfield 134, 3) := by decide +kernel
theorem dX9_drawn_21 : decode cX9_drawn 21 = .ok (.if_icmp .ge 59, 3) := by decide +kernel
theorem dX9_drawn_24 : decode cX9_drawn 24 = .ok (.ldc2_w 403, 3) := by decide +kernel
theorem dX9_drawn_27 : decode cX9_drawn 27 = .ok (.lload_n 2, 1) := by decide +kernel
theorem dX9_drawn_28 : decode cX9_drawn 28 = .ok (.lmul, 1) := by decide +kernel
theorem dX9_drawn_29 : decode cX9_drawn 29 = .ok (.ldc2_w 405, 3) := by decide +kernel
theorem dX9_drawn_32 : decode cX9_drawn 32 = .ok (.ladd, 1) := by decide +kernel
theorem dX9_drawn_33 : decode cX9_drawn 33 = .ok (.ldc2_w 407, 3) := by decide +kernel
theorem dX9_drawn_36 : decode cX9_drawn 36 = .ok (.lrem, 1) := by decide +kernel
theorem dX9_drawn_37 : decode cX9_drawn 37 = .ok (.lstore_n 2, 1) := by decide +kernel
theorem dX9_drawn_38 : decode cX9_drawn 38 = .ok (.lload_n 2, 1) := by decide +kernel
theorem dX9_drawn_39 : decode cX9_drawn 39 = .ok (.ldc2_w 409, 3) := by decide +kernel
theorem dX9_drawn_42 : decode cX9_drawn 42 = .ok (.ldiv, 1) := by decide +kernel
theorem dX9_drawn_43 : decode cX9_drawn 43 = .ok (.ldc2_w 411, 3) := by decide +kernel
theorem dX9_drawn_46 : decode cX9_drawn 46 = .ok (.lrem, 1) := by decide +kernel
theorem dX9_drawn_47 : decode cX9_drawn 47 = .ok (.aload_n 0, 1) := by decide +kernel
theorem dX9_drawn_48 : decode cX9_drawn 48 = .ok (.getfield 28, 3) := by decide +kernel
theorem dX9_drawn_51 : decode cX9_drawn 51 = .ok (.getfield 117, 3) := by decide +kernel
theorem dX9_drawn_54 : decode cX9_drawn 54 = .ok (.iload 5, 2) := by decide +kernel
theorem dX9_drawn_56 : decode cX9_drawn 56 = .ok (.iconst 2, 1) := by decide +kernel
theorem dX9_drawn_57 : decode cX9_drawn 57 = .ok (.invokevirtual 108, 3) := by decide +kernel
theorem dX9_drawn_60 : decode cX9_drawn 60 = .ok (.i2l, 1) := by decide +kernel
theorem dX9_drawn_61 : decode cX9_drawn 61 = .ok (.lcmp, 1) := by decide +kernel
theorem dX9_drawn_62 : decode cX9_drawn 62 = .ok (.ifCond .ge 12, 3) := by decide +kernel
theorem dX9_drawn_65 : decode cX9_drawn 65 = .ok (.iload 4, 2) := by decide +kernel
theorem dX9_drawn_67 : decode cX9_drawn 67 = .ok (.iconst 1, 1) := by decide +kernel
theorem dX9_drawn_68 : decode cX9_drawn 68 = .ok (.iload 5, 2) := by decide +kernel
theorem dX9_drawn_70 : decode cX9_drawn 70 = .ok (.ishl, 1) := by decide +kernel
theorem dX9_drawn_71 : decode cX9_drawn 71 = .ok (.ior, 1) := by decide +kernel
theorem dX9_drawn_72 : decode cX9_drawn 72 = .ok (.istore 4, 2) := by decide +kernel
theorem dX9_drawn_74 : decode cX9_drawn 74 = .ok (.iinc 5 1, 3) := by decide +kernel
theorem dX9_drawn_77 : decode cX9_drawn 77 = .ok (.goto (-68), 3) := by decide +kernel
theorem dX9_drawn_80 : decode cX9_drawn 80 = .ok (.iload 4, 2) := by decide +kernel
theorem dX9_drawn_82 : decode cX9_drawn 82 = .ok (.ireturn, 1) := by decide +kernel
theorem dX9_image_0 : decode cX9_image 0 = .ok (.iload_n 1, 1) := by decide +kernel
theorem dX9_image_1 : decode cX9_image 1 = .ok (.ifCond .lt 8, 3) := by decide +kernel
theorem dX9_image_4 : decode cX9_image 4 = .ok (.iload_n 1, 1) := by decide +kernel
theorem dX9_image_5 : decode cX9_image 5 = .ok (.iconst 3, 1) := by decide +kernel
theorem dX9_image_6 : decode cX9_image 6 = .ok (.if_icmp .lt 6, 3) := by decide +kernel
theorem dX9_image_9 : decode cX9_image 9 = .ok (.bipush (-2), 2) := by decide +kernel
theorem dX9_image_11 : decode cX9_image 11 = .ok (.ireturn, 1) := by decide +kernel
theorem dX9_image_12 : decode cX9_image 12 = .ok (.aload_n 0, 1) := by decide +kernel
theorem dX9_image_13 : decode cX9_image 13 = .ok (.getfield 35, 3) := by decide +kernel
theorem dX9_image_16 : decode cX9_image 16 = .ok (.iload_n 1, 1) := by decide +kernel
theorem dX9_image_17 : decode cX9_image 17 = .ok (.aaload, 1) := by decide +kernel
theorem dX9_image_18 : decode cX9_image 18 = .ok (.ifnonnull 16, 3) := by decide +kernel
theorem dX9_image_21 : decode cX9_image 21 = .ok (.aload_n 0, 1) := by decide +kernel
theorem dX9_image_22 : decode cX9_image 22 = .ok (.getfield 35, 3) := by decide +kernel
theorem dX9_image_25 : decode cX9_image 25 = .ok (.iload_n 1, 1) := by decide +kernel
theorem dX9_image_26 : decode cX9_image 26 = .ok (.new 25, 3) := by decide +kernel
theorem dX9_image_29 : decode cX9_image 29 = .ok (.dup, 1) := by decide +kernel
theorem dX9_image_30 : decode cX9_image 30 = .ok (.invokespecial 27, 3) := by decide +kernel
theorem dX9_image_33 : decode cX9_image 33 = .ok (.aastore, 1) := by decide +kernel
theorem dX9_image_34 : decode cX9_image 34 = .ok (.aload_n 0, 1) := by decide +kernel
theorem dX9_image_35 : decode cX9_image 35 = .ok (.getfield 35, 3) := by decide +kernel
theorem dX9_image_38 : decode cX9_image 38 = .ok (.iload_n 1, 1) := by decide +kernel
theorem dX9_image_39 : decode cX9_image 39 = .ok (.aaload, 1) := by decide +kernel
theorem dX9_image_40 : decode cX9_image 40 = .ok (.aload_n 0, 1) := by decide +kernel
theorem dX9_image_41 : decode cX9_image 41 = .ok (.getfield 28, 3) := by decide +kernel
theorem dX9_image_44 : decode cX9_image 44 = .ok (.invokevirtual 86, 3) := by decide +kernel
theorem dX9_image_47 : decode cX9_image 47 = .ok (.iconst 0, 1) := by decide +kernel
theorem dX9_image_48 : decode cX9_image 48 = .ok (.ireturn, 1) := by decide +kernel
theorem dX9_restore_0 : decode cX9_restore 0 = .ok (.iload_n 1, 1) := by decide +kernel
theorem dX9_restore_1 : decode cX9_restore 1 = .ok (.ifCond .lt 8, 3) := by decide +kernel
theorem dX9_restore_4 : decode cX9_restore 4 = .ok (.iload_n 1, 1) := by decide +kernel
theorem dX9_restore_5 : decode cX9_restore 5 = .ok (.iconst 3, 1) := by decide +kernel
theorem dX9_restore_6 : decode cX9_restore 6 = .ok (.if_icmp .lt 6, 3) := by decide +kernel
theorem dX9_restore_9 : decode cX9_restore 9 = .ok (.bipush (-2), 2) := by decide +kernel
theorem dX9_restore_11 : decode cX9_restore 11 = .ok (.ireturn, 1) := by decide +kernel
theorem dX9_restore_12 : decode cX9_restore 12 = .ok (.aload_n 0, 1) := by decide +kernel
theorem dX9_restore_13 : decode cX9_restore 13 = .ok (.getfield 35, 3) := by decide +kernel
theorem dX9_restore_16 : decode cX9_restore 16 = .ok (.iload_n 1, 1) := by decide +kernel
theorem dX9_restore_17 : decode cX9_restore 17 = .ok (.aaload, 1) := by decide +kernel
theorem dX9_restore_18 : decode cX9_restore 18 = .ok (.ifnonnull 6, 3) := by decide +kernel
theorem dX9_restore_21 : decode cX9_restore 21 = .ok (.bipush (-6), 2) := by decide +kernel
theorem dX9_restore_23 : decode cX9_restore 23 = .ok (.ireturn, 1) := by decide +kernel
theorem dX9_restore_24 : decode cX9_restore 24 = .ok (.aload_n 0, 1) := by decide +kernel
theorem dX9_restore_25 : decode cX9_restore 25 = .ok (.getfield 28, 3) := by decide +kernel
theorem dX9_restore_28 : decode cX9_restore 28 = .ok (.aload_n 0, 1) := by decide +kernel
theorem dX9_restore_29 : decode cX9_restore 29 = .ok (.getfield 35, 3) := by decide +kernel
theorem dX9_restore_32 : decode cX9_restore 32 = .ok (.iload_n 1, 1) := by decide +kernel
theorem dX9_restore_33 : decode cX9_restore 33 = .ok (.aaload, 1) := by decide +kernel
theorem dX9_restore_34 : decode cX9_restore 34 = .ok (.invokevirtual 86, 3) := by decide +kernel
theorem dX9_restore_37 : decode cX9_restore 37 = .ok (.aload_n 0, 1) := by decide +kernel
theorem dX9_restore_38 : decode cX9_restore 38 = .ok (.getfield 59, 3) := by decide +kernel
theorem dX9_restore_41 : decode cX9_restore 41 = .ok (.invokevirtual 89, 3) := by decide +kernel
theorem dX9_restore_44 : decode cX9_restore 44 = .ok (.iconst 0, 1) := by decide +kernel
theorem dX9_restore_45 : decode cX9_restore 45 = .ok (.ireturn, 1) := by decide +kernel
theorem dX9_isSlot_0 : decode cX9_isSlot 0 = .ok (.iload_n 0, 1) := by decide +kernel
theorem dX9_isSlot_1 : decode cX9_isSlot 1 = .ok (.ifCond .lt 12, 3) := by decide +kernel
theorem dX9_isSlot_4 : decode cX9_isSlot 4 = .ok (.iload_n 0, 1) := by decide +kernel
theorem dX9_isSlot_5 : decode cX9_isSlot 5 = .ok (.iconst 4, 1) := by decide +kernel
theorem dX9_isSlot_6 : decode cX9_isSlot 6 = .ok (.if_icmp .ge 7, 3) := by decide +kernel
theorem dX9_isSlot_9 : decode cX9_isSlot 9 = .ok (.iconst 1, 1) := by decide +kernel
theorem dX9_isSlot_10 : decode cX9_isSlot 10 = .ok (.goto 4, 3) := by decide +kernel
theorem dX9_isSlot_13 : decode cX9_isSlot 13 = .ok (.iconst 0, 1) := by decide +kernel
theorem dX9_isSlot_14 : decode cX9_isSlot 14 = .ok (.ireturn, 1) := by decide +kernel
theorem dX9_slotAt_0 : decode cX9_slotAt 0 = .ok (.iload_n 1, 1) := by decide +kernel
theorem dX9_slotAt_1 : decode cX9_slotAt 1 = .ok (.invokestatic 287, 3) := by decide +kernel
theorem dX9_slotAt_4 : decode cX9_slotAt 4 = .ok (.ifCond .eq 12, 3) := by decide +kernel
theorem dX9_slotAt_7 : decode cX9_slotAt 7 = .ok (.aload_n 0, 1) := by decide +kernel
theorem dX9_slotAt_8 : decode cX9_slotAt 8 = .ok (.getfield 41, 3) := by decide +kernel
theorem dX9_slotAt_11 : decode cX9_slotAt 11 = .ok (.iload_n 1, 1) := by decide +kernel
theorem dX9_slotAt_12 : decode cX9_slotAt 12 = .ok (.aaload, 1) := by decide +kernel
theorem dX9_slotAt_13 : decode cX9_slotAt 13 = .ok (.goto 4, 3) := by decide +kernel
theorem dX9_slotAt_16 : decode cX9_slotAt 16 = .ok (.aconst_null, 1) := by decide +kernel
theorem dX9_slotAt_17 : decode cX9_slotAt 17 = .ok (.areturn, 1) := by decide +kernel
theorem dX9_row_0 : decode cX9_row 0 = .ok (.iload_n 1, 1) := by decide +kernel
theorem dX9_row_1 : decode cX9_row 1 = .ok (.invokestatic 287, 3) := by decide +kernel
theorem dX9_row_4 : decode cX9_row 4 = .ok (.ifCond .eq 18, 3) := by decide +kernel
theorem dX9_row_7 : decode cX9_row 7 = .ok (.iload_n 2, 1) := by decide +kernel
theorem dX9_row_8 : decode cX9_row 8 = .ok (.ifCond .lt 14, 3) := by decide +kernel
theorem dX9_row_11 : decode cX9_row 11 = .ok (.iload_n 2, 1) := by decide +kernel
theorem dX9_row_12 : decode cX9_row 12 = .ok (.iconst 3, 1) := by decide +kernel
theorem dX9_row_13 : decode cX9_row 13 = .ok (.if_icmp .gt 9, 3) := by decide +kernel
theorem dX9_row_16 : decode cX9_row 16 = .ok (.iload_n 3, 1) := by decide +kernel
theorem dX9_row_17 : decode cX9_row 17 = .ok (.bipush 60, 2) := by decide +kernel
theorem dX9_row_19 : decode cX9_row 19 = .ok (.if_icmp .le 6, 3) := by decide +kernel
theorem dX9_row_22 : decode cX9_row 22 = .ok (.bipush (-2), 2) := by decide +kernel
theorem dX9_row_24 : decode cX9_row 24 = .ok (.ireturn, 1) := by decide +kernel
theorem dX9_row_25 : decode cX9_row 25 = .ok (.iload_n 3, 1) := by decide +kernel
theorem dX9_row_26 : decode cX9_row 26 = .ok (.ifCond .ge 6, 3) := by decide +kernel
theorem dX9_row_29 : decode cX9_row 29 = .ok (.bipush (-3), 2) := by decide +kernel
theorem dX9_row_31 : decode cX9_row 31 = .ok (.ireturn, 1) := by decide +kernel
theorem dX9_row_32 : decode cX9_row 32 = .ok (.aload_n 0, 1) := by decide +kernel
theorem dX9_row_33 : decode cX9_row 33 = .ok (.getfield 41, 3) := by decide +kernel
theorem dX9_row_36 : decode cX9_row 36 = .ok (.iload_n 1, 1) := by decide +kernel
theorem dX9_row_37 : decode cX9_row 37 = .ok (.aaload, 1) := by decide +kernel
theorem dX9_row_38 : decode cX9_row 38 = .ok (.ifnonnull 16, 3) := by decide +kernel
theorem dX9_row_41 : decode cX9_row 41 = .ok (.aload_n 0, 1) := by decide +kernel
theorem dX9_row_42 : decode cX9_row 42 = .ok (.getfield 41, 3) := by decide +kernel
theorem dX9_row_45 : decode cX9_row 45 = .ok (.iload_n 1, 1) := by decide +kernel
theorem dX9_row_46 : decode cX9_row 46 = .ok (.new 39, 3) := by decide +kernel
theorem dX9_row_49 : decode cX9_row 49 = .ok (.dup, 1) := by decide +kernel
theorem dX9_row_50 : decode cX9_row 50 = .ok (.invokespecial 413, 3) := by decide +kernel
theorem dX9_row_53 : decode cX9_row 53 = .ok (.aastore, 1) := by decide +kernel
theorem dX9_row_54 : decode cX9_row 54 = .ok (.aload_n 0, 1) := by decide +kernel
theorem dX9_row_55 : decode cX9_row 55 = .ok (.getfield 41, 3) := by decide +kernel
theorem dX9_row_58 : decode cX9_row 58 = .ok (.iload_n 1, 1) := by decide +kernel
theorem dX9_row_59 : decode cX9_row 59 = .ok (.aaload, 1) := by decide +kernel
theorem dX9_row_60 : decode cX9_row 60 = .ok (.iload_n 2, 1) := by decide +kernel
theorem dX9_row_61 : decode cX9_row 61 = .ok (.iload_n 3, 1) := by decide +kernel
theorem dX9_row_62 : decode cX9_row 62 = .ok (.invokevirtual 414, 3) := by decide +kernel
theorem dX9_row_65 : decode cX9_row 65 = .ok (.iconst 0, 1) := by decide +kernel
theorem dX9_row_66 : decode cX9_row 66 = .ok (.ireturn, 1) := by decide +kernel
theorem dX9_write_0 : decode cX9_write 0 = .ok (.iload_n 1, 1) := by decide +kernel
theorem dX9_write_1 : decode cX9_write 1 = .ok (.invokestatic 287, 3) := by decide +kernel
theorem dX9_write_4 : decode cX9_write 4 = .ok (.ifCond .ne 6, 3) := by decide +kernel
theorem dX9_write_7 : decode cX9_write 7 = .ok (.bipush (-2), 2) := by decide +kernel
theorem dX9_write_9 : decode cX9_write 9 = .ok (.ireturn, 1) := by decide +kernel
theorem dX9_write_10 : decode cX9_write 10 = .ok (.aload_n 0, 1) := by decide +kernel
theorem dX9_write_11 : decode cX9_write 11 = .ok (.iload_n 1, 1) := by decide +kernel
theorem dX9_write_12 : decode cX9_write 12 = .ok (.invokevirtual 290, 3) := by decide +kernel
theorem dX9_write_15 : decode cX9_write 15 = .ok (.astore 5, 2) := by decide +kernel
theorem dX9_write_17 : decode cX9_write 17 = .ok (.aload 5, 2) := by decide +kernel
theorem dX9_write_19 : decode cX9_write 19 = .ok (.ifnonnull 6, 3) := by decide +kernel
theorem dX9_write_22 : decode cX9_write 22 = .ok (.bipush (-6), 2) := by decide +kernel
theorem dX9_write_24 : decode cX9_write 24 = .ok (.ireturn, 1) := by decide +kernel
theorem dX9_write_25 : decode cX9_write 25 = .ok (.aload 5, 2) := by decide +kernel
theorem dX9_write_27 : decode cX9_write 27 = .ok (.iload_n 2, 1) := by decide +kernel
theorem dX9_write_28 : decode cX9_write 28 = .ok (.invokevirtual 416, 3) := by decide +kernel
theorem dX9_write_31 : decode cX9_write 31 = .ok (.ifCond .ne 6, 3) := by decide +kernel
theorem dX9_write_34 : decode cX9_write 34 = .ok (.bipush (-7), 2) := by decide +kernel
theorem dX9_write_36 : decode cX9_write 36 = .ok (.ireturn, 1) := by decide +kernel
theorem dX9_write_37 : decode cX9_write 37 = .ok (.aload 5, 2) := by decide +kernel
theorem dX9_write_39 : decode cX9_write 39 = .ok (.iload_n 2, 1) := by decide +kernel
theorem dX9_write_40 : decode cX9_write 40 = .ok (.lload_n 3, 1) := by decide +kernel
theorem dX9_write_41 : decode cX9_write 41 = .ok (.invokevirtual 417, 3) := by decide +kernel
theorem dX9_write_44 : decode cX9_write 44 = .ok (.iconst 0, 1) := by decide +kernel
theorem dX9_write_45 : decode cX9_write 45 = .ok (.ireturn, 1) := by decide +kernel
theorem dX9_paste_0 : decode cX9_paste 0 = .ok (.iload_n 1, 1) := by decide +kernel
theorem dX9_paste_1 : decode cX9_paste 1 = .ok (.invokestatic 287, 3) := by decide +kernel
theorem dX9_paste_4 : decode cX9_paste 4 = .ok (.ifCond .eq 10, 3) := by decide +kernel
theorem dX9_paste_7 : decode cX9_paste 7 = .ok (.iload_n 3, 1) := by decide +kernel
theorem dX9_paste_8 : decode cX9_paste 8 = .ok (.invokestatic 287, 3) := by decide +kernel
theorem dX9_paste_11 : decode cX9_paste 11 = .ok (.ifCond .ne 6, 3) := by decide +kernel
theorem dX9_paste_14 : decode cX9_paste 14 = .ok (.bipush (-2), 2) := by decide +kernel
theorem dX9_paste_16 : decode cX9_paste 16 = .ok (.ireturn, 1) := by decide +kernel
theorem dX9_paste_17 : decode cX9_paste 17 = .ok (.aload_n 0, 1) := by decide +kernel
theorem dX9_paste_18 : decode cX9_paste 18 = .ok (.iload_n 1, 1) := by decide +kernel
theorem dX9_paste_19 : decode cX9_paste 19 = .ok (.invokevirtual 290, 3) := by decide +kernel
theorem dX9_paste_22 : decode cX9_paste 22 = .ok (.astore 6, 2) := by decide +kernel
theorem dX9_paste_24 : decode cX9_paste 24 = .ok (.aload_n 0, 1) := by decide +kernel
theorem dX9_paste_25 : decode cX9_paste 25 = .ok (.iload_n 3, 1) := by decide +kernel
theorem dX9_paste_26 : decode cX9_paste 26 = .ok (.invokevirtual 290, 3) := by decide +kernel
theorem dX9_paste_29 : decode cX9_paste 29 = .ok (.astore 7, 2) := by decide +kernel
theorem dX9_paste_31 : decode cX9_paste 31 = .ok (.aload 6, 2) := by decide +kernel
theorem dX9_paste_33 : decode cX9_paste 33 = .ok (.ifnull 8, 3) := by decide +kernel
theorem dX9_paste_36 : decode cX9_paste 36 = .ok (.aload 7, 2) := by decide +kernel
theorem dX9_paste_38 : decode cX9_paste 38 = .ok (.ifnonnull 6, 3) := by decide +kernel
theorem dX9_paste_41 : decode cX9_paste 41 = .ok (.bipush (-6), 2) := by decide +kernel
theorem dX9_paste_43 : decode cX9_paste 43 = .ok (.ireturn, 1) := by decide +kernel
theorem dX9_paste_44 : decode cX9_paste 44 = .ok (.aload 6, 2) := by decide +kernel
theorem dX9_paste_46 : decode cX9_paste 46 = .ok (.getfield 420, 3) := by decide +kernel
theorem dX9_paste_49 : decode cX9_paste 49 = .ok (.aload 7, 2) := by decide +kernel
theorem dX9_paste_51 : decode cX9_paste 51 = .ok (.getfield 420, 3) := by decide +kernel
theorem dX9_paste_54 : decode cX9_paste 54 = .ok (.if_icmp .eq 6, 3) := by decide +kernel
theorem dX9_paste_57 : decode cX9_paste 57 = .ok (.bipush (-8), 2) := by decide +kernel
theorem dX9_paste_59 : decode cX9_paste 59 = .ok (.ireturn, 1) := by decide +kernel
theorem dX9_paste_60 : decode cX9_paste 60 = .ok (.aload 6, 2) := by decide +kernel
theorem dX9_paste_62 : decode cX9_paste 62 = .ok (.iload_n 2, 1) := by decide +kernel
theorem dX9_paste_63 : decode cX9_paste 63 = .ok (.iload 5, 2) := by decide +kernel
theorem dX9_paste_65 : decode cX9_paste 65 = .ok (.invokevirtual 423, 3) := by decide +kernel
theorem dX9_paste_68 : decode cX9_paste 68 = .ok (.ifCond .eq 15, 3) := by decide +kernel
theorem dX9_paste_71 : decode cX9_paste 71 = .ok (.aload 7, 2) := by decide +kernel
theorem dX9_paste_73 : decode cX9_paste 73 = .ok (.iload 4, 2) := by decide +kernel
theorem dX9_paste_75 : decode cX9_paste 75 = .ok (.iload 5, 2) := by decide +kernel
theorem dX9_paste_77 : decode cX9_paste 77 = .ok (.invokevirtual 423, 3) := by decide +kernel
theorem dX9_paste_80 : decode cX9_paste 80 = .ok (.ifCond .ne 6, 3) := by decide +kernel
theorem dX9_paste_83 : decode cX9_paste 83 = .ok (.bipush (-7), 2) := by decide +kernel
theorem dX9_paste_85 : decode cX9_paste 85 = .ok (.ireturn, 1) := by decide +kernel
theorem dX9_paste_86 : decode cX9_paste 86 = .ok (.aload 6, 2) := by decide +kernel
theorem dX9_paste_88 : decode cX9_paste 88 = .ok (.getfield 426, 3) := by decide +kernel
theorem dX9_paste_91 : decode cX9_paste 91 = .ok (.iload_n 2, 1) := by decide +kernel
theorem dX9_paste_92 : decode cX9_paste 92 = .ok (.aload 7, 2) := by decide +kernel
theorem dX9_paste_94 : decode cX9_paste 94 = .ok (.getfield 426, 3) := by decide +kernel
theorem dX9_paste_97 : decode cX9_paste 97 = .ok (.iload 4, 2) := by decide +kernel
theorem dX9_paste_99 : decode cX9_paste 99 = .ok (.iload 5, 2) := by decide +kernel
theorem dX9_paste_101 : decode cX9_paste 101 = .ok (.invokestatic 430, 3) := by decide +kernel
theorem dX9_paste_104 : decode cX9_paste 104 = .ok (.iconst 0, 1) := by decide +kernel
theorem dX9_paste_105 : decode cX9_paste 105 = .ok (.ireturn, 1) := by decide +kernel
theorem dX10_init_0 : decode cX10_init 0 = .ok (.aload_n 0, 1) := by decide +kernel
theorem dX10_init_1 : decode cX10_init 1 = .ok (.invokespecial 3, 3) := by decide +kernel
theorem dX10_init_4 : decode cX10_init 4 = .ok (.aload_n 0, 1) := by decide +kernel
theorem dX10_init_5 : decode cX10_init 5 = .ok (.sipush 160, 3) := by decide +kernel
theorem dX10_init_8 : decode cX10_init 8 = .ok (.newarray .int, 2) := by decide +kernel
theorem dX10_init_10 : decode cX10_init 10 = .ok (.putfield 9, 3) := by decide +kernel
theorem dX10_init_13 : decode cX10_init 13 = .ok (.aload_n 0, 1) := by decide +kernel
theorem dX10_init_14 : decode cX10_init 14 = .ok (.sipush 480, 3) := by decide +kernel
theorem dX10_init_17 : decode cX10_init 17 = .ok (.newarray .int, 2) := by decide +kernel
theorem dX10_init_19 : decode cX10_init 19 = .ok (.putfield 13, 3) := by decide +kernel
theorem dX10_init_22 : decode cX10_init 22 = .ok (.aload_n 0, 1) := by decide +kernel
theorem dX10_init_23 : decode cX10_init 23 = .ok (.iconst 3, 1) := by decide +kernel
theorem dX10_init_24 : decode cX10_init 24 = .ok (.newarray .boolean, 2) := by decide +kernel
theorem dX10_init_26 : decode cX10_init 26 = .ok (.putfield 16, 3) := by decide +kernel
theorem dX10_init_29 : decode cX10_init 29 = .ok (.aload_n 0, 1) := by decide +kernel
theorem dX10_init_30 : decode cX10_init 30 = .ok (.sipush 1600, 3) := by decide +kernel
theorem dX10_init_33 : decode cX10_init 33 = .ok (.newarray .byte, 2) := by decide +kernel
theorem dX10_init_35 : decode cX10_init 35 = .ok (.putfield 20, 3) := by decide +kernel
theorem dX10_init_38 : decode cX10_init 38 = .ok (.aload_n 0, 1) := by decide +kernel
theorem dX10_init_39 : decode cX10_init 39 = .ok (.iconst 5, 1) := by decide +kernel
theorem dX10_init_40 : decode cX10_init 40 = .ok (.newarray .int, 2) := by decide +kernel
theorem dX10_init_42 : decode cX10_init 42 = .ok (.putfield 24, 3) := by decide +kernel
theorem dX10_init_45 : decode cX10_init 45 = .ok (.aload_n 0, 1) := by decide +kernel
theorem dX10_init_46 : decode cX10_init 46 = .ok (.iconst (-1), 1) := by decide +kernel
theorem dX10_init_47 : decode cX10_init 47 = .ok (.putfield 27, 3) := by decide +kernel
theorem dX10_init_50 : decode cX10_init 50 = .ok (.aload_n 0, 1) := by decide +kernel
theorem dX10_init_51 : decode cX10_init 51 = .ok (.sipush 160, 3) := by decide +kernel
theorem dX10_init_54 : decode cX10_init 54 = .ok (.newarray .int, 2) := by decide +kernel
theorem dX10_init_56 : decode cX10_init 56 = .ok (.putfield 31, 3) := by decide +kernel
theorem dX10_init_59 : decode cX10_init 59 = .ok (.aload_n 0, 1) := by decide +kernel
theorem dX10_init_60 : decode cX10_init 60 = .ok (.bipush 6, 2) := by decide +kernel
theorem dX10_init_62 : decode cX10_init 62 = .ok (.newarray .int, 2) := by decide +kernel
theorem dX10_init_64 : decode cX10_init 64 = .ok (.putfield 34, 3) := by decide +kernel
theorem dX10_init_67 : decode cX10_init 67 = .ok (.aload_n 0, 1) := by decide +kernel
theorem dX10_init_68 : decode cX10_init 68 = .ok (.sipush 180, 3) := by decide +kernel
theorem dX10_init_71 : decode cX10_init 71 = .ok (.newarray .int, 2) := by decide +kernel
theorem dX10_init_73 : decode cX10_init 73 = .ok (.putfield 37, 3) := by decide +kernel
theorem dX10_init_76 : decode cX10_init 76 = .ok (.aload_n 0, 1) := by decide +kernel
theorem dX10_init_77 : decode cX10_init 77 = .ok (.bipush 9, 2) := by decide +kernel
theorem dX10_init_79 : decode cX10_init 79 = .ok (.newarray .int, 2) := by decide +kernel
theorem dX10_init_81 : decode cX10_init 81 = .ok (.putfield 40, 3) := by decide +kernel
theorem dX10_init_84 : decode cX10_init 84 = .ok (.aload_n 0, 1) := by decide +kernel
theorem dX10_init_85 : decode cX10_init 85 = .ok (.bipush 24, 2) := by decide +kernel
theorem dX10_init_87 : decode cX10_init 87 = .ok (.newarray .int, 2) := by decide +kernel
theorem dX10_init_89 : decode cX10_init 89 = .ok (.putfield 43, 3) := by decide +kernel
theorem dX10_init_92 : decode cX10_init 92 = .ok (.aload_n 0, 1) := by decide +kernel
theorem dX10_init_93 : decode cX10_init 93 = .ok (.bipush 24, 2) := by decide +kernel
theorem dX10_init_95 : decode cX10_init 95 = .ok (.newarray .int, 2) := by decide +kernel
theorem dX10_init_97 : decode cX10_init 97 = .ok (.putfield 46, 3) := by decide +kernel
theorem dX10_init_100 : decode cX10_init 100 = .ok (.aload_n 0, 1) := by decide +kernel
theorem dX10_init_101 : decode cX10_init 101 = .ok (.iconst (-1), 1) := by decide +kernel
theorem dX10_init_102 : decode cX10_init 102 = .ok (.putfield 49, 3) := by decide +kernel
theorem dX10_init_105 : decode cX10_init 105 = .ok (.aload_n 0, 1) := by decide +kernel
theorem dX10_init_106 : decode cX10_init 106 = .ok (.iconst 3, 1) := by decide +kernel
theorem dX10_init_107 : decode cX10_init 107 = .ok (.newarray .int, 2) := by decide +kernel
theorem dX10_init_109 : decode cX10_init 109 = .ok (.putfield 52, 3) := by decide +kernel
theorem dX10_init_112 : decode cX10_init 112 = .ok (.aload_n 0, 1) := by decide +kernel
theorem dX10_init_113 : decode cX10_init 113 = .ok (.bipush 36, 2) := by decide +kernel
theorem dX10_init_115 : decode cX10_init 115 = .ok (.newarray .int, 2) := by decide +kernel
theorem dX10_init_117 : decode cX10_init 117 = .ok (.putfield 55, 3) := by decide +kernel
theorem dX10_init_120 : decode cX10_init 120 = .ok (.aload_n 0, 1) := by decide +kernel
theorem dX10_init_121 : decode cX10_init 121 = .ok (.bipush 120, 2) := by decide +kernel
theorem dX10_init_123 : decode cX10_init 123 = .ok (.newarray .int, 2) := by decide +kernel
theorem dX10_init_125 : decode cX10_init 125 = .ok (.putfield 58, 3) := by decide +kernel
theorem dX10_init_128 : decode cX10_init 128 = .ok (.aload_n 0, 1) := by decide +kernel
theorem dX10_init_129 : decode cX10_init 129 = .ok (.bipush 6, 2) := by decide +kernel
theorem dX10_init_131 : decode cX10_init 131 = .ok (.newarray .int, 2) := by decide +kernel
theorem dX10_init_133 : decode cX10_init 133 = .ok (.putfield 61, 3) := by decide +kernel
theorem dX10_init_136 : decode cX10_init 136 = .ok (.aload_n 0, 1) := by decide +kernel
theorem dX10_init_137 : decode cX10_init 137 = .ok (.bipush 36, 2) := by decide +kernel
theorem dX10_init_139 : decode cX10_init 139 = .ok (.newarray .int, 2) := by decide +kernel
theorem dX10_init_141 : decode cX10_init 141 = .ok (.putfield 64, 3) := by decide +kernel
theorem dX10_init_144 : decode cX10_init 144 = .ok (.aload_n 0, 1) := by decide +kernel
theorem dX10_init_145 : decode cX10_init 145 = .ok (.iconst 4, 1) := by decide +kernel
theorem dX10_init_146 : decode cX10_init 146 = .ok (.newarray .int, 2) := by decide +kernel
theorem dX10_init_148 : decode cX10_init 148 = .ok (.dup, 1) := by decide +kernel
theorem dX10_init_149 : decode cX10_init 149 = .ok (.iconst 0, 1) := by decide +kernel
theorem dX10_init_150 : decode cX10_init 150 = .ok (.iconst (-1), 1) := by decide +kernel
theorem dX10_init_151 : decode cX10_init 151 = .ok (.iastore, 1) := by decide +kernel
theorem dX10_init_152 : decode cX10_init 152 = .ok (.dup, 1) := by decide +kernel
theorem dX10_init_153 : decode cX10_init 153 = .ok (.iconst 1, 1) := by decide +kernel
theorem dX10_init_154 : decode cX10_init 154 = .ok (.iconst (-1), 1) := by decide +kernel
theorem dX10_init_155 : decode cX10_init 155 = .ok (.iastore, 1) := by decide +kernel
theorem dX10_init_156 : decode cX10_init 156 = .ok (.dup, 1) := by decide +kernel
theorem dX10_init_157 : decode cX10_init 157 = .ok (.iconst 2, 1) := by decide +kernel
theorem dX10_init_158 : decode cX10_init 158 = .ok (.iconst (-1), 1) := by decide +kernel
theorem dX10_init_159 : decode cX10_init 159 = .ok (.iastore, 1) := by decide +kernel
theorem dX10_init_160 : decode cX10_init 160 = .ok (.dup, 1) := by decide +kernel
theorem dX10_init_161 : decode cX10_init 161 = .ok (.iconst 3, 1) := by decide +kernel
theorem dX10_init_162 : decode cX10_init 162 = .ok (.iconst (-1), 1) := by decide +kernel
theorem dX10_init_163 : decode cX10_init 163 = .ok (.iastore, 1) := by decide +kernel
theorem dX10_init_164 : decode cX10_init 164 = .ok (.putfield 67, 3) := by decide +kernel
theorem dX10_init_167 : decode cX10_init 167 = .ok (.aload_n 0, 1) := by decide +kernel
theorem dX10_init_168 : decode cX10_init 168 = .ok (.iconst 4, 1) := by decide +kernel
theorem dX10_init_169 : decode cX10_init 169 = .ok (.newarray .int, 2) := by decide +kernel
theorem dX10_init_171 : decode cX10_init 171 = .ok (.putfield 70, 3) := by decide +kernel
theorem dX10_init_174 : decode cX10_init 174 = .ok (.aload_n 0, 1) := by decide +kernel
theorem dX10_init_175 : decode cX10_init 175 = .ok (.sipush 240, 3) := by decide +kernel
theorem dX10_init_178 : decode cX10_init 178 = .ok (.newarray .long, 2) := by decide +kernel
theorem dX10_init_180 : decode cX10_init 180 = .ok (.putfield 73, 3) := by decide +kernel
theorem dX10_init_183 : decode cX10_init 183 = .ok (.aload_n 0, 1) := by decide +kernel
theorem dX10_init_184 : decode cX10_init 184 = .ok (.bipush 60, 2) := by decide +kernel
theorem dX10_init_186 : decode cX10_init 186 = .ok (.newarray .long, 2) := by decide +kernel
theorem dX10_init_188 : decode cX10_init 188 = .ok (.putfield 77, 3) := by decide +kernel
theorem dX10_init_191 : decode cX10_init 191 = .ok (.return_, 1) := by decide +kernel
theorem dX10_in_0 : decode cX10_in 0 = .ok (.lload_n 0, 1) := by decide +kernel
theorem dX10_in_1 : decode cX10_in 1 = .ok (.lload_n 2, 1) := by decide +kernel
theorem dX10_in_2 : decode cX10_in 2 = .ok (.lcmp, 1) := by decide +kernel
theorem dX10_in_3 : decode cX10_in 3 = .ok (.ifCond .lt 14, 3) := by decide +kernel
theorem dX10_in_6 : decode cX10_in 6 = .ok (.lload_n 0, 1) := by decide +kernel
theorem dX10_in_7 : decode cX10_in 7 = .ok (.lload 4, 2) := by decide +kernel
theorem dX10_in_9 : decode cX10_in 9 = .ok (.lcmp, 1) := by decide +kernel
theorem dX10_in_10 : decode cX10_in 10 = .ok (.ifCond .gt 7, 3) := by decide +kernel
theorem dX10_in_13 : decode cX10_in 13 = .ok (.iconst 1, 1) := by decide +kernel
theorem dX10_in_14 : decode cX10_in 14 = .ok (.goto 4, 3) := by decide +kernel
theorem dX10_in_17 : decode cX10_in 17 = .ok (.iconst 0, 1) := by decide +kernel
theorem dX10_in_18 : decode cX10_in 18 = .ok (.ireturn, 1) := by decide +kernel
theorem dX10_image_0 : decode cX10_image 0 = .ok (.iload_n 1, 1) := by decide +kernel
theorem dX10_image_1 : decode cX10_image 1 = .ok (.i2l, 1) := by decide +kernel
theorem dX10_image_2 : decode cX10_image 2 = .ok (.lconst 0, 1) := by decide +kernel
theorem dX10_image_3 : decode cX10_image 3 = .ok (.ldc2_w 83, 3) := by decide +kernel
theorem dX10_image_6 : decode cX10_image 6 = .ok (.invokestatic 85, 3) := by decide +kernel
theorem dX10_image_9 : decode cX10_image 9 = .ok (.ifCond .ne 6, 3) := by decide +kernel
theorem dX10_image_12 : decode cX10_image 12 = .ok (.bipush (-2), 2) := by decide +kernel
theorem dX10_image_14 : decode cX10_image 14 = .ok (.ireturn, 1) := by decide +kernel
theorem dX10_image_15 : decode cX10_image 15 = .ok (.iconst 0, 1) := by decide +kernel
theorem dX10_image_16 : decode cX10_image 16 = .ok (.istore_n 2, 1) := by decide +kernel
theorem dX10_image_17 : decode cX10_image 17 = .ok (.iload_n 2, 1) := by decide +kernel
theorem dX10_image_18 : decode cX10_image 18 = .ok (.sipush 160, 3) := by decide +kernel
theorem dX10_image_21 : decode cX10_image 21 = .ok (.if_icmp .ge 27, 3) := by decide +kernel
theorem dX10_image_24 : decode cX10_image 24 = .ok (.aload_n 0, 1) := by decide +kernel
theorem dX10_image_25 : decode cX10_image 25 = .ok (.getfield 13, 3) := by decide +kernel
theorem dX10_image_28 : decode cX10_image 28 = .ok (.sipush 160, 3) := by decide +kernel
theorem dX10_image_31 : decode cX10_image 31 = .ok (.iload_n 1, 1) := by decide +kernel
theorem dX10_image_32 : decode cX10_image 32 = .ok (.imul, 1) := by decide +kernel
theorem dX10_image_33 : decode cX10_image 33 = .ok (.iload_n 2, 1) := by decide +kernel
theorem dX10_image_34 : decode cX10_image 34 = .ok (.iadd, 1) := by decide +kernel
theorem dX10_image_35 : decode cX10_image 35 = .ok (.aload_n 0, 1) := by decide +kernel
theorem dX10_image_36 : decode cX10_image 36 = .ok (.getfield 9, 3) := by decide +kernel
theorem dX10_image_39 : decode cX10_image 39 = .ok (.iload_n 2, 1) := by decide +kernel
theorem dX10_image_40 : decode cX10_image 40 = .ok (.iaload, 1) := by decide +kernel
theorem dX10_image_41 : decode cX10_image 41 = .ok (.iastore, 1) := by decide +kernel
theorem dX10_image_42 : decode cX10_image 42 = .ok (.iinc 2 1, 3) := by decide +kernel
theorem dX10_image_45 : decode cX10_image 45 = .ok (.goto (-28), 3) := by decide +kernel
theorem dX10_image_48 : decode cX10_image 48 = .ok (.aload_n 0, 1) := by decide +kernel
theorem dX10_image_49 : decode cX10_image 49 = .ok (.getfield 16, 3) := by decide +kernel
theorem dX10_image_52 : decode cX10_image 52 = .ok (.iload_n 1, 1) := by decide +kernel
theorem dX10_image_53 : decode cX10_image 53 = .ok (.iconst 1, 1) := by decide +kernel
theorem dX10_image_54 : decode cX10_image 54 = .ok (.bastore, 1) := by decide +kernel
theorem dX10_image_55 : decode cX10_image 55 = .ok (.iconst 0, 1) := by decide +kernel
theorem dX10_image_56 : decode cX10_image 56 = .ok (.ireturn, 1) := by decide +kernel
theorem dX10_restore_0 : decode cX10_restore 0 = .ok (.iload_n 1, 1) := by decide +kernel
theorem dX10_restore_1 : decode cX10_restore 1 = .ok (.i2l, 1) := by decide +kernel
theorem dX10_restore_2 : decode cX10_restore 2 = .ok (.lconst 0, 1) := by decide +kernel
theorem dX10_restore_3 : decode cX10_restore 3 = .ok (.ldc2_w 83, 3) := by decide +kernel
theorem dX10_restore_6 : decode cX10_restore 6 = .ok (.invokestatic 85, 3) := by decide +kernel
theorem dX10_restore_9 : decode cX10_restore 9 = .ok (.ifCond .ne 6, 3) := by decide +kernel
theorem dX10_restore_12 : decode cX10_restore 12 = .ok (.bipush (-2), 2) := by decide +kernel
theorem dX10_restore_14 : decode cX10_restore 14 = .ok (.ireturn, 1) := by decide +kernel
theorem dX10_restore_15 : decode cX10_restore 15 = .ok (.aload_n 0, 1) := by decide +kernel
theorem dX10_restore_16 : decode cX10_restore 16 = .ok (.getfield 16, 3) := by decide +kernel
theorem dX10_restore_19 : decode cX10_restore 19 = .ok (.iload_n 1, 1) := by decide +kernel
theorem dX10_restore_20 : decode cX10_restore 20 = .ok (.baload, 1) := by decide +kernel
theorem dX10_restore_21 : decode cX10_restore 21 = .ok (.ifCond .ne 6, 3) := by decide +kernel
theorem dX10_restore_24 : decode cX10_restore 24 = .ok (.bipush (-6), 2) := by decide +kernel
theorem dX10_restore_26 : decode cX10_restore 26 = .ok (.ireturn, 1) := by decide +kernel
theorem dX10_restore_27 : decode cX10_restore 27 = .ok (.iconst 0, 1) := by decide +kernel
theorem dX10_restore_28 : decode cX10_restore 28 = .ok (.istore_n 2, 1) := by decide +kernel
theorem dX10_restore_29 : decode cX10_restore 29 = .ok (.iload_n 2, 1) := by decide +kernel
theorem dX10_restore_30 : decode cX10_restore 30 = .ok (.sipush 160, 3) := by decide +kernel
theorem dX10_restore_33 : decode cX10_restore 33 = .ok (.if_icmp .ge 27, 3) := by decide +kernel
theorem dX10_restore_36 : decode cX10_restore 36 = .ok (.aload_n 0, 1) := by decide +kernel
theorem dX10_restore_37 : decode cX10_restore 37 = .ok (.getfield 9, 3) := by decide +kernel
theorem dX10_restore_40 : decode cX10_restore 40 = .ok (.iload_n 2, 1) := by decide +kernel
theorem dX10_restore_41 : decode cX10_restore 41 = .ok (.aload_n 0, 1) := by decide +kernel
theorem dX10_restore_42 : decode cX10_restore 42 = .ok (.getfield 13, 3) := by decide +kernel
theorem dX10_restore_45 : decode cX10_restore 45 = .ok (.sipush 160, 3) := by decide +kernel
theorem dX10_restore_48 : decode cX10_restore 48 = .ok (.iload_n 1, 1) := by decide +kernel
theorem dX10_restore_49 : decode cX10_restore 49 = .ok (.imul, 1) := by decide +kernel
theorem dX10_restore_50 : decode cX10_restore 50 = .ok (.iload_n 2, 1) := by decide +kernel
theorem dX10_restore_51 : decode cX10_restore 51 = .ok (.iadd, 1) := by decide +kernel
theorem dX10_restore_52 : decode cX10_restore 52 = .ok (.iaload, 1) := by decide +kernel
theorem dX10_restore_53 : decode cX10_restore 53 = .ok (.iastore, 1) := by decide +kernel
theorem dX10_restore_54 : decode cX10_restore 54 = .ok (.iinc 2 1, 3) := by decide +kernel
theorem dX10_restore_57 : decode cX10_restore 57 = .ok (.goto (-28), 3) := by decide +kernel
theorem dX10_restore_60 : decode cX10_restore 60 = .ok (.iconst 0, 1) := by decide +kernel
theorem dX10_restore_61 : decode cX10_restore 61 = .ok (.ireturn, 1) := by decide +kernel
theorem dX10_isPlain_0 : decode cX10_isPlain 0 = .ok (.aload_n 0, 1) := by decide +kernel
theorem dX10_isPlain_1 : decode cX10_isPlain 1 = .ok (.getfield 9, 3) := by decide +kernel
theorem dX10_isPlain_4 : decode cX10_isPlain 4 = .ok (.iconst 5, 1) := by decide +kernel
theorem dX10_isPlain_5 : decode cX10_isPlain 5 = .ok (.iaload, 1) := by decide +kernel
theorem dX10_isPlain_6 : decode cX10_isPlain 6 = .ok (.ifCond .le 7, 3) := by decide +kernel
theorem dX10_isPlain_9 : decode cX10_isPlain 9 = .ok (.iconst 1, 1) := by decide +kernel
theorem dX10_isPlain_10 : decode cX10_isPlain 10 = .ok (.goto 4, 3) := by decide +kernel
theorem dX10_isPlain_13 : decode cX10_isPlain 13 = .ok (.iconst 0, 1) := by decide +kernel
theorem dX10_isPlain_14 : decode cX10_isPlain 14 = .ok (.ireturn, 1) := by decide +kernel
theorem dX10_villages_0 : decode cX10_villages 0 = .ok (.aload_n 0, 1) := by decide +kernel
theorem dX10_villages_1 : decode cX10_villages 1 = .ok (.getfield 9, 3) := by decide +kernel
theorem dX10_villages_4 : decode cX10_villages 4 = .ok (.iconst 0, 1) := by decide +kernel
theorem dX10_villages_5 : decode cX10_villages 5 = .ok (.iaload, 1) := by decide +kernel
theorem dX10_villages_6 : decode cX10_villages 6 = .ok (.ireturn, 1) := by decide +kernel
theorem dX10_isVillage_0 : decode cX10_isVillage 0 = .ok (.iload_n 1, 1) := by decide +kernel
theorem dX10_isVillage_1 : decode cX10_isVillage 1 = .ok (.i2l, 1) := by decide +kernel
theorem dX10_isVillage_2 : decode cX10_isVillage 2 = .ok (.lconst 0, 1) := by decide +kernel
theorem dX10_isVillage_3 : decode cX10_isVillage 3 = .ok (.aload_n 0, 1) := by decide +kernel
theorem dX10_isVillage_4 : decode cX10_isVillage 4 = .ok (.invokevirtual 89, 3) := by decide +kernel
theorem dX10_isVillage_7 : decode cX10_isVillage 7 = .ok (.iconst 1, 1) := by decide +kernel
theorem dX10_isVillage_8 : decode cX10_isVillage 8 = .ok (.isub, 1) := by decide +kernel
theorem dX10_isVillage_9 : decode cX10_isVillage 9 = .ok (.i2l, 1) := by decide +kernel
theorem dX10_isVillage_10 : decode cX10_isVillage 10 = .ok (.invokestatic 85, 3) := by decide +kernel
theorem dX10_isVillage_13 : decode cX10_isVillage 13 = .ok (.ireturn, 1) := by decide +kernel
theorem dX10_isWeek_0 : decode cX10_isWeek 0 = .ok (.iload_n 1, 1) := by decide +kernel
theorem dX10_isWeek_1 : decode cX10_isWeek 1 = .ok (.i2l, 1) := by decide +kernel
theorem dX10_isWeek_2 : decode cX10_isWeek 2 = .ok (.lconst 0, 1) := by decide +kernel
theorem dX10_isWeek_3 : decode cX10_isWeek 3 = .ok (.aload_n 0, 1) := by decide +kernel
theorem dX10_isWeek_4 : decode cX10_isWeek 4 = .ok (.getfield 9, 3) := by decide +kernel
theorem dX10_isWeek_7 : decode cX10_isWeek 7 = .ok (.iconst 5, 1) := by decide +kernel
theorem dX10_isWeek_8 : decode cX10_isWeek 8 = .ok (.iaload, 1) := by decide +kernel
theorem dX10_isWeek_9 : decode cX10_isWeek 9 = .ok (.iconst 1, 1) := by decide +kernel
theorem dX10_isWeek_10 : decode cX10_isWeek 10 = .ok (.isub, 1) := by decide +kernel
theorem dX10_isWeek_11 : decode cX10_isWeek 11 = .ok (.i2l, 1) := by decide +kernel
theorem dX10_isWeek_12 : decode cX10_isWeek 12 = .ok (.invokestatic 85, 3) := by decide +kernel
theorem dX10_isWeek_15 : decode cX10_isWeek 15 = .ok (.ireturn, 1) := by decide +kernel
theorem dX10_isFlood_0 : decode cX10_isFlood 0 = .ok (.iload_n 1, 1) := by decide +kernel
theorem dX10_isFlood_1 : decode cX10_isFlood 1 = .ok (.i2l, 1) := by decide +kernel
theorem dX10_isFlood_2 : decode cX10_isFlood 2 = .ok (.lconst 0, 1) := by decide +kernel
theorem dX10_isFlood_3 : decode cX10_isFlood 3 = .ok (.aload_n 0, 1) := by decide +kernel
theorem dX10_isFlood_4 : decode cX10_isFlood 4 = .ok (.getfield 9, 3) := by decide +kernel
theorem dX10_isFlood_7 : decode cX10_isFlood 7 = .ok (.iconst 2, 1) := by decide +kernel
theorem dX10_isFlood_8 : decode cX10_isFlood 8 = .ok (.iaload, 1) := by decide +kernel
theorem dX10_isFlood_9 : decode cX10_isFlood 9 = .ok (.iconst 1, 1) := by decide +kernel
theorem dX10_isFlood_10 : decode cX10_isFlood 10 = .ok (.isub, 1) := by decide +kernel
theorem dX10_isFlood_11 : decode cX10_isFlood 11 = .ok (.i2l, 1) := by decide +kernel
theorem dX10_isFlood_12 : decode cX10_isFlood 12 = .ok (.invokestatic 85, 3) := by decide +kernel
theorem dX10_isFlood_15 : decode cX10_isFlood 15 = .ok (.ireturn, 1) := by decide +kernel
theorem dX10_areTwo_0 : decode cX10_areTwo 0 = .ok (.aload_n 0, 1) := by decide +kernel
theorem dX10_areTwo_1 : decode cX10_areTwo 1 = .ok (.iload_n 1, 1) := by decide +kernel
theorem dX10_areTwo_2 : decode cX10_areTwo 2 = .ok (.invokevirtual 93, 3) := by decide +kernel
theorem dX10_areTwo_5 : decode cX10_areTwo 5 = .ok (.ifCond .eq 20, 3) := by decide +kernel
theorem dX10_areTwo_8 : decode cX10_areTwo 8 = .ok (.aload_n 0, 1) := by decide +kernel
theorem dX10_areTwo_9 : decode cX10_areTwo 9 = .ok (.iload_n 2, 1) := by decide +kernel
theorem dX10_areTwo_10 : decode cX10_areTwo 10 = .ok (.invokevirtual 93, 3) := by decide +kernel
theorem dX10_areTwo_13 : decode cX10_areTwo 13 = .ok (.ifCond .eq 12, 3) := by decide +kernel
theorem dX10_areTwo_16 : decode cX10_areTwo 16 = .ok (.iload_n 1, 1) := by decide +kernel
theorem dX10_areTwo_17 : decode cX10_areTwo 17 = .ok (.iload_n 2, 1) := by decide +kernel
theorem dX10_areTwo_18 : decode cX10_areTwo 18 = .ok (.if_icmp .eq 7, 3) := by decide +kernel
theorem dX10_areTwo_21 : decode cX10_areTwo 21 = .ok (.iconst 1, 1) := by decide +kernel
theorem dX10_areTwo_22 : decode cX10_areTwo 22 = .ok (.goto 4, 3) := by decide +kernel
theorem dX10_areTwo_25 : decode cX10_areTwo 25 = .ok (.iconst 0, 1) := by decide +kernel
theorem dX10_areTwo_26 : decode cX10_areTwo 26 = .ok (.ireturn, 1) := by decide +kernel
theorem dX10_of_0 : decode cX10_of 0 = .ok (.aload_n 0, 1) := by decide +kernel
theorem dX10_of_1 : decode cX10_of 1 = .ok (.getfield 9, 3) := by decide +kernel
theorem dX10_of_4 : decode cX10_of 4 = .ok (.bipush 8, 2) := by decide +kernel
theorem dX10_of_6 : decode cX10_of 6 = .ok (.iconst 5, 1) := by decide +kernel
theorem dX10_of_7 : decode cX10_of 7 = .ok (.iload_n 1, 1) := by decide +kernel
theorem dX10_of_8 : decode cX10_of 8 = .ok (.imul, 1) := by decide +kernel
theorem dX10_of_9 : decode cX10_of 9 = .ok (.iadd, 1) := by decide +kernel
theorem dX10_of_10 : decode cX10_of 10 = .ok (.iload_n 2, 1) := by decide +kernel
theorem dX10_of_11 : decode cX10_of 11 = .ok (.iadd, 1) := by decide +kernel
theorem dX10_of_12 : decode cX10_of 12 = .ok (.iaload, 1) := by decide +kernel
theorem dX10_of_13 : decode cX10_of 13 = .ok (.ireturn, 1) := by decide +kernel
theorem dX10_ofCrop_0 : decode cX10_ofCrop 0 = .ok (.aload_n 0, 1) := by decide +kernel
theorem dX10_ofCrop_1 : decode cX10_ofCrop 1 = .ok (.getfield 9, 3) := by decide +kernel
theorem dX10_ofCrop_4 : decode cX10_ofCrop 4 = .ok (.bipush 38, 2) := by decide +kernel
theorem dX10_ofCrop_6 : decode cX10_ofCrop 6 = .ok (.iconst 5, 1) := by decide +kernel
theorem dX10_ofCrop_7 : decode cX10_ofCrop 7 = .ok (.iload_n 1, 1) := by decide +kernel
theorem dX10_ofCrop_8 : decode cX10_ofCrop 8 = .ok (.imul, 1) := by decide +kernel
theorem dX10_ofCrop_9 : decode cX10_ofCrop 9 = .ok (.iadd, 1) := by decide +kernel
theorem dX10_ofCrop_10 : decode cX10_ofCrop 10 = .ok (.iload_n 2, 1) := by decide +kernel
theorem dX10_ofCrop_11 : decode cX10_ofCrop 11 = .ok (.iadd, 1) := by decide +kernel
theorem dX10_ofCrop_12 : decode cX10_ofCrop 12 = .ok (.iaload, 1) := by decide +kernel
theorem dX10_ofCrop_13 : decode cX10_ofCrop 13 = .ok (.ireturn, 1) := by decide +kernel
theorem dX10_ofFlood_0 : decode cX10_ofFlood 0 = .ok (.aload_n 0, 1) := by decide +kernel
theorem dX10_ofFlood_1 : decode cX10_ofFlood 1 = .ok (.getfield 9, 3) := by decide +kernel
theorem dX10_ofFlood_4 : decode cX10_ofFlood 4 = .ok (.bipush 108, 2) := by decide +kernel
theorem dX10_ofFlood_6 : decode cX10_ofFlood 6 = .ok (.iconst 3, 1) := by decide +kernel
theorem dX10_ofFlood_7 : decode cX10_ofFlood 7 = .ok (.iload_n 1, 1) := by decide +kernel
theorem dX10_ofFlood_8 : decode cX10_ofFlood 8 = .ok (.imul, 1) := by decide +kernel
theorem dX10_ofFlood_9 : decode cX10_ofFlood 9 = .ok (.iadd, 1) := by decide +kernel
theorem dX10_ofFlood_10 : decode cX10_ofFlood 10 = .ok (.iload_n 2, 1) := by decide +kernel
theorem dX10_ofFlood_11 : decode cX10_ofFlood 11 = .ok (.iadd, 1) := by decide +kernel
theorem dX10_ofFlood_12 : decode cX10_ofFlood 12 = .ok (.iaload, 1) := by decide +kernel
theorem dX10_ofFlood_13 : decode cX10_ofFlood 13 = .ok (.ireturn, 1) := by decide +kernel
theorem dX10_ofLoan_0 : decode cX10_ofLoan 0 = .ok (.aload_n 0, 1) := by decide +kernel
theorem dX10_ofLoan_1 : decode cX10_ofLoan 1 = .ok (.getfield 9, 3) := by decide +kernel
theorem dX10_ofLoan_4 : decode cX10_ofLoan 4 = .ok (.bipush 117, 2) := by decide +kernel
theorem dX10_ofLoan_6 : decode cX10_ofLoan 6 = .ok (.iconst 5, 1) := by decide +kernel
theorem dX10_ofLoan_7 : decode cX10_ofLoan 7 = .ok (.iload_n 1, 1) := by decide +kernel
theorem dX10_ofLoan_8 : decode cX10_ofLoan 8 = .ok (.imul, 1) := by decide +kernel
theorem dX10_ofLoan_9 : decode cX10_ofLoan 9 = .ok (.iadd, 1) := by decide +kernel
theorem dX10_ofLoan_10 : decode cX10_ofLoan 10 = .ok (.iload_n 2, 1) := by decide +kernel
theorem dX10_ofLoan_11 : decode cX10_ofLoan 11 = .ok (.iadd, 1) := by decide +kernel
theorem dX10_ofLoan_12 : decode cX10_ofLoan 12 = .ok (.iaload, 1) := by decide +kernel
theorem dX10_ofLoan_13 : decode cX10_ofLoan 13 = .ok (.ireturn, 1) := by decide +kernel
theorem dX10_feed_0 : decode cX10_feed 0 = .ok (.aload_n 0, 1) := by decide +kernel
theorem dX10_feed_1 : decode cX10_feed 1 = .ok (.getfield 97, 3) := by decide +kernel
theorem dX10_feed_4 : decode cX10_feed 4 = .ok (.bipush 20, 2) := by decide +kernel
theorem dX10_feed_6 : decode cX10_feed 6 = .ok (.iadd, 1) := by decide +kernel
theorem dX10_feed_7 : decode cX10_feed 7 = .ok (.sipush 1600, 3) := by decide +kernel
theorem dX10_feed_10 : decode cX10_feed 10 = .ok (.if_icmp .le 5, 3) := by decide +kernel
theorem dX10_feed_13 : decode cX10_feed 13 = .ok (.iconst (-1), 1) := by decide +kernel
theorem dX10_feed_14 : decode cX10_feed 14 = .ok (.ireturn, 1) := by decide +kernel
theorem dX10_feed_15 : decode cX10_feed 15 = .ok (.aload_n 0, 1) := by decide +kernel
theorem dX10_feed_16 : decode cX10_feed 16 = .ok (.getfield 24, 3) := by decide +kernel
theorem dX10_feed_19 : decode cX10_feed 19 = .ok (.iconst 0, 1) := by decide +kernel
theorem dX10_feed_20 : decode cX10_feed 20 = .ok (.iload_n 1, 1) := by decide +kernel
theorem dX10_feed_21 : decode cX10_feed 21 = .ok (.iastore, 1) := by decide +kernel
theorem dX10_feed_22 : decode cX10_feed 22 = .ok (.aload_n 0, 1) := by decide +kernel
theorem dX10_feed_23 : decode cX10_feed 23 = .ok (.getfield 24, 3) := by decide +kernel
theorem dX10_feed_26 : decode cX10_feed 26 = .ok (.iconst 1, 1) := by decide +kernel
theorem dX10_feed_27 : decode cX10_feed 27 = .ok (.iload_n 2, 1) := by decide +kernel
theorem dX10_feed_28 : decode cX10_feed 28 = .ok (.iastore, 1) := by decide +kernel
theorem dX10_feed_29 : decode cX10_feed 29 = .ok (.aload_n 0, 1) := by decide +kernel
theorem dX10_feed_30 : decode cX10_feed 30 = .ok (.getfield 24, 3) := by decide +kernel
theorem dX10_feed_33 : decode cX10_feed 33 = .ok (.iconst 2, 1) := by decide +kernel
theorem dX10_feed_34 : decode cX10_feed 34 = .ok (.iload_n 3, 1) := by decide +kernel
theorem dX10_feed_35 : decode cX10_feed 35 = .ok (.iastore, 1) := by decide +kernel
theorem dX10_feed_36 : decode cX10_feed 36 = .ok (.aload_n 0, 1) := by decide +kernel
theorem dX10_feed_37 : decode cX10_feed 37 = .ok (.getfield 24, 3) := by decide +kernel
theorem dX10_feed_40 : decode cX10_feed 40 = .ok (.iconst 3, 1) := by decide +kernel
theorem dX10_feed_41 : decode cX10_feed 41 = .ok (.iload 4, 2) := by decide +kernel
theorem dX10_feed_43 : decode cX10_feed 43 = .ok (.iastore, 1) := by decide +kernel
theorem dX10_feed_44 : decode cX10_feed 44 = .ok (.aload_n 0, 1) := by decide +kernel
theorem dX10_feed_45 : decode cX10_feed 45 = .ok (.getfield 24, 3) := by decide +kernel
theorem dX10_feed_48 : decode cX10_feed 48 = .ok (.iconst 4, 1) := by decide +kernel
theorem dX10_feed_49 : decode cX10_feed 49 = .ok (.iload 5, 2) := by decide +kernel
theorem dX10_feed_51 : decode cX10_feed 51 = .ok (.iastore, 1) := by decide +kernel
theorem dX10_feed_52 : decode cX10_feed 52 = .ok (.iconst 0, 1) := by decide +kernel
theorem dX10_feed_53 : decode cX10_feed 53 = .ok (.istore 6, 2) := by decide +kernel
theorem dX10_feed_55 : decode cX10_feed 55 = .ok (.iload 6, 2) := by decide +kernel
theorem dX10_feed_57 : decode cX10_feed 57 = .ok (.bipush 20, 2) := by decide +kernel
theorem dX10_feed_59 : decode cX10_feed 59 = .ok (.if_icmp .ge 42, 3) := by decide +kernel
theorem dX10_feed_62 : decode cX10_feed 62 = .ok (.aload_n 0, 1) := by decide +kernel
theorem dX10_feed_63 : decode cX10_feed 63 = .ok (.getfield 20, 3) := by decide +kernel
theorem dX10_feed_66 : decode cX10_feed 66 = .ok (.aload_n 0, 1) := by decide +kernel
theorem dX10_feed_67 : decode cX10_feed 67 = .ok (.getfield 97, 3) := by decide +kernel
theorem dX10_feed_70 : decode cX10_feed 70 = .ok (.iload 6, 2) := by decide +kernel
theorem dX10_feed_72 : decode cX10_feed 72 = .ok (.iadd, 1) := by decide +kernel
theorem dX10_feed_73 : decode cX10_feed 73 = .ok (.aload_n 0, 1) := by decide +kernel
theorem dX10_feed_74 : decode cX10_feed 74 = .ok (.getfield 24, 3) := by decide +kernel
theorem dX10_feed_77 : decode cX10_feed 77 = .ok (.iload 6, 2) := by decide +kernel
theorem dX10_feed_79 : decode cX10_feed 79 = .ok (.iconst 4, 1) := by decide +kernel
theorem dX10_feed_80 : decode cX10_feed 80 = .ok (.idiv, 1) := by decide +kernel
theorem dX10_feed_81 : decode cX10_feed 81 = .ok (.iaload, 1) := by decide +kernel
theorem dX10_feed_82 : decode cX10_feed 82 = .ok (.bipush 24, 2) := by decide +kernel
theorem dX10_feed_84 : decode cX10_feed 84 = .ok (.bipush 8, 2) := by decide +kernel
theorem dX10_feed_86 : decode cX10_feed 86 = .ok (.iload 6, 2) := by decide +kernel
theorem dX10_feed_88 : decode cX10_feed 88 = .ok (.iconst 4, 1) := by decide +kernel
theorem dX10_feed_89 : decode cX10_feed 89 = .ok (.irem, 1) := by decide +kernel
theorem dX10_feed_90 : decode cX10_feed 90 = .ok (.imul, 1) := by decide +kernel
theorem dX10_feed_91 : decode cX10_feed 91 = .ok (.isub, 1) := by decide +kernel
theorem dX10_feed_92 : decode cX10_feed 92 = .ok (.ishr, 1) := by decide +kernel
theorem dX10_feed_93 : decode cX10_feed 93 = .ok (.i2b, 1) := by decide +kernel
theorem dX10_feed_94 : decode cX10_feed 94 = .ok (.bastore, 1) := by decide +kernel
theorem dX10_feed_95 : decode cX10_feed 95 = .ok (.iinc 6 1, 3) := by decide +kernel
theorem dX10_feed_98 : decode cX10_feed 98 = .ok (.goto (-43), 3) := by decide +kernel
theorem dX10_feed_101 : decode cX10_feed 101 = .ok (.aload_n 0, 1) := by decide +kernel
theorem dX10_feed_102 : decode cX10_feed 102 = .ok (.dup, 1) := by decide +kernel
theorem dX10_feed_103 : decode cX10_feed 103 = .ok (.getfield 97, 3) := by decide +kernel
theorem dX10_feed_106 : decode cX10_feed 106 = .ok (.bipush 20, 2) := by decide +kernel
theorem dX10_feed_108 : decode cX10_feed 108 = .ok (.iadd, 1) := by decide +kernel
theorem dX10_feed_109 : decode cX10_feed 109 = .ok (.putfield 97, 3) := by decide +kernel
theorem dX10_feed_112 : decode cX10_feed 112 = .ok (.aload_n 0, 1) := by decide +kernel
theorem dX10_feed_113 : decode cX10_feed 113 = .ok (.getfield 97, 3) := by decide +kernel
theorem dX10_feed_116 : decode cX10_feed 116 = .ok (.ireturn, 1) := by decide +kernel
theorem dX10_end_0 : decode cX10_end 0 = .ok (.iload_n 1, 1) := by decide +kernel
theorem dX10_end_1 : decode cX10_end 1 = .ok (.i2l, 1) := by decide +kernel
theorem dX10_end_2 : decode cX10_end 2 = .ok (.lconst 0, 1) := by decide +kernel
theorem dX10_end_3 : decode cX10_end 3 = .ok (.aload_n 0, 1) := by decide +kernel
theorem dX10_end_4 : decode cX10_end 4 = .ok (.getfield 97, 3) := by decide +kernel
theorem dX10_end_7 : decode cX10_end 7 = .ok (.i2l, 1) := by decide +kernel
theorem dX10_end_8 : decode cX10_end 8 = .ok (.invokestatic 85, 3) := by decide +kernel
theorem dX10_end_11 : decode cX10_end 11 = .ok (.ifCond .ne 5, 3) := by decide +kernel
