theorem dX0_init_0 : decode cX0_init 0 = .ok (.aload_n 0, 1) := by decide +kernel
theorem dX0_init_1 : decode cX0_init 1 = .ok (.invokespecial 3, 3) := by decide +kernel
theorem dX0_init_4 : decode cX0_init 4 = .ok (.aload_n 0, 1) := by decide +kernel
theorem dX0_init_5 : decode cX0_init 5 = .ok (.bipush 36, 2) := by decide +kernel
theorem dX0_init_7 : decode cX0_init 7 = .ok (.newarray .int, 2) := by decide +kernel
theorem dX0_init_9 : decode cX0_init 9 = .ok (.putfield 11, 3) := by decide +kernel
theorem dX0_init_12 : decode cX0_init 12 = .ok (.aload_n 0, 1) := by decide +kernel
theorem dX0_init_13 : decode cX0_init 13 = .ok (.bipush 36, 2) := by decide +kernel
theorem dX0_init_15 : decode cX0_init 15 = .ok (.newarray .int, 2) := by decide +kernel
theorem dX0_init_17 : decode cX0_init 17 = .ok (.putfield 15, 3) := by decide +kernel
theorem dX0_init_20 : decode cX0_init 20 = .ok (.aload_n 0, 1) := by decide +kernel
theorem dX0_init_21 : decode cX0_init 21 = .ok (.bipush 36, 2) := by decide +kernel
theorem dX0_init_23 : decode cX0_init 23 = .ok (.newarray .int, 2) := by decide +kernel
theorem dX0_init_25 : decode cX0_init 25 = .ok (.putfield 18, 3) := by decide +kernel
theorem dX0_init_28 : decode cX0_init 28 = .ok (.aload_n 0, 1) := by decide +kernel
theorem dX0_init_29 : decode cX0_init 29 = .ok (.bipush 6, 2) := by decide +kernel
theorem dX0_init_31 : decode cX0_init 31 = .ok (.newarray .int, 2) := by decide +kernel
theorem dX0_init_33 : decode cX0_init 33 = .ok (.putfield 21, 3) := by decide +kernel
theorem dX0_init_36 : decode cX0_init 36 = .ok (.aload_n 0, 1) := by decide +kernel
theorem dX0_init_37 : decode cX0_init 37 = .ok (.bipush 8, 2) := by decide +kernel
theorem dX0_init_39 : decode cX0_init 39 = .ok (.newarray .int, 2) := by decide +kernel
theorem dX0_init_41 : decode cX0_init 41 = .ok (.putfield 24, 3) := by decide +kernel
theorem dX0_init_44 : decode cX0_init 44 = .ok (.aload_n 0, 1) := by decide +kernel
theorem dX0_init_45 : decode cX0_init 45 = .ok (.aload_n 1, 1) := by decide +kernel
theorem dX0_init_46 : decode cX0_init 46 = .ok (.putfield 27, 3) := by decide +kernel
theorem dX0_init_49 : decode cX0_init 49 = .ok (.aload_n 0, 1) := by decide +kernel
theorem dX0_init_50 : decode cX0_init 50 = .ok (.aload_n 2, 1) := by decide +kernel
theorem dX0_init_51 : decode cX0_init 51 = .ok (.putfield 31, 3) := by decide +kernel
theorem dX0_init_54 : decode cX0_init 54 = .ok (.return_, 1) := by decide +kernel
theorem dX0_pair_0 : decode cX0_pair 0 = .ok (.iload_n 0, 1) := by decide +kernel
theorem dX0_pair_1 : decode cX0_pair 1 = .ok (.bipush 6, 2) := by decide +kernel
theorem dX0_pair_3 : decode cX0_pair 3 = .ok (.imul, 1) := by decide +kernel
theorem dX0_pair_4 : decode cX0_pair 4 = .ok (.iload_n 1, 1) := by decide +kernel
theorem dX0_pair_5 : decode cX0_pair 5 = .ok (.iadd, 1) := by decide +kernel
theorem dX0_pair_6 : decode cX0_pair 6 = .ok (.ireturn, 1) := by decide +kernel
theorem dX0_reckon_0 : decode cX0_reckon 0 = .ok (.aload_n 0, 1) := by decide +kernel
theorem dX0_reckon_1 : decode cX0_reckon 1 = .ok (.getfield 11, 3) := by decide +kernel
theorem dX0_reckon_4 : decode cX0_reckon 4 = .ok (.iconst 0, 1) := by decide +kernel
theorem dX0_reckon_5 : decode cX0_reckon 5 = .ok (.invokestatic 35, 3) := by decide +kernel
theorem dX0_reckon_8 : decode cX0_reckon 8 = .ok (.iconst 0, 1) := by decide +kernel
theorem dX0_reckon_9 : decode cX0_reckon 9 = .ok (.istore_n 1, 1) := by decide +kernel
theorem dX0_reckon_10 : decode cX0_reckon 10 = .ok (.iload_n 1, 1) := by decide +kernel
theorem dX0_reckon_11 : decode cX0_reckon 11 = .ok (.aload_n 0, 1) := by decide +kernel
theorem dX0_reckon_12 : decode cX0_reckon 12 = .ok (.getfield 27, 3) := by decide +kernel
theorem dX0_reckon_15 : decode cX0_reckon 15 = .ok (.getfield 41, 3) := by decide +kernel
theorem dX0_reckon_18 : decode cX0_reckon 18 = .ok (.getfield 47, 3) := by decide +kernel
theorem dX0_reckon_21 : decode cX0_reckon 21 = .ok (.if_icmp .ge 65, 3) := by decide +kernel
theorem dX0_reckon_24 : decode cX0_reckon 24 = .ok (.aload_n 0, 1) := by decide +kernel
theorem dX0_reckon_25 : decode cX0_reckon 25 = .ok (.getfield 27, 3) := by decide +kernel
theorem dX0_reckon_28 : decode cX0_reckon 28 = .ok (.getfield 41, 3) := by decide +kernel
theorem dX0_reckon_31 : decode cX0_reckon 31 = .ok (.iload_n 1, 1) := by decide +kernel
theorem dX0_reckon_32 : decode cX0_reckon 32 = .ok (.iconst 1, 1) := by decide +kernel
theorem dX0_reckon_33 : decode cX0_reckon 33 = .ok (.invokevirtual 53, 3) := by decide +kernel
theorem dX0_reckon_36 : decode cX0_reckon 36 = .ok (.aload_n 0, 1) := by decide +kernel
theorem dX0_reckon_37 : decode cX0_reckon 37 = .ok (.getfield 27, 3) := by decide +kernel
theorem dX0_reckon_40 : decode cX0_reckon 40 = .ok (.getfield 41, 3) := by decide +kernel
theorem dX0_reckon_43 : decode cX0_reckon 43 = .ok (.iload_n 1, 1) := by decide +kernel
theorem dX0_reckon_44 : decode cX0_reckon 44 = .ok (.iconst 0, 1) := by decide +kernel
theorem dX0_reckon_45 : decode cX0_reckon 45 = .ok (.invokevirtual 53, 3) := by decide +kernel
theorem dX0_reckon_48 : decode cX0_reckon 48 = .ok (.invokestatic 57, 3) := by decide +kernel
theorem dX0_reckon_51 : decode cX0_reckon 51 = .ok (.istore_n 2, 1) := by decide +kernel
theorem dX0_reckon_52 : decode cX0_reckon 52 = .ok (.aload_n 0, 1) := by decide +kernel
theorem dX0_reckon_53 : decode cX0_reckon 53 = .ok (.getfield 11, 3) := by decide +kernel
theorem dX0_reckon_56 : decode cX0_reckon 56 = .ok (.iload_n 2, 1) := by decide +kernel
theorem dX0_reckon_57 : decode cX0_reckon 57 = .ok (.dup2, 1) := by decide +kernel
theorem dX0_reckon_58 : decode cX0_reckon 58 = .ok (.iaload, 1) := by decide +kernel
theorem dX0_reckon_59 : decode cX0_reckon 59 = .ok (.aload_n 0, 1) := by decide +kernel
theorem dX0_reckon_60 : decode cX0_reckon 60 = .ok (.getfield 31, 3) := by decide +kernel
theorem dX0_reckon_63 : decode cX0_reckon 63 = .ok (.getfield 60, 3) := by decide +kernel
theorem dX0_reckon_66 : decode cX0_reckon 66 = .ok (.iload_n 1, 1) := by decide +kernel
theorem dX0_reckon_67 : decode cX0_reckon 67 = .ok (.iaload, 1) := by decide +kernel
theorem dX0_reckon_68 : decode cX0_reckon 68 = .ok (.aload_n 0, 1) := by decide +kernel
theorem dX0_reckon_69 : decode cX0_reckon 69 = .ok (.getfield 31, 3) := by decide +kernel
theorem dX0_reckon_72 : decode cX0_reckon 72 = .ok (.getfield 65, 3) := by decide +kernel
theorem dX0_reckon_75 : decode cX0_reckon 75 = .ok (.iload_n 1, 1) := by decide +kernel
theorem dX0_reckon_76 : decode cX0_reckon 76 = .ok (.iaload, 1) := by decide +kernel
theorem dX0_reckon_77 : decode cX0_reckon 77 = .ok (.isub, 1) := by decide +kernel
theorem dX0_reckon_78 : decode cX0_reckon 78 = .ok (.iadd, 1) := by decide +kernel
theorem dX0_reckon_79 : decode cX0_reckon 79 = .ok (.iastore, 1) := by decide +kernel
theorem dX0_reckon_80 : decode cX0_reckon 80 = .ok (.iinc 1 1, 3) := by decide +kernel
theorem dX0_reckon_83 : decode cX0_reckon 83 = .ok (.goto (-73), 3) := by decide +kernel
theorem dX0_reckon_86 : decode cX0_reckon 86 = .ok (.return_, 1) := by decide +kernel
theorem dX0_clearRings_0 : decode cX0_clearRings 0 = .ok (.aload_n 0, 1) := by decide +kernel
theorem dX0_clearRings_1 : decode cX0_clearRings 1 = .ok (.getfield 11, 3) := by decide +kernel
theorem dX0_clearRings_4 : decode cX0_clearRings 4 = .ok (.iconst 0, 1) := by decide +kernel
theorem dX0_clearRings_5 : decode cX0_clearRings 5 = .ok (.aload_n 0, 1) := by decide +kernel
theorem dX0_clearRings_6 : decode cX0_clearRings 6 = .ok (.getfield 15, 3) := by decide +kernel
theorem dX0_clearRings_9 : decode cX0_clearRings 9 = .ok (.iconst 0, 1) := by decide +kernel
theorem dX0_clearRings_10 : decode cX0_clearRings 10 = .ok (.bipush 36, 2) := by decide +kernel
theorem dX0_clearRings_12 : decode cX0_clearRings 12 = .ok (.invokestatic 68, 3) := by decide +kernel
theorem dX0_clearRings_15 : decode cX0_clearRings 15 = .ok (.aload_n 0, 1) := by decide +kernel
theorem dX0_clearRings_16 : decode cX0_clearRings 16 = .ok (.iconst 0, 1) := by decide +kernel
theorem dX0_clearRings_17 : decode cX0_clearRings 17 = .ok (.putfield 74, 3) := by decide +kernel
theorem dX0_clearRings_20 : decode cX0_clearRings 20 = .ok (.aload_n 0, 1) := by decide +kernel
theorem dX0_clearRings_21 : decode cX0_clearRings 21 = .ok (.iconst 0, 1) := by decide +kernel
theorem dX0_clearRings_22 : decode cX0_clearRings 22 = .ok (.putfield 77, 3) := by decide +kernel
theorem dX0_clearRings_25 : decode cX0_clearRings 25 = .ok (.iconst 0, 1) := by decide +kernel
theorem dX0_clearRings_26 : decode cX0_clearRings 26 = .ok (.istore_n 1, 1) := by decide +kernel
theorem dX0_clearRings_27 : decode cX0_clearRings 27 = .ok (.iload_n 1, 1) := by decide +kernel
theorem dX0_clearRings_28 : decode cX0_clearRings 28 = .ok (.bipush 8, 2) := by decide +kernel
theorem dX0_clearRings_30 : decode cX0_clearRings 30 = .ok (.if_icmp .ge 24, 3) := by decide +kernel
theorem dX0_clearRings_33 : decode cX0_clearRings 33 = .ok (.aload_n 0, 1) := by decide +kernel
theorem dX0_clearRings_34 : decode cX0_clearRings 34 = .ok (.invokevirtual 80, 3) := by decide +kernel
theorem dX0_clearRings_37 : decode cX0_clearRings 37 = .ok (.istore_n 2, 1) := by decide +kernel
theorem dX0_clearRings_38 : decode cX0_clearRings 38 = .ok (.iload_n 2, 1) := by decide +kernel
theorem dX0_clearRings_39 : decode cX0_clearRings 39 = .ok (.ifCond .ne 4, 3) := by decide +kernel
theorem dX0_clearRings_42 : decode cX0_clearRings 42 = .ok (.return_, 1) := by decide +kernel
theorem dX0_clearRings_43 : decode cX0_clearRings 43 = .ok (.aload_n 0, 1) := by decide +kernel
theorem dX0_clearRings_44 : decode cX0_clearRings 44 = .ok (.iload_n 2, 1) := by decide +kernel
theorem dX0_clearRings_45 : decode cX0_clearRings 45 = .ok (.invokevirtual 84, 3) := by decide +kernel
theorem dX0_clearRings_48 : decode cX0_clearRings 48 = .ok (.iinc 1 1, 3) := by decide +kernel
theorem dX0_clearRings_51 : decode cX0_clearRings 51 = .ok (.goto (-24), 3) := by decide +kernel
theorem dX0_clearRings_54 : decode cX0_clearRings 54 = .ok (.return_, 1) := by decide +kernel
theorem dX0_findRing_0 : decode cX0_findRing 0 = .ok (.aload_n 0, 1) := by decide +kernel
theorem dX0_findRing_1 : decode cX0_findRing 1 = .ok (.getfield 27, 3) := by decide +kernel
theorem dX0_findRing_4 : decode cX0_findRing 4 = .ok (.getfield 88, 3) := by decide +kernel
theorem dX0_findRing_7 : decode cX0_findRing 7 = .ok (.getfield 47, 3) := by decide +kernel
theorem dX0_findRing_10 : decode cX0_findRing 10 = .ok (.istore_n 1, 1) := by decide +kernel
theorem dX0_findRing_11 : decode cX0_findRing 11 = .ok (.iconst 2, 1) := by decide +kernel
theorem dX0_findRing_12 : decode cX0_findRing 12 = .ok (.istore_n 2, 1) := by decide +kernel
theorem dX0_findRing_13 : decode cX0_findRing 13 = .ok (.iload_n 2, 1) := by decide +kernel
theorem dX0_findRing_14 : decode cX0_findRing 14 = .ok (.iload_n 1, 1) := by decide +kernel
theorem dX0_findRing_15 : decode cX0_findRing 15 = .ok (.if_icmp .gt 48, 3) := by decide +kernel
theorem dX0_findRing_18 : decode cX0_findRing 18 = .ok (.iconst 0, 1) := by decide +kernel
theorem dX0_findRing_19 : decode cX0_findRing 19 = .ok (.istore_n 3, 1) := by decide +kernel
theorem dX0_findRing_20 : decode cX0_findRing 20 = .ok (.iload_n 3, 1) := by decide +kernel
theorem dX0_findRing_21 : decode cX0_findRing 21 = .ok (.iload_n 1, 1) := by decide +kernel
theorem dX0_findRing_22 : decode cX0_findRing 22 = .ok (.if_icmp .ge 35, 3) := by decide +kernel
theorem dX0_findRing_25 : decode cX0_findRing 25 = .ok (.aload_n 0, 1) := by decide +kernel
theorem dX0_findRing_26 : decode cX0_findRing 26 = .ok (.getfield 21, 3) := by decide +kernel
theorem dX0_findRing_29 : decode cX0_findRing 29 = .ok (.iconst 0, 1) := by decide +kernel
theorem dX0_findRing_30 : decode cX0_findRing 30 = .ok (.iload_n 3, 1) := by decide +kernel
theorem dX0_findRing_31 : decode cX0_findRing 31 = .ok (.iastore, 1) := by decide +kernel
theorem dX0_findRing_32 : decode cX0_findRing 32 = .ok (.aload_n 0, 1) := by decide +kernel
theorem dX0_findRing_33 : decode cX0_findRing 33 = .ok (.getfield 15, 3) := by decide +kernel
theorem dX0_findRing_36 : decode cX0_findRing 36 = .ok (.aload_n 0, 1) := by decide +kernel
theorem dX0_findRing_37 : decode cX0_findRing 37 = .ok (.getfield 21, 3) := by decide +kernel
theorem dX0_findRing_40 : decode cX0_findRing 40 = .ok (.iconst 1, 1) := by decide +kernel
theorem dX0_findRing_41 : decode cX0_findRing 41 = .ok (.iload_n 2, 1) := by decide +kernel
theorem dX0_findRing_42 : decode cX0_findRing 42 = .ok (.iload_n 1, 1) := by decide +kernel
theorem dX0_findRing_43 : decode cX0_findRing 43 = .ok (.invokestatic 91, 3) := by decide +kernel
theorem dX0_findRing_46 : decode cX0_findRing 46 = .ok (.ifCond .eq 5, 3) := by decide +kernel
theorem dX0_findRing_49 : decode cX0_findRing 49 = .ok (.iload_n 2, 1) := by decide +kernel
theorem dX0_findRing_50 : decode cX0_findRing 50 = .ok (.ireturn, 1) := by decide +kernel
theorem dX0_findRing_51 : decode cX0_findRing 51 = .ok (.iinc 3 1, 3) := by decide +kernel
theorem dX0_findRing_54 : decode cX0_findRing 54 = .ok (.goto (-34), 3) := by decide +kernel
theorem dX0_findRing_57 : decode cX0_findRing 57 = .ok (.iinc 2 1, 3) := by decide +kernel
theorem dX0_findRing_60 : decode cX0_findRing 60 = .ok (.goto (-47), 3) := by decide +kernel
theorem dX0_findRing_63 : decode cX0_findRing 63 = .ok (.iconst 0, 1) := by decide +kernel
theorem dX0_findRing_64 : decode cX0_findRing 64 = .ok (.ireturn, 1) := by decide +kernel
theorem dX0_closes_0 : decode cX0_closes 0 = .ok (.aload_n 1, 1) := by decide +kernel
theorem dX0_closes_1 : decode cX0_closes 1 = .ok (.iload_n 2, 1) := by decide +kernel
theorem dX0_closes_2 : decode cX0_closes 2 = .ok (.iconst 1, 1) := by decide +kernel
theorem dX0_closes_3 : decode cX0_closes 3 = .ok (.isub, 1) := by decide +kernel
theorem dX0_closes_4 : decode cX0_closes 4 = .ok (.iaload, 1) := by decide +kernel
theorem dX0_closes_5 : decode cX0_closes 5 = .ok (.istore 5, 2) := by decide +kernel
theorem dX0_closes_7 : decode cX0_closes 7 = .ok (.iload_n 2, 1) := by decide +kernel
theorem dX0_closes_8 : decode cX0_closes 8 = .ok (.iload_n 3, 1) := by decide +kernel
theorem dX0_closes_9 : decode cX0_closes 9 = .ok (.if_icmp .lt 22, 3) := by decide +kernel
theorem dX0_closes_12 : decode cX0_closes 12 = .ok (.aload_n 0, 1) := by decide +kernel
theorem dX0_closes_13 : decode cX0_closes 13 = .ok (.iload 5, 2) := by decide +kernel
theorem dX0_closes_15 : decode cX0_closes 15 = .ok (.aload_n 1, 1) := by decide +kernel
theorem dX0_closes_16 : decode cX0_closes 16 = .ok (.iconst 0, 1) := by decide +kernel
theorem dX0_closes_17 : decode cX0_closes 17 = .ok (.iaload, 1) := by decide +kernel
theorem dX0_closes_18 : decode cX0_closes 18 = .ok (.invokestatic 57, 3) := by decide +kernel
theorem dX0_closes_21 : decode cX0_closes 21 = .ok (.iaload, 1) := by decide +kernel
theorem dX0_closes_22 : decode cX0_closes 22 = .ok (.ifCond .le 7, 3) := by decide +kernel
theorem dX0_closes_25 : decode cX0_closes 25 = .ok (.iconst 1, 1) := by decide +kernel
theorem dX0_closes_26 : decode cX0_closes 26 = .ok (.goto 4, 3) := by decide +kernel
theorem dX0_closes_29 : decode cX0_closes 29 = .ok (.iconst 0, 1) := by decide +kernel
theorem dX0_closes_30 : decode cX0_closes 30 = .ok (.ireturn, 1) := by decide +kernel
theorem dX0_closes_31 : decode cX0_closes 31 = .ok (.aload_n 1, 1) := by decide +kernel
theorem dX0_closes_32 : decode cX0_closes 32 = .ok (.iconst 0, 1) := by decide +kernel
theorem dX0_closes_33 : decode cX0_closes 33 = .ok (.iaload, 1) := by decide +kernel
theorem dX0_closes_34 : decode cX0_closes 34 = .ok (.iconst 1, 1) := by decide +kernel
theorem dX0_closes_35 : decode cX0_closes 35 = .ok (.iadd, 1) := by decide +kernel
theorem dX0_closes_36 : decode cX0_closes 36 = .ok (.istore 6, 2) := by decide +kernel
theorem dX0_closes_38 : decode cX0_closes 38 = .ok (.iload 6, 2) := by decide +kernel
theorem dX0_closes_40 : decode cX0_closes 40 = .ok (.iload 4, 2) := by decide +kernel
theorem dX0_closes_42 : decode cX0_closes 42 = .ok (.if_icmp .ge 52, 3) := by decide +kernel
theorem dX0_closes_45 : decode cX0_closes 45 = .ok (.aload_n 0, 1) := by decide +kernel
theorem dX0_closes_46 : decode cX0_closes 46 = .ok (.iload 5, 2) := by decide +kernel
theorem dX0_closes_48 : decode cX0_closes 48 = .ok (.iload 6, 2) := by decide +kernel
theorem dX0_closes_50 : decode cX0_closes 50 = .ok (.invokestatic 57, 3) := by decide +kernel
theorem dX0_closes_53 : decode cX0_closes 53 = .ok (.iaload, 1) := by decide +kernel
theorem dX0_closes_54 : decode cX0_closes 54 = .ok (.ifCond .le 34, 3) := by decide +kernel
theorem dX0_closes_57 : decode cX0_closes 57 = .ok (.aload_n 1, 1) := by decide +kernel
theorem dX0_closes_58 : decode cX0_closes 58 = .ok (.iload_n 2, 1) := by decide +kernel
theorem dX0_closes_59 : decode cX0_closes 59 = .ok (.iload 6, 2) := by decide +kernel
theorem dX0_closes_61 : decode cX0_closes 61 = .ok (.invokestatic 95, 3) := by decide +kernel
theorem dX0_closes_64 : decode cX0_closes 64 = .ok (.ifCond .ne 24, 3) := by decide +kernel
theorem dX0_closes_67 : decode cX0_closes 67 = .ok (.aload_n 1, 1) := by decide +kernel
theorem dX0_closes_68 : decode cX0_closes 68 = .ok (.iload_n 2, 1) := by decide +kernel
theorem dX0_closes_69 : decode cX0_closes 69 = .ok (.iload 6, 2) := by decide +kernel
theorem dX0_closes_71 : decode cX0_closes 71 = .ok (.iastore, 1) := by decide +kernel
theorem dX0_closes_72 : decode cX0_closes 72 = .ok (.aload_n 0, 1) := by decide +kernel
theorem dX0_closes_73 : decode cX0_closes 73 = .ok (.aload_n 1, 1) := by decide +kernel
theorem dX0_closes_74 : decode cX0_closes 74 = .ok (.iload_n 2, 1) := by decide +kernel
theorem dX0_closes_75 : decode cX0_closes 75 = .ok (.iconst 1, 1) := by decide +kernel
theorem dX0_closes_76 : decode cX0_closes 76 = .ok (.iadd, 1) := by decide +kernel
theorem dX0_closes_77 : decode cX0_closes 77 = .ok (.iload_n 3, 1) := by decide +kernel
theorem dX0_closes_78 : decode cX0_closes 78 = .ok (.iload 4, 2) := by decide +kernel
theorem dX0_closes_80 : decode cX0_closes 80 = .ok (.invokestatic 91, 3) := by decide +kernel
theorem dX0_closes_83 : decode cX0_closes 83 = .ok (.ifCond .eq 5, 3) := by decide +kernel
theorem dX0_closes_86 : decode cX0_closes 86 = .ok (.iconst 1, 1) := by decide +kernel
theorem dX0_closes_87 : decode cX0_closes 87 = .ok (.ireturn, 1) := by decide +kernel
theorem dX0_closes_88 : decode cX0_closes 88 = .ok (.iinc 6 1, 3) := by decide +kernel
theorem dX0_closes_91 : decode cX0_closes 91 = .ok (.goto (-53), 3) := by decide +kernel
theorem dX0_closes_94 : decode cX0_closes 94 = .ok (.iconst 0, 1) := by decide +kernel
theorem dX0_closes_95 : decode cX0_closes 95 = .ok (.ireturn, 1) := by decide +kernel
theorem dX0_holds_0 : decode cX0_holds 0 = .ok (.iconst 0, 1) := by decide +kernel
theorem dX0_holds_1 : decode cX0_holds 1 = .ok (.istore_n 3, 1) := by decide +kernel
theorem dX0_holds_2 : decode cX0_holds 2 = .ok (.iload_n 3, 1) := by decide +kernel
theorem dX0_holds_3 : decode cX0_holds 3 = .ok (.iload_n 1, 1) := by decide +kernel
theorem dX0_holds_4 : decode cX0_holds 4 = .ok (.if_icmp .ge 18, 3) := by decide +kernel
theorem dX0_holds_7 : decode cX0_holds 7 = .ok (.aload_n 0, 1) := by decide +kernel
theorem dX0_holds_8 : decode cX0_holds 8 = .ok (.iload_n 3, 1) := by decide +kernel
theorem dX0_holds_9 : decode cX0_holds 9 = .ok (.iaload, 1) := by decide +kernel
theorem dX0_holds_10 : decode cX0_holds 10 = .ok (.iload_n 2, 1) := by decide +kernel
theorem dX0_holds_11 : decode cX0_holds 11 = .ok (.if_icmp .ne 5, 3) := by decide +kernel
theorem dX0_holds_14 : decode cX0_holds 14 = .ok (.iconst 1, 1) := by decide +kernel
theorem dX0_holds_15 : decode cX0_holds 15 = .ok (.ireturn, 1) := by decide +kernel
theorem dX0_holds_16 : decode cX0_holds 16 = .ok (.iinc 3 1, 3) := by decide +kernel
theorem dX0_holds_19 : decode cX0_holds 19 = .ok (.goto (-17), 3) := by decide +kernel
theorem dX0_holds_22 : decode cX0_holds 22 = .ok (.iconst 0, 1) := by decide +kernel
theorem dX0_holds_23 : decode cX0_holds 23 = .ok (.ireturn, 1) := by decide +kernel
theorem dX0_clearRound_0 : decode cX0_clearRound 0 = .ok (.aload_n 0, 1) := by decide +kernel
theorem dX0_clearRound_1 : decode cX0_clearRound 1 = .ok (.getfield 15, 3) := by decide +kernel
theorem dX0_clearRound_4 : decode cX0_clearRound 4 = .ok (.aload_n 0, 1) := by decide +kernel
theorem dX0_clearRound_5 : decode cX0_clearRound 5 = .ok (.getfield 21, 3) := by decide +kernel
theorem dX0_clearRound_8 : decode cX0_clearRound 8 = .ok (.iload_n 1, 1) := by decide +kernel
theorem dX0_clearRound_9 : decode cX0_clearRound 9 = .ok (.iconst 1, 1) := by decide +kernel
theorem dX0_clearRound_10 : decode cX0_clearRound 10 = .ok (.isub, 1) := by decide +kernel
theorem dX0_clearRound_11 : decode cX0_clearRound 11 = .ok (.iaload, 1) := by decide +kernel
theorem dX0_clearRound_12 : decode cX0_clearRound 12 = .ok (.aload_n 0, 1) := by decide +kernel
theorem dX0_clearRound_13 : decode cX0_clearRound 13 = .ok (.getfield 21, 3) := by decide +kernel
theorem dX0_clearRound_16 : decode cX0_clearRound 16 = .ok (.iconst 0, 1) := by decide +kernel
theorem dX0_clearRound_17 : decode cX0_clearRound 17 = .ok (.iaload, 1) := by decide +kernel
theorem dX0_clearRound_18 : decode cX0_clearRound 18 = .ok (.invokestatic 57, 3) := by decide +kernel
theorem dX0_clearRound_21 : decode cX0_clearRound 21 = .ok (.iaload, 1) := by decide +kernel
theorem dX0_clearRound_22 : decode cX0_clearRound 22 = .ok (.istore_n 2, 1) := by decide +kernel
theorem dX0_clearRound_23 : decode cX0_clearRound 23 = .ok (.iconst 1, 1) := by decide +kernel
theorem dX0_clearRound_24 : decode cX0_clearRound 24 = .ok (.istore_n 3, 1) := by decide +kernel
theorem dX0_clearRound_25 : decode cX0_clearRound 25 = .ok (.iload_n 3, 1) := by decide +kernel
theorem dX0_clearRound_26 : decode cX0_clearRound 26 = .ok (.iload_n 1, 1) := by decide +kernel
theorem dX0_clearRound_27 : decode cX0_clearRound 27 = .ok (.if_icmp .ge 36, 3) := by decide +kernel
theorem dX0_clearRound_30 : decode cX0_clearRound 30 = .ok (.iload_n 2, 1) := by decide +kernel
theorem dX0_clearRound_31 : decode cX0_clearRound 31 = .ok (.aload_n 0, 1) := by decide +kernel
theorem dX0_clearRound_32 : decode cX0_clearRound 32 = .ok (.getfield 15, 3) := by decide +kernel
theorem dX0_clearRound_35 : decode cX0_clearRound 35 = .ok (.aload_n 0, 1) := by decide +kernel
theorem dX0_clearRound_36 : decode cX0_clearRound 36 = .ok (.getfield 21, 3) := by decide +kernel
theorem dX0_clearRound_39 : decode cX0_clearRound 39 = .ok (.iload_n 3, 1) := by decide +kernel
theorem dX0_clearRound_40 : decode cX0_clearRound 40 = .ok (.iconst 1, 1) := by decide +kernel
theorem dX0_clearRound_41 : decode cX0_clearRound 41 = .ok (.isub, 1) := by decide +kernel
theorem dX0_clearRound_42 : decode cX0_clearRound 42 = .ok (.iaload, 1) := by decide +kernel
theorem dX0_clearRound_43 : decode cX0_clearRound 43 = .ok (.aload_n 0, 1) := by decide +kernel
theorem dX0_clearRound_44 : decode cX0_clearRound 44 = .ok (.getfield 21, 3) := by decide +kernel
theorem dX0_clearRound_47 : decode cX0_clearRound 47 = .ok (.iload_n 3, 1) := by decide +kernel
theorem dX0_clearRound_48 : decode cX0_clearRound 48 = .ok (.iaload, 1) := by decide +kernel
theorem dX0_clearRound_49 : decode cX0_clearRound 49 = .ok (.invokestatic 57, 3) := by decide +kernel
theorem dX0_clearRound_52 : decode cX0_clearRound 52 = .ok (.iaload, 1) := by decide +kernel
theorem dX0_clearRound_53 : decode cX0_clearRound 53 = .ok (.invokestatic 99, 3) := by decide +kernel
theorem dX0_clearRound_56 : decode cX0_clearRound 56 = .ok (.istore_n 2, 1) := by decide +kernel
theorem dX0_clearRound_57 : decode cX0_clearRound 57 = .ok (.iinc 3 1, 3) := by decide +kernel
theorem dX0_clearRound_60 : decode cX0_clearRound 60 = .ok (.goto (-35), 3) := by decide +kernel
theorem dX0_clearRound_63 : decode cX0_clearRound 63 = .ok (.iconst 0, 1) := by decide +kernel
theorem dX0_clearRound_64 : decode cX0_clearRound 64 = .ok (.istore_n 3, 1) := by decide +kernel
theorem dX0_clearRound_65 : decode cX0_clearRound 65 = .ok (.iconst 0, 1) := by decide +kernel
theorem dX0_clearRound_66 : decode cX0_clearRound 66 = .ok (.istore 4, 2) := by decide +kernel
theorem dX0_clearRound_68 : decode cX0_clearRound 68 = .ok (.iload 4, 2) := by decide +kernel
theorem dX0_clearRound_70 : decode cX0_clearRound 70 = .ok (.iload_n 1, 1) := by decide +kernel
theorem dX0_clearRound_71 : decode cX0_clearRound 71 = .ok (.if_icmp .ge 70, 3) := by decide +kernel
theorem dX0_clearRound_74 : decode cX0_clearRound 74 = .ok (.iload 4, 2) := by decide +kernel
theorem dX0_clearRound_76 : decode cX0_clearRound 76 = .ok (.iconst 1, 1) := by decide +kernel
theorem dX0_clearRound_77 : decode cX0_clearRound 77 = .ok (.iadd, 1) := by decide +kernel
theorem dX0_clearRound_78 : decode cX0_clearRound 78 = .ok (.iload_n 1, 1) := by decide +kernel
theorem dX0_clearRound_79 : decode cX0_clearRound 79 = .ok (.if_icmp .ge 15, 3) := by decide +kernel
theorem dX0_clearRound_82 : decode cX0_clearRound 82 = .ok (.aload_n 0, 1) := by decide +kernel
theorem dX0_clearRound_83 : decode cX0_clearRound 83 = .ok (.getfield 21, 3) := by decide +kernel
theorem dX0_clearRound_86 : decode cX0_clearRound 86 = .ok (.iload 4, 2) := by decide +kernel
theorem dX0_clearRound_88 : decode cX0_clearRound 88 = .ok (.iconst 1, 1) := by decide +kernel
theorem dX0_clearRound_89 : decode cX0_clearRound 89 = .ok (.iadd, 1) := by decide +kernel
theorem dX0_clearRound_90 : decode cX0_clearRound 90 = .ok (.iaload, 1) := by decide +kernel
theorem dX0_clearRound_91 : decode cX0_clearRound 91 = .ok (.goto 9, 3) := by decide +kernel
theorem dX0_clearRound_94 : decode cX0_clearRound 94 = .ok (.aload_n 0, 1) := by decide +kernel
theorem dX0_clearRound_95 : decode cX0_clearRound 95 = .ok (.getfield 21, 3) := by decide +kernel
theorem dX0_clearRound_98 : decode cX0_clearRound 98 = .ok (.iconst 0, 1) := by decide +kernel
theorem dX0_clearRound_99 : decode cX0_clearRound 99 = .ok (.iaload, 1) := by decide +kernel
theorem dX0_clearRound_100 : decode cX0_clearRound 100 = .ok (.istore 5, 2) := by decide +kernel
theorem dX0_clearRound_102 : decode cX0_clearRound 102 = .ok (.aload_n 0, 1) := by decide +kernel
theorem dX0_clearRound_103 : decode cX0_clearRound 103 = .ok (.getfield 15, 3) := by decide +kernel
theorem dX0_clearRound_106 : decode cX0_clearRound 106 = .ok (.aload_n 0, 1) := by decide +kernel
theorem dX0_clearRound_107 : decode cX0_clearRound 107 = .ok (.getfield 21, 3) := by decide +kernel
theorem dX0_clearRound_110 : decode cX0_clearRound 110 = .ok (.iload 4, 2) := by decide +kernel
theorem dX0_clearRound_112 : decode cX0_clearRound 112 = .ok (.iaload, 1) := by decide +kernel
theorem dX0_clearRound_113 : decode cX0_clearRound 113 = .ok (.iload 5, 2) := by decide +kernel
theorem dX0_clearRound_115 : decode cX0_clearRound 115 = .ok (.invokestatic 57, 3) := by decide +kernel
theorem dX0_clearRound_118 : decode cX0_clearRound 118 = .ok (.dup2, 1) := by decide +kernel
theorem dX0_clearRound_119 : decode cX0_clearRound 119 = .ok (.iaload, 1) := by decide +kernel
theorem dX0_clearRound_120 : decode cX0_clearRound 120 = .ok (.iload_n 2, 1) := by decide +kernel
theorem dX0_clearRound_121 : decode cX0_clearRound 121 = .ok (.isub, 1) := by decide +kernel
theorem dX0_clearRound_122 : decode cX0_clearRound 122 = .ok (.iastore, 1) := by decide +kernel
theorem dX0_clearRound_123 : decode cX0_clearRound 123 = .ok (.iload_n 3, 1) := by decide +kernel
theorem dX0_clearRound_124 : decode cX0_clearRound 124 = .ok (.iconst 1, 1) := by decide +kernel
theorem dX0_clearRound_125 : decode cX0_clearRound 125 = .ok (.aload_n 0, 1) := by decide +kernel
theorem dX0_clearRound_126 : decode cX0_clearRound 126 = .ok (.getfield 21, 3) := by decide +kernel
theorem dX0_clearRound_129 : decode cX0_clearRound 129 = .ok (.iload 4, 2) := by decide +kernel
theorem dX0_clearRound_131 : decode cX0_clearRound 131 = .ok (.iaload, 1) := by decide +kernel
theorem dX0_clearRound_132 : decode cX0_clearRound 132 = .ok (.ishl, 1) := by decide +kernel
theorem dX0_clearRound_133 : decode cX0_clearRound 133 = .ok (.ior, 1) := by decide +kernel
theorem dX0_clearRound_134 : decode cX0_clearRound 134 = .ok (.istore_n 3, 1) := by decide +kernel
theorem dX0_clearRound_135 : decode cX0_clearRound 135 = .ok (.iinc 4 1, 3) := by decide +kernel
theorem dX0_clearRound_138 : decode cX0_clearRound 138 = .ok (.goto (-70), 3) := by decide +kernel
theorem dX0_clearRound_141 : decode cX0_clearRound 141 = .ok (.aload_n 0, 1) := by decide +kernel
theorem dX0_clearRound_142 : decode cX0_clearRound 142 = .ok (.dup, 1) := by decide +kernel
theorem dX0_clearRound_143 : decode cX0_clearRound 143 = .ok (.getfield 77, 3) := by decide +kernel
theorem dX0_clearRound_146 : decode cX0_clearRound 146 = .ok (.iload_n 2, 1) := by decide +kernel
theorem dX0_clearRound_147 : decode cX0_clearRound 147 = .ok (.iload_n 1, 1) := by decide +kernel
theorem dX0_clearRound_148 : decode cX0_clearRound 148 = .ok (.imul, 1) := by decide +kernel
theorem dX0_clearRound_149 : decode cX0_clearRound 149 = .ok (.iadd, 1) := by decide +kernel
theorem dX0_clearRound_150 : decode cX0_clearRound 150 = .ok (.putfield 77, 3) := by decide +kernel
theorem dX0_clearRound_153 : decode cX0_clearRound 153 = .ok (.aload_n 0, 1) := by decide +kernel
theorem dX0_clearRound_154 : decode cX0_clearRound 154 = .ok (.getfield 24, 3) := by decide +kernel
theorem dX0_clearRound_157 : decode cX0_clearRound 157 = .ok (.aload_n 0, 1) := by decide +kernel
theorem dX0_clearRound_158 : decode cX0_clearRound 158 = .ok (.getfield 74, 3) := by decide +kernel
theorem dX0_clearRound_161 : decode cX0_clearRound 161 = .ok (.iload_n 3, 1) := by decide +kernel
theorem dX0_clearRound_162 : decode cX0_clearRound 162 = .ok (.iastore, 1) := by decide +kernel
theorem dX0_clearRound_163 : decode cX0_clearRound 163 = .ok (.aload_n 0, 1) := by decide +kernel
theorem dX0_clearRound_164 : decode cX0_clearRound 164 = .ok (.dup, 1) := by decide +kernel
theorem dX0_clearRound_165 : decode cX0_clearRound 165 = .ok (.getfield 74, 3) := by decide +kernel
theorem dX0_clearRound_168 : decode cX0_clearRound 168 = .ok (.iconst 1, 1) := by decide +kernel
theorem dX0_clearRound_169 : decode cX0_clearRound 169 = .ok (.iadd, 1) := by decide +kernel
theorem dX0_clearRound_170 : decode cX0_clearRound 170 = .ok (.putfield 74, 3) := by decide +kernel
theorem dX0_clearRound_173 : decode cX0_clearRound 173 = .ok (.return_, 1) := by decide +kernel
theorem dX0_strike_0 : decode cX0_strike 0 = .ok (.aload_n 0, 1) := by decide +kernel
theorem dX0_strike_1 : decode cX0_strike 1 = .ok (.getfield 18, 3) := by decide +kernel
theorem dX0_strike_4 : decode cX0_strike 4 = .ok (.iconst 0, 1) := by decide +kernel
theorem dX0_strike_5 : decode cX0_strike 5 = .ok (.invokestatic 35, 3) := by decide +kernel
theorem dX0_strike_8 : decode cX0_strike 8 = .ok (.iconst 0, 1) := by decide +kernel
theorem dX0_strike_9 : decode cX0_strike 9 = .ok (.istore_n 2, 1) := by decide +kernel
theorem dX0_strike_10 : decode cX0_strike 10 = .ok (.iload_n 2, 1) := by decide +kernel
theorem dX0_strike_11 : decode cX0_strike 11 = .ok (.aload_n 0, 1) := by decide +kernel
theorem dX0_strike_12 : decode cX0_strike 12 = .ok (.getfield 27, 3) := by decide +kernel
theorem dX0_strike_15 : decode cX0_strike 15 = .ok (.getfield 88, 3) := by decide +kernel
theorem dX0_strike_18 : decode cX0_strike 18 = .ok (.getfield 47, 3) := by decide +kernel
theorem dX0_strike_21 : decode cX0_strike 21 = .ok (.if_icmp .ge 28, 3) := by decide +kernel
theorem dX0_strike_24 : decode cX0_strike 24 = .ok (.iload_n 1, 1) := by decide +kernel
theorem dX0_strike_25 : decode cX0_strike 25 = .ok (.iconst 2, 1) := by decide +kernel
theorem dX0_strike_26 : decode cX0_strike 26 = .ok (.if_icmp .ne 11, 3) := by decide +kernel
theorem dX0_strike_29 : decode cX0_strike 29 = .ok (.aload_n 0, 1) := by decide +kernel
theorem dX0_strike_30 : decode cX0_strike 30 = .ok (.iload_n 2, 1) := by decide +kernel
theorem dX0_strike_31 : decode cX0_strike 31 = .ok (.invokevirtual 104, 3) := by decide +kernel
theorem dX0_strike_34 : decode cX0_strike 34 = .ok (.goto 9, 3) := by decide +kernel
theorem dX0_strike_37 : decode cX0_strike 37 = .ok (.aload_n 0, 1) := by decide +kernel
theorem dX0_strike_38 : decode cX0_strike 38 = .ok (.iload_n 2, 1) := by decide +kernel
theorem dX0_strike_39 : decode cX0_strike 39 = .ok (.iload_n 1, 1) := by decide +kernel
theorem dX0_strike_40 : decode cX0_strike 40 = .ok (.invokevirtual 107, 3) := by decide +kernel
theorem dX0_strike_43 : decode cX0_strike 43 = .ok (.iinc 2 1, 3) := by decide +kernel
theorem dX0_strike_46 : decode cX0_strike 46 = .ok (.goto (-36), 3) := by decide +kernel
theorem dX0_strike_49 : decode cX0_strike 49 = .ok (.return_, 1) := by decide +kernel
theorem dX0_payParts_0 : decode cX0_payParts 0 = .ok (.lconst 0, 1) := by decide +kernel
theorem dX0_payParts_1 : decode cX0_payParts 1 = .ok (.lstore_n 2, 1) := by decide +kernel
theorem dX0_payParts_2 : decode cX0_payParts 2 = .ok (.iconst 0, 1) := by decide +kernel
theorem dX0_payParts_3 : decode cX0_payParts 3 = .ok (.istore 4, 2) := by decide +kernel
theorem dX0_payParts_5 : decode cX0_payParts 5 = .ok (.iload 4, 2) := by decide +kernel
theorem dX0_payParts_7 : decode cX0_payParts 7 = .ok (.aload_n 0, 1) := by decide +kernel
theorem dX0_payParts_8 : decode cX0_payParts 8 = .ok (.getfield 27, 3) := by decide +kernel
theorem dX0_payParts_11 : decode cX0_payParts 11 = .ok (.getfield 88, 3) := by decide +kernel
theorem dX0_payParts_14 : decode cX0_payParts 14 = .ok (.getfield 47, 3) := by decide +kernel
theorem dX0_payParts_17 : decode cX0_payParts 17 = .ok (.if_icmp .ge 24, 3) := by decide +kernel
theorem dX0_payParts_20 : decode cX0_payParts 20 = .ok (.lload_n 2, 1) := by decide +kernel
theorem dX0_payParts_21 : decode cX0_payParts 21 = .ok (.aload_n 0, 1) := by decide +kernel
theorem dX0_payParts_22 : decode cX0_payParts 22 = .ok (.getfield 11, 3) := by decide +kernel
theorem dX0_payParts_25 : decode cX0_payParts 25 = .ok (.iload_n 1, 1) := by decide +kernel
theorem dX0_payParts_26 : decode cX0_payParts 26 = .ok (.iload 4, 2) := by decide +kernel
theorem dX0_payParts_28 : decode cX0_payParts 28 = .ok (.invokestatic 57, 3) := by decide +kernel
theorem dX0_payParts_31 : decode cX0_payParts 31 = .ok (.iaload, 1) := by decide +kernel
theorem dX0_payParts_32 : decode cX0_payParts 32 = .ok (.i2l, 1) := by decide +kernel
theorem dX0_payParts_33 : decode cX0_payParts 33 = .ok (.ladd, 1) := by decide +kernel
theorem dX0_payParts_34 : decode cX0_payParts 34 = .ok (.lstore_n 2, 1) := by decide +kernel
theorem dX0_payParts_35 : decode cX0_payParts 35 = .ok (.iinc 4 1, 3) := by decide +kernel
theorem dX0_payParts_38 : decode cX0_payParts 38 = .ok (.goto (-33), 3) := by decide +kernel
theorem dX0_payParts_41 : decode cX0_payParts 41 = .ok (.aload_n 0, 1) := by decide +kernel
theorem dX0_payParts_42 : decode cX0_payParts 42 = .ok (.getfield 31, 3) := by decide +kernel
theorem dX0_payParts_45 : decode cX0_payParts 45 = .ok (.getfield 111, 3) := by decide +kernel
theorem dX0_payParts_48 : decode cX0_payParts 48 = .ok (.iload_n 1, 1) := by decide +kernel
theorem dX0_payParts_49 : decode cX0_payParts 49 = .ok (.iaload, 1) := by decide +kernel
theorem dX0_payParts_50 : decode cX0_payParts 50 = .ok (.i2l, 1) := by decide +kernel
theorem dX0_payParts_51 : decode cX0_payParts 51 = .ok (.lstore 4, 2) := by decide +kernel
theorem dX0_payParts_53 : decode cX0_payParts 53 = .ok (.iconst 0, 1) := by decide +kernel
theorem dX0_payParts_54 : decode cX0_payParts 54 = .ok (.istore 6, 2) := by decide +kernel
theorem dX0_payParts_56 : decode cX0_payParts 56 = .ok (.iload 6, 2) := by decide +kernel
theorem dX0_payParts_58 : decode cX0_payParts 58 = .ok (.aload_n 0, 1) := by decide +kernel
theorem dX0_payParts_59 : decode cX0_payParts 59 = .ok (.getfield 27, 3) := by decide +kernel
theorem dX0_payParts_62 : decode cX0_payParts 62 = .ok (.getfield 88, 3) := by decide +kernel
theorem dX0_payParts_65 : decode cX0_payParts 65 = .ok (.getfield 47, 3) := by decide +kernel
theorem dX0_payParts_68 : decode cX0_payParts 68 = .ok (.if_icmp .ge 58, 3) := by decide +kernel
theorem dX0_payParts_71 : decode cX0_payParts 71 = .ok (.aload_n 0, 1) := by decide +kernel
theorem dX0_payParts_72 : decode cX0_payParts 72 = .ok (.getfield 11, 3) := by decide +kernel
theorem dX0_payParts_75 : decode cX0_payParts 75 = .ok (.iload_n 1, 1) := by decide +kernel
theorem dX0_payParts_76 : decode cX0_payParts 76 = .ok (.iload 6, 2) := by decide +kernel
theorem dX0_payParts_78 : decode cX0_payParts 78 = .ok (.invokestatic 57, 3) := by decide +kernel
theorem dX0_payParts_81 : decode cX0_payParts 81 = .ok (.iaload, 1) := by decide +kernel
theorem dX0_payParts_82 : decode cX0_payParts 82 = .ok (.istore 7, 2) := by decide +kernel
theorem dX0_payParts_84 : decode cX0_payParts 84 = .ok (.aload_n 0, 1) := by decide +kernel
theorem dX0_payParts_85 : decode cX0_payParts 85 = .ok (.getfield 18, 3) := by decide +kernel
theorem dX0_payParts_88 : decode cX0_payParts 88 = .ok (.iload_n 1, 1) := by decide +kernel
theorem dX0_payParts_89 : decode cX0_payParts 89 = .ok (.iload 6, 2) := by decide +kernel
theorem dX0_payParts_91 : decode cX0_payParts 91 = .ok (.invokestatic 57, 3) := by decide +kernel
theorem dX0_payParts_94 : decode cX0_payParts 94 = .ok (.lload 4, 2) := by decide +kernel
theorem dX0_payParts_96 : decode cX0_payParts 96 = .ok (.lload_n 2, 1) := by decide +kernel
theorem dX0_payParts_97 : decode cX0_payParts 97 = .ok (.lcmp, 1) := by decide +kernel
theorem dX0_payParts_98 : decode cX0_payParts 98 = .ok (.ifCond .ge 19, 3) := by decide +kernel
theorem dX0_payParts_101 : decode cX0_payParts 101 = .ok (.iload 7, 2) := by decide +kernel
theorem dX0_payParts_103 : decode cX0_payParts 103 = .ok (.i2l, 1) := by decide +kernel
theorem dX0_payParts_104 : decode cX0_payParts 104 = .ok (.lload 4, 2) := by decide +kernel
theorem dX0_payParts_106 : decode cX0_payParts 106 = .ok (.lmul, 1) := by decide +kernel
theorem dX0_payParts_107 : decode cX0_payParts 107 = .ok (.lconst 1, 1) := by decide +kernel
theorem dX0_payParts_108 : decode cX0_payParts 108 = .ok (.lload_n 2, 1) := by decide +kernel
theorem dX0_payParts_109 : decode cX0_payParts 109 = .ok (.invokestatic 114, 3) := by decide +kernel
theorem dX0_payParts_112 : decode cX0_payParts 112 = .ok (.ldiv, 1) := by decide +kernel
theorem dX0_payParts_113 : decode cX0_payParts 113 = .ok (.l2i, 1) := by decide +kernel
theorem dX0_payParts_114 : decode cX0_payParts 114 = .ok (.goto 5, 3) := by decide +kernel
theorem dX0_payParts_117 : decode cX0_payParts 117 = .ok (.iload 7, 2) := by decide +kernel
theorem dX0_payParts_119 : decode cX0_payParts 119 = .ok (.iastore, 1) := by decide +kernel
theorem dX0_payParts_120 : decode cX0_payParts 120 = .ok (.iinc 6 1, 3) := by decide +kernel
theorem dX0_payParts_123 : decode cX0_payParts 123 = .ok (.goto (-67), 3) := by decide +kernel
theorem dX0_payParts_126 : decode cX0_payParts 126 = .ok (.return_, 1) := by decide +kernel
theorem dX0_payInTurn_0 : decode cX0_payInTurn 0 = .ok (.aload_n 0, 1) := by decide +kernel
theorem dX0_payInTurn_1 : decode cX0_payInTurn 1 = .ok (.getfield 31, 3) := by decide +kernel
theorem dX0_payInTurn_4 : decode cX0_payInTurn 4 = .ok (.getfield 111, 3) := by decide +kernel
theorem dX0_payInTurn_7 : decode cX0_payInTurn 7 = .ok (.iload_n 1, 1) := by decide +kernel
theorem dX0_payInTurn_8 : decode cX0_payInTurn 8 = .ok (.iaload, 1) := by decide +kernel
theorem dX0_payInTurn_9 : decode cX0_payInTurn 9 = .ok (.istore_n 3, 1) := by decide +kernel
theorem dX0_payInTurn_10 : decode cX0_payInTurn 10 = .ok (.iconst 0, 1) := by decide +kernel
theorem dX0_payInTurn_11 : decode cX0_payInTurn 11 = .ok (.istore 4, 2) := by decide +kernel
theorem dX0_payInTurn_13 : decode cX0_payInTurn 13 = .ok (.iconst 0, 1) := by decide +kernel
theorem dX0_payInTurn_14 : decode cX0_payInTurn 14 = .ok (.istore 5, 2) := by decide +kernel
theorem dX0_payInTurn_16 : decode cX0_payInTurn 16 = .ok (.iload 5, 2) := by decide +kernel
theorem dX0_payInTurn_18 : decode cX0_payInTurn 18 = .ok (.aload_n 0, 1) := by decide +kernel
theorem dX0_payInTurn_19 : decode cX0_payInTurn 19 = .ok (.getfield 27, 3) := by decide +kernel
theorem dX0_payInTurn_22 : decode cX0_payInTurn 22 = .ok (.getfield 88, 3) := by decide +kernel
theorem dX0_payInTurn_25 : decode cX0_payInTurn 25 = .ok (.getfield 47, 3) := by decide +kernel
theorem dX0_payInTurn_28 : decode cX0_payInTurn 28 = .ok (.if_icmp .ge 70, 3) := by decide +kernel
theorem dX0_payInTurn_31 : decode cX0_payInTurn 31 = .ok (.aload_n 0, 1) := by decide +kernel
theorem dX0_payInTurn_32 : decode cX0_payInTurn 32 = .ok (.iload_n 1, 1) := by decide +kernel
theorem dX0_payInTurn_33 : decode cX0_payInTurn 33 = .ok (.iload_n 2, 1) := by decide +kernel
theorem dX0_payInTurn_34 : decode cX0_payInTurn 34 = .ok (.iload 4, 2) := by decide +kernel
theorem dX0_payInTurn_36 : decode cX0_payInTurn 36 = .ok (.invokevirtual 118, 3) := by decide +kernel
theorem dX0_payInTurn_39 : decode cX0_payInTurn 39 = .ok (.istore 6, 2) := by decide +kernel
theorem dX0_payInTurn_41 : decode cX0_payInTurn 41 = .ok (.iload 6, 2) := by decide +kernel
theorem dX0_payInTurn_43 : decode cX0_payInTurn 43 = .ok (.iconst (-1), 1) := by decide +kernel
theorem dX0_payInTurn_44 : decode cX0_payInTurn 44 = .ok (.if_icmp .ne 4, 3) := by decide +kernel
theorem dX0_payInTurn_47 : decode cX0_payInTurn 47 = .ok (.return_, 1) := by decide +kernel
theorem dX0_payInTurn_48 : decode cX0_payInTurn 48 = .ok (.iload_n 3, 1) := by decide +kernel
theorem dX0_payInTurn_49 : decode cX0_payInTurn 49 = .ok (.aload_n 0, 1) := by decide +kernel
theorem dX0_payInTurn_50 : decode cX0_payInTurn 50 = .ok (.getfield 11, 3) := by decide +kernel
theorem dX0_payInTurn_53 : decode cX0_payInTurn 53 = .ok (.iload_n 1, 1) := by decide +kernel
theorem dX0_payInTurn_54 : decode cX0_payInTurn 54 = .ok (.iload 6, 2) := by decide +kernel
theorem dX0_payInTurn_56 : decode cX0_payInTurn 56 = .ok (.invokestatic 57, 3) := by decide +kernel
theorem dX0_payInTurn_59 : decode cX0_payInTurn 59 = .ok (.iaload, 1) := by decide +kernel
theorem dX0_payInTurn_60 : decode cX0_payInTurn 60 = .ok (.invokestatic 99, 3) := by decide +kernel
theorem dX0_payInTurn_63 : decode cX0_payInTurn 63 = .ok (.istore 7, 2) := by decide +kernel
theorem dX0_payInTurn_65 : decode cX0_payInTurn 65 = .ok (.aload_n 0, 1) := by decide +kernel
theorem dX0_payInTurn_66 : decode cX0_payInTurn 66 = .ok (.getfield 18, 3) := by decide +kernel
theorem dX0_payInTurn_69 : decode cX0_payInTurn 69 = .ok (.iload_n 1, 1) := by decide +kernel
theorem dX0_payInTurn_70 : decode cX0_payInTurn 70 = .ok (.iload 6, 2) := by decide +kernel
theorem dX0_payInTurn_72 : decode cX0_payInTurn 72 = .ok (.invokestatic 57, 3) := by decide +kernel
theorem dX0_payInTurn_75 : decode cX0_payInTurn 75 = .ok (.iload 7, 2) := by decide +kernel
theorem dX0_payInTurn_77 : decode cX0_payInTurn 77 = .ok (.iastore, 1) := by decide +kernel
theorem dX0_payInTurn_78 : decode cX0_payInTurn 78 = .ok (.iload_n 3, 1) := by decide +kernel
theorem dX0_payInTurn_79 : decode cX0_payInTurn 79 = .ok (.iload 7, 2) := by decide +kernel
theorem dX0_payInTurn_81 : decode cX0_payInTurn 81 = .ok (.isub, 1) := by decide +kernel
theorem dX0_payInTurn_82 : decode cX0_payInTurn 82 = .ok (.istore_n 3, 1) := by decide +kernel
theorem dX0_payInTurn_83 : decode cX0_payInTurn 83 = .ok (.iload 4, 2) := by decide +kernel
theorem dX0_payInTurn_85 : decode cX0_payInTurn 85 = .ok (.iconst 1, 1) := by decide +kernel
theorem dX0_payInTurn_86 : decode cX0_payInTurn 86 = .ok (.iload 6, 2) := by decide +kernel
theorem dX0_payInTurn_88 : decode cX0_payInTurn 88 = .ok (.ishl, 1) := by decide +kernel
theorem dX0_payInTurn_89 : decode cX0_payInTurn 89 = .ok (.ior, 1) := by decide +kernel
theorem dX0_payInTurn_90 : decode cX0_payInTurn 90 = .ok (.istore 4, 2) := by decide +kernel
theorem dX0_payInTurn_92 : decode cX0_payInTurn 92 = .ok (.iinc 5 1, 3) := by decide +kernel
theorem dX0_payInTurn_95 : decode cX0_payInTurn 95 = .ok (.goto (-79), 3) := by decide +kernel
theorem dX0_payInTurn_98 : decode cX0_payInTurn 98 = .ok (.return_, 1) := by decide +kernel
theorem dX0_nextToPay_0 : decode cX0_nextToPay 0 = .ok (.iconst (-1), 1) := by decide +kernel
theorem dX0_nextToPay_1 : decode cX0_nextToPay 1 = .ok (.istore 4, 2) := by decide +kernel
theorem dX0_nextToPay_3 : decode cX0_nextToPay 3 = .ok (.iconst 0, 1) := by decide +kernel
theorem dX0_nextToPay_4 : decode cX0_nextToPay 4 = .ok (.istore 5, 2) := by decide +kernel
theorem dX0_nextToPay_6 : decode cX0_nextToPay 6 = .ok (.iload 5, 2) := by decide +kernel
theorem dX0_nextToPay_8 : decode cX0_nextToPay 8 = .ok (.aload_n 0, 1) := by decide +kernel
theorem dX0_nextToPay_9 : decode cX0_nextToPay 9 = .ok (.getfield 27, 3) := by decide +kernel
theorem dX0_nextToPay_12 : decode cX0_nextToPay 12 = .ok (.getfield 88, 3) := by decide +kernel
theorem dX0_nextToPay_15 : decode cX0_nextToPay 15 = .ok (.getfield 47, 3) := by decide +kernel
theorem dX0_nextToPay_18 : decode cX0_nextToPay 18 = .ok (.if_icmp .ge 67, 3) := by decide +kernel
theorem dX0_nextToPay_21 : decode cX0_nextToPay 21 = .ok (.aload_n 0, 1) := by decide +kernel
theorem dX0_nextToPay_22 : decode cX0_nextToPay 22 = .ok (.getfield 11, 3) := by decide +kernel
theorem dX0_nextToPay_25 : decode cX0_nextToPay 25 = .ok (.iload_n 1, 1) := by decide +kernel
theorem dX0_nextToPay_26 : decode cX0_nextToPay 26 = .ok (.iload 5, 2) := by decide +kernel
theorem dX0_nextToPay_28 : decode cX0_nextToPay 28 = .ok (.invokestatic 57, 3) := by decide +kernel
theorem dX0_nextToPay_31 : decode cX0_nextToPay 31 = .ok (.iaload, 1) := by decide +kernel
theorem dX0_nextToPay_32 : decode cX0_nextToPay 32 = .ok (.istore 6, 2) := by decide +kernel
theorem dX0_nextToPay_34 : decode cX0_nextToPay 34 = .ok (.iload 6, 2) := by decide +kernel
theorem dX0_nextToPay_36 : decode cX0_nextToPay 36 = .ok (.ifCond .le 43, 3) := by decide +kernel
theorem dX0_nextToPay_39 : decode cX0_nextToPay 39 = .ok (.iload_n 3, 1) := by decide +kernel
theorem dX0_nextToPay_40 : decode cX0_nextToPay 40 = .ok (.iload 5, 2) := by decide +kernel
theorem dX0_nextToPay_42 : decode cX0_nextToPay 42 = .ok (.ishr, 1) := by decide +kernel
theorem dX0_nextToPay_43 : decode cX0_nextToPay 43 = .ok (.iconst 1, 1) := by decide +kernel
theorem dX0_nextToPay_44 : decode cX0_nextToPay 44 = .ok (.iand, 1) := by decide +kernel
theorem dX0_nextToPay_45 : decode cX0_nextToPay 45 = .ok (.ifCond .ne 34, 3) := by decide +kernel
theorem dX0_nextToPay_48 : decode cX0_nextToPay 48 = .ok (.iload 4, 2) := by decide +kernel
theorem dX0_nextToPay_50 : decode cX0_nextToPay 50 = .ok (.iconst (-1), 1) := by decide +kernel
theorem dX0_nextToPay_51 : decode cX0_nextToPay 51 = .ok (.if_icmp .eq 24, 3) := by decide +kernel
theorem dX0_nextToPay_54 : decode cX0_nextToPay 54 = .ok (.iload_n 2, 1) := by decide +kernel
theorem dX0_nextToPay_55 : decode cX0_nextToPay 55 = .ok (.iconst 1, 1) := by decide +kernel
theorem dX0_nextToPay_56 : decode cX0_nextToPay 56 = .ok (.if_icmp .ne 23, 3) := by decide +kernel
theorem dX0_nextToPay_59 : decode cX0_nextToPay 59 = .ok (.iload 6, 2) := by decide +kernel
theorem dX0_nextToPay_61 : decode cX0_nextToPay 61 = .ok (.aload_n 0, 1) := by decide +kernel
theorem dX0_nextToPay_62 : decode cX0_nextToPay 62 = .ok (.getfield 11, 3) := by decide +kernel
theorem dX0_nextToPay_65 : decode cX0_nextToPay 65 = .ok (.iload_n 1, 1) := by decide +kernel
theorem dX0_nextToPay_66 : decode cX0_nextToPay 66 = .ok (.iload 4, 2) := by decide +kernel
theorem dX0_nextToPay_68 : decode cX0_nextToPay 68 = .ok (.invokestatic 57, 3) := by decide +kernel
theorem dX0_nextToPay_71 : decode cX0_nextToPay 71 = .ok (.iaload, 1) := by decide +kernel
theorem dX0_nextToPay_72 : decode cX0_nextToPay 72 = .ok (.if_icmp .ge 7, 3) := by decide +kernel
theorem dX0_nextToPay_75 : decode cX0_nextToPay 75 = .ok (.iload 5, 2) := by decide +kernel
theorem dX0_nextToPay_77 : decode cX0_nextToPay 77 = .ok (.istore 4, 2) := by decide +kernel
theorem dX0_nextToPay_79 : decode cX0_nextToPay 79 = .ok (.iinc 5 1, 3) := by decide +kernel
theorem dX0_nextToPay_82 : decode cX0_nextToPay 82 = .ok (.goto (-76), 3) := by decide +kernel
theorem dX0_nextToPay_85 : decode cX0_nextToPay 85 = .ok (.iload 4, 2) := by decide +kernel
theorem dX0_nextToPay_87 : decode cX0_nextToPay 87 = .ok (.ireturn, 1) := by decide +kernel
theorem dX0_ruined_0 : decode cX0_ruined 0 = .ok (.iconst 0, 1) := by decide +kernel
theorem dX0_ruined_1 : decode cX0_ruined 1 = .ok (.istore_n 1, 1) := by decide +kernel
theorem dX0_ruined_2 : decode cX0_ruined 2 = .ok (.iconst 0, 1) := by decide +kernel
theorem dX0_ruined_3 : decode cX0_ruined 3 = .ok (.istore_n 2, 1) := by decide +kernel
theorem dX0_ruined_4 : decode cX0_ruined 4 = .ok (.iload_n 2, 1) := by decide +kernel
theorem dX0_ruined_5 : decode cX0_ruined 5 = .ok (.aload_n 0, 1) := by decide +kernel
theorem dX0_ruined_6 : decode cX0_ruined 6 = .ok (.getfield 27, 3) := by decide +kernel
theorem dX0_ruined_9 : decode cX0_ruined 9 = .ok (.getfield 88, 3) := by decide +kernel
theorem dX0_ruined_12 : decode cX0_ruined 12 = .ok (.getfield 47, 3) := by decide +kernel
theorem dX0_ruined_15 : decode cX0_ruined 15 = .ok (.if_icmp .ge 82, 3) := by decide +kernel
theorem dX0_ruined_18 : decode cX0_ruined 18 = .ok (.iconst 0, 1) := by decide +kernel
theorem dX0_ruined_19 : decode cX0_ruined 19 = .ok (.istore_n 3, 1) := by decide +kernel
theorem dX0_ruined_20 : decode cX0_ruined 20 = .ok (.iconst 0, 1) := by decide +kernel
theorem dX0_ruined_21 : decode cX0_ruined 21 = .ok (.istore 4, 2) := by decide +kernel
theorem dX0_ruined_23 : decode cX0_ruined 23 = .ok (.iconst 0, 1) := by decide +kernel
theorem dX0_ruined_24 : decode cX0_ruined 24 = .ok (.istore 5, 2) := by decide +kernel
theorem dX0_ruined_26 : decode cX0_ruined 26 = .ok (.iload 5, 2) := by decide +kernel
theorem dX0_ruined_28 : decode cX0_ruined 28 = .ok (.aload_n 0, 1) := by decide +kernel
theorem dX0_ruined_29 : decode cX0_ruined 29 = .ok (.getfield 27, 3) := by decide +kernel
theorem dX0_ruined_32 : decode cX0_ruined 32 = .ok (.getfield 88, 3) := by decide +kernel
theorem dX0_ruined_35 : decode cX0_ruined 35 = .ok (.getfield 47, 3) := by decide +kernel
theorem dX0_ruined_38 : decode cX0_ruined 38 = .ok (.if_icmp .ge 39, 3) := by decide +kernel
theorem dX0_ruined_41 : decode cX0_ruined 41 = .ok (.iload_n 3, 1) := by decide +kernel
theorem dX0_ruined_42 : decode cX0_ruined 42 = .ok (.aload_n 0, 1) := by decide +kernel
theorem dX0_ruined_43 : decode cX0_ruined 43 = .ok (.getfield 11, 3) := by decide +kernel
theorem dX0_ruined_46 : decode cX0_ruined 46 = .ok (.iload 5, 2) := by decide +kernel
theorem dX0_ruined_48 : decode cX0_ruined 48 = .ok (.iload_n 2, 1) := by decide +kernel
theorem dX0_ruined_49 : decode cX0_ruined 49 = .ok (.invokestatic 57, 3) := by decide +kernel
theorem dX0_ruined_52 : decode cX0_ruined 52 = .ok (.iaload, 1) := by decide +kernel
theorem dX0_ruined_53 : decode cX0_ruined 53 = .ok (.iadd, 1) := by decide +kernel
theorem dX0_ruined_54 : decode cX0_ruined 54 = .ok (.istore_n 3, 1) := by decide +kernel
theorem dX0_ruined_55 : decode cX0_ruined 55 = .ok (.iload 4, 2) := by decide +kernel
theorem dX0_ruined_57 : decode cX0_ruined 57 = .ok (.aload_n 0, 1) := by decide +kernel
theorem dX0_ruined_58 : decode cX0_ruined 58 = .ok (.getfield 18, 3) := by decide +kernel
theorem dX0_ruined_61 : decode cX0_ruined 61 = .ok (.iload 5, 2) := by decide +kernel
theorem dX0_ruined_63 : decode cX0_ruined 63 = .ok (.iload_n 2, 1) := by decide +kernel
theorem dX0_ruined_64 : decode cX0_ruined 64 = .ok (.invokestatic 57, 3) := by decide +kernel
theorem dX0_ruined_67 : decode cX0_ruined 67 = .ok (.iaload, 1) := by decide +kernel
theorem dX0_ruined_68 : decode cX0_ruined 68 = .ok (.iadd, 1) := by decide +kernel
theorem dX0_ruined_69 : decode cX0_ruined 69 = .ok (.istore 4, 2) := by decide +kernel
theorem dX0_ruined_71 : decode cX0_ruined 71 = .ok (.iinc 5 1, 3) := by decide +kernel
theorem dX0_ruined_74 : decode cX0_ruined 74 = .ok (.goto (-48), 3) := by decide +kernel
theorem dX0_ruined_77 : decode cX0_ruined 77 = .ok (.iconst 2, 1) := by decide +kernel
theorem dX0_ruined_78 : decode cX0_ruined 78 = .ok (.iload 4, 2) := by decide +kernel
theorem dX0_ruined_80 : decode cX0_ruined 80 = .ok (.imul, 1) := by decide +kernel
theorem dX0_ruined_81 : decode cX0_ruined 81 = .ok (.iload_n 3, 1) := by decide +kernel
theorem dX0_ruined_82 : decode cX0_ruined 82 = .ok (.if_icmp .ge 9, 3) := by decide +kernel
theorem dX0_ruined_85 : decode cX0_ruined 85 = .ok (.iload_n 1, 1) := by decide +kernel
theorem dX0_ruined_86 : decode cX0_ruined 86 = .ok (.iconst 1, 1) := by decide +kernel
theorem dX0_ruined_87 : decode cX0_ruined 87 = .ok (.iload_n 2, 1) := by decide +kernel
theorem dX0_ruined_88 : decode cX0_ruined 88 = .ok (.ishl, 1) := by decide +kernel
theorem dX0_ruined_89 : decode cX0_ruined 89 = .ok (.ior, 1) := by decide +kernel
theorem dX0_ruined_90 : decode cX0_ruined 90 = .ok (.istore_n 1, 1) := by decide +kernel
theorem dX0_ruined_91 : decode cX0_ruined 91 = .ok (.iinc 2 1, 3) := by decide +kernel
theorem dX0_ruined_94 : decode cX0_ruined 94 = .ok (.goto (-90), 3) := by decide +kernel
theorem dX0_ruined_97 : decode cX0_ruined 97 = .ok (.iload_n 1, 1) := by decide +kernel
theorem dX0_ruined_98 : decode cX0_ruined 98 = .ok (.ireturn, 1) := by decide +kernel
theorem dX1_init_0 : decode cX1_init 0 = .ok (.aload_n 0, 1) := by decide +kernel
theorem dX1_init_1 : decode cX1_init 1 = .ok (.invokespecial 3, 3) := by decide +kernel
theorem dX1_init_4 : decode cX1_init 4 = .ok (.aload_n 0, 1) := by decide +kernel
theorem dX1_init_5 : decode cX1_init 5 = .ok (.sipush 343, 3) := by decide +kernel
theorem dX1_init_8 : decode cX1_init 8 = .ok (.newarray .int, 2) := by decide +kernel
theorem dX1_init_10 : decode cX1_init 10 = .ok (.putfield 11, 3) := by decide +kernel
theorem dX1_init_13 : decode cX1_init 13 = .ok (.aload_n 0, 1) := by decide +kernel
theorem dX1_init_14 : decode cX1_init 14 = .ok (.sipush 343, 3) := by decide +kernel
theorem dX1_init_17 : decode cX1_init 17 = .ok (.newarray .int, 2) := by decide +kernel
theorem dX1_init_19 : decode cX1_init 19 = .ok (.putfield 15, 3) := by decide +kernel
theorem dX1_init_22 : decode cX1_init 22 = .ok (.aload_n 0, 1) := by decide +kernel
theorem dX1_init_23 : decode cX1_init 23 = .ok (.sipush 343, 3) := by decide +kernel
theorem dX1_init_26 : decode cX1_init 26 = .ok (.newarray .boolean, 2) := by decide +kernel
theorem dX1_init_28 : decode cX1_init 28 = .ok (.putfield 18, 3) := by decide +kernel
theorem dX1_init_31 : decode cX1_init 31 = .ok (.aload_n 0, 1) := by decide +kernel
theorem dX1_init_32 : decode cX1_init 32 = .ok (.aload_n 1, 1) := by decide +kernel
theorem dX1_init_33 : decode cX1_init 33 = .ok (.putfield 22, 3) := by decide +kernel
theorem dX1_init_36 : decode cX1_init 36 = .ok (.aload_n 0, 1) := by decide +kernel
theorem dX1_init_37 : decode cX1_init 37 = .ok (.aload_n 2, 1) := by decide +kernel
theorem dX1_init_38 : decode cX1_init 38 = .ok (.putfield 26, 3) := by decide +kernel
theorem dX1_init_41 : decode cX1_init 41 = .ok (.return_, 1) := by decide +kernel
theorem dX1_forget_0 : decode cX1_forget 0 = .ok (.iconst 0, 1) := by decide +kernel
theorem dX1_forget_1 : decode cX1_forget 1 = .ok (.istore_n 1, 1) := by decide +kernel
theorem dX1_forget_2 : decode cX1_forget 2 = .ok (.iload_n 1, 1) := by decide +kernel
theorem dX1_forget_3 : decode cX1_forget 3 = .ok (.sipush 343, 3) := by decide +kernel
theorem dX1_forget_6 : decode cX1_forget 6 = .ok (.if_icmp .ge 16, 3) := by decide +kernel
theorem dX1_forget_9 : decode cX1_forget 9 = .ok (.aload_n 0, 1) := by decide +kernel
theorem dX1_forget_10 : decode cX1_forget 10 = .ok (.getfield 18, 3) := by decide +kernel
theorem dX1_forget_13 : decode cX1_forget 13 = .ok (.iload_n 1, 1) := by decide +kernel
theorem dX1_forget_14 : decode cX1_forget 14 = .ok (.iconst 0, 1) := by decide +kernel
theorem dX1_forget_15 : decode cX1_forget 15 = .ok (.bastore, 1) := by decide +kernel
theorem dX1_forget_16 : decode cX1_forget 16 = .ok (.iinc 1 1, 3) := by decide +kernel
theorem dX1_forget_19 : decode cX1_forget 19 = .ok (.goto (-17), 3) := by decide +kernel
theorem dX1_forget_22 : decode cX1_forget 22 = .ok (.return_, 1) := by decide +kernel
theorem dX1_total_0 : decode cX1_total 0 = .ok (.iconst 1, 1) := by decide +kernel
theorem dX1_total_1 : decode cX1_total 1 = .ok (.istore_n 1, 1) := by decide +kernel
theorem dX1_total_2 : decode cX1_total 2 = .ok (.iconst 0, 1) := by decide +kernel
theorem dX1_total_3 : decode cX1_total 3 = .ok (.istore_n 2, 1) := by decide +kernel
theorem dX1_total_4 : decode cX1_total 4 = .ok (.iload_n 2, 1) := by decide +kernel
theorem dX1_total_5 : decode cX1_total 5 = .ok (.aload_n 0, 1) := by decide +kernel
theorem dX1_total_6 : decode cX1_total 6 = .ok (.getfield 22, 3) := by decide +kernel
theorem dX1_total_9 : decode cX1_total 9 = .ok (.getfield 30, 3) := by decide +kernel
theorem dX1_total_12 : decode cX1_total 12 = .ok (.getfield 36, 3) := by decide +kernel
theorem dX1_total_15 : decode cX1_total 15 = .ok (.if_icmp .ge 16, 3) := by decide +kernel
theorem dX1_total_18 : decode cX1_total 18 = .ok (.iload_n 1, 1) := by decide +kernel
theorem dX1_total_19 : decode cX1_total 19 = .ok (.aload_n 0, 1) := by decide +kernel
theorem dX1_total_20 : decode cX1_total 20 = .ok (.invokevirtual 42, 3) := by decide +kernel
theorem dX1_total_23 : decode cX1_total 23 = .ok (.imul, 1) := by decide +kernel
theorem dX1_total_24 : decode cX1_total 24 = .ok (.istore_n 1, 1) := by decide +kernel
theorem dX1_total_25 : decode cX1_total 25 = .ok (.iinc 2 1, 3) := by decide +kernel
theorem dX1_total_28 : decode cX1_total 28 = .ok (.goto (-24), 3) := by decide +kernel
theorem dX1_total_31 : decode cX1_total 31 = .ok (.iload_n 1, 1) := by decide +kernel
theorem dX1_total_32 : decode cX1_total 32 = .ok (.ireturn, 1) := by decide +kernel
theorem dX1_choices_0 : decode cX1_choices 0 = .ok (.aload_n 0, 1) := by decide +kernel
theorem dX1_choices_1 : decode cX1_choices 1 = .ok (.getfield 22, 3) := by decide +kernel
theorem dX1_choices_4 : decode cX1_choices 4 = .ok (.getfield 46, 3) := by decide +kernel
theorem dX1_choices_7 : decode cX1_choices 7 = .ok (.getfield 36, 3) := by decide +kernel
theorem dX1_choices_10 : decode cX1_choices 10 = .ok (.iconst 1, 1) := by decide +kernel
theorem dX1_choices_11 : decode cX1_choices 11 = .ok (.iadd, 1) := by decide +kernel
theorem dX1_choices_12 : decode cX1_choices 12 = .ok (.ireturn, 1) := by decide +kernel
theorem dX1_takerIn_0 : decode cX1_takerIn 0 = .ok (.aload_n 0, 1) := by decide +kernel
theorem dX1_takerIn_1 : decode cX1_takerIn 1 = .ok (.invokevirtual 42, 3) := by decide +kernel
theorem dX1_takerIn_4 : decode cX1_takerIn 4 = .ok (.istore_n 3, 1) := by decide +kernel
theorem dX1_takerIn_5 : decode cX1_takerIn 5 = .ok (.iload_n 1, 1) := by decide +kernel
theorem dX1_takerIn_6 : decode cX1_takerIn 6 = .ok (.istore 4, 2) := by decide +kernel
theorem dX1_takerIn_8 : decode cX1_takerIn 8 = .ok (.aload_n 0, 1) := by decide +kernel
theorem dX1_takerIn_9 : decode cX1_takerIn 9 = .ok (.getfield 22, 3) := by decide +kernel
theorem dX1_takerIn_12 : decode cX1_takerIn 12 = .ok (.getfield 30, 3) := by decide +kernel
theorem dX1_takerIn_15 : decode cX1_takerIn 15 = .ok (.getfield 36, 3) := by decide +kernel
theorem dX1_takerIn_18 : decode cX1_takerIn 18 = .ok (.iconst 1, 1) := by decide +kernel
theorem dX1_takerIn_19 : decode cX1_takerIn 19 = .ok (.isub, 1) := by decide +kernel
theorem dX1_takerIn_20 : decode cX1_takerIn 20 = .ok (.istore 5, 2) := by decide +kernel
theorem dX1_takerIn_22 : decode cX1_takerIn 22 = .ok (.iload 5, 2) := by decide +kernel
theorem dX1_takerIn_24 : decode cX1_takerIn 24 = .ok (.iload_n 2, 1) := by decide +kernel
theorem dX1_takerIn_25 : decode cX1_takerIn 25 = .ok (.if_icmp .le 15, 3) := by decide +kernel
theorem dX1_takerIn_28 : decode cX1_takerIn 28 = .ok (.iload 4, 2) := by decide +kernel
theorem dX1_takerIn_30 : decode cX1_takerIn 30 = .ok (.iload_n 3, 1) := by decide +kernel
theorem dX1_takerIn_31 : decode cX1_takerIn 31 = .ok (.idiv, 1) := by decide +kernel
theorem dX1_takerIn_32 : decode cX1_takerIn 32 = .ok (.istore 4, 2) := by decide +kernel
theorem dX1_takerIn_34 : decode cX1_takerIn 34 = .ok (.iinc 5 (-1), 3) := by decide +kernel
theorem dX1_takerIn_37 : decode cX1_takerIn 37 = .ok (.goto (-15), 3) := by decide +kernel
theorem dX1_takerIn_40 : decode cX1_takerIn 40 = .ok (.iload 4, 2) := by decide +kernel
theorem dX1_takerIn_42 : decode cX1_takerIn 42 = .ok (.iload_n 3, 1) := by decide +kernel
theorem dX1_takerIn_43 : decode cX1_takerIn 43 = .ok (.irem, 1) := by decide +kernel
theorem dX1_takerIn_44 : decode cX1_takerIn 44 = .ok (.iconst 1, 1) := by decide +kernel
theorem dX1_takerIn_45 : decode cX1_takerIn 45 = .ok (.isub, 1) := by decide +kernel
theorem dX1_takerIn_46 : decode cX1_takerIn 46 = .ok (.ireturn, 1) := by decide +kernel
theorem dX1_codeNow_0 : decode cX1_codeNow 0 = .ok (.iconst 0, 1) := by decide +kernel
theorem dX1_codeNow_1 : decode cX1_codeNow 1 = .ok (.istore_n 1, 1) := by decide +kernel
theorem dX1_codeNow_2 : decode cX1_codeNow 2 = .ok (.iconst 0, 1) := by decide +kernel
theorem dX1_codeNow_3 : decode cX1_codeNow 3 = .ok (.istore_n 2, 1) := by decide +kernel
theorem dX1_codeNow_4 : decode cX1_codeNow 4 = .ok (.iload_n 2, 1) := by decide +kernel
theorem dX1_codeNow_5 : decode cX1_codeNow 5 = .ok (.aload_n 0, 1) := by decide +kernel
theorem dX1_codeNow_6 : decode cX1_codeNow 6 = .ok (.getfield 22, 3) := by decide +kernel
theorem dX1_codeNow_9 : decode cX1_codeNow 9 = .ok (.getfield 30, 3) := by decide +kernel
theorem dX1_codeNow_12 : decode cX1_codeNow 12 = .ok (.getfield 36, 3) := by decide +kernel
theorem dX1_codeNow_15 : decode cX1_codeNow 15 = .ok (.if_icmp .ge 31, 3) := by decide +kernel
theorem dX1_codeNow_18 : decode cX1_codeNow 18 = .ok (.iload_n 1, 1) := by decide +kernel
theorem dX1_codeNow_19 : decode cX1_codeNow 19 = .ok (.aload_n 0, 1) := by decide +kernel
theorem dX1_codeNow_20 : decode cX1_codeNow 20 = .ok (.invokevirtual 42, 3) := by decide +kernel
theorem dX1_codeNow_23 : decode cX1_codeNow 23 = .ok (.imul, 1) := by decide +kernel
theorem dX1_codeNow_24 : decode cX1_codeNow 24 = .ok (.aload_n 0, 1) := by decide +kernel
theorem dX1_codeNow_25 : decode cX1_codeNow 25 = .ok (.getfield 22, 3) := by decide +kernel
theorem dX1_codeNow_28 : decode cX1_codeNow 28 = .ok (.getfield 30, 3) := by decide +kernel
theorem dX1_codeNow_31 : decode cX1_codeNow 31 = .ok (.iload_n 2, 1) := by decide +kernel
theorem dX1_codeNow_32 : decode cX1_codeNow 32 = .ok (.iconst 3, 1) := by decide +kernel
theorem dX1_codeNow_33 : decode cX1_codeNow 33 = .ok (.invokevirtual 49, 3) := by decide +kernel
theorem dX1_codeNow_36 : decode cX1_codeNow 36 = .ok (.iadd, 1) := by decide +kernel
theorem dX1_codeNow_37 : decode cX1_codeNow 37 = .ok (.iconst 1, 1) := by decide +kernel
theorem dX1_codeNow_38 : decode cX1_codeNow 38 = .ok (.iadd, 1) := by decide +kernel
theorem dX1_codeNow_39 : decode cX1_codeNow 39 = .ok (.istore_n 1, 1) := by decide +kernel
theorem dX1_codeNow_40 : decode cX1_codeNow 40 = .ok (.iinc 2 1, 3) := by decide +kernel
theorem dX1_codeNow_43 : decode cX1_codeNow 43 = .ok (.goto (-39), 3) := by decide +kernel
theorem dX1_codeNow_46 : decode cX1_codeNow 46 = .ok (.iload_n 1, 1) := by decide +kernel
theorem dX1_codeNow_47 : decode cX1_codeNow 47 = .ok (.ireturn, 1) := by decide +kernel
theorem dX1_onlyComing_0 : decode cX1_onlyComing 0 = .ok (.iconst 0, 1) := by decide +kernel
theorem dX1_onlyComing_1 : decode cX1_onlyComing 1 = .ok (.istore_n 3, 1) := by decide +kernel
theorem dX1_onlyComing_2 : decode cX1_onlyComing 2 = .ok (.iconst 0, 1) := by decide +kernel
theorem dX1_onlyComing_3 : decode cX1_onlyComing 3 = .ok (.istore 4, 2) := by decide +kernel
theorem dX1_onlyComing_5 : decode cX1_onlyComing 5 = .ok (.iload 4, 2) := by decide +kernel
theorem dX1_onlyComing_7 : decode cX1_onlyComing 7 = .ok (.aload_n 0, 1) := by decide +kernel
theorem dX1_onlyComing_8 : decode cX1_onlyComing 8 = .ok (.getfield 22, 3) := by decide +kernel
theorem dX1_onlyComing_11 : decode cX1_onlyComing 11 = .ok (.getfield 30, 3) := by decide +kernel
theorem dX1_onlyComing_14 : decode cX1_onlyComing 14 = .ok (.getfield 36, 3) := by decide +kernel
theorem dX1_onlyComing_17 : decode cX1_onlyComing 17 = .ok (.if_icmp .ge 44, 3) := by decide +kernel
theorem dX1_onlyComing_20 : decode cX1_onlyComing 20 = .ok (.iload_n 2, 1) := by decide +kernel
theorem dX1_onlyComing_21 : decode cX1_onlyComing 21 = .ok (.iload 4, 2) := by decide +kernel
theorem dX1_onlyComing_23 : decode cX1_onlyComing 23 = .ok (.ishr, 1) := by decide +kernel
theorem dX1_onlyComing_24 : decode cX1_onlyComing 24 = .ok (.iconst 1, 1) := by decide +kernel
theorem dX1_onlyComing_25 : decode cX1_onlyComing 25 = .ok (.iand, 1) := by decide +kernel
theorem dX1_onlyComing_26 : decode cX1_onlyComing 26 = .ok (.iconst 1, 1) := by decide +kernel
theorem dX1_onlyComing_27 : decode cX1_onlyComing 27 = .ok (.if_icmp .ne 15, 3) := by decide +kernel
theorem dX1_onlyComing_30 : decode cX1_onlyComing 30 = .ok (.aload_n 0, 1) := by decide +kernel
theorem dX1_onlyComing_31 : decode cX1_onlyComing 31 = .ok (.iload_n 1, 1) := by decide +kernel
theorem dX1_onlyComing_32 : decode cX1_onlyComing 32 = .ok (.iload 4, 2) := by decide +kernel
theorem dX1_onlyComing_34 : decode cX1_onlyComing 34 = .ok (.invokevirtual 53, 3) := by decide +kernel
theorem dX1_onlyComing_37 : decode cX1_onlyComing 37 = .ok (.iconst 1, 1) := by decide +kernel
theorem dX1_onlyComing_38 : decode cX1_onlyComing 38 = .ok (.iadd, 1) := by decide +kernel
theorem dX1_onlyComing_39 : decode cX1_onlyComing 39 = .ok (.goto 4, 3) := by decide +kernel
theorem dX1_onlyComing_42 : decode cX1_onlyComing 42 = .ok (.iconst 0, 1) := by decide +kernel
theorem dX1_onlyComing_43 : decode cX1_onlyComing 43 = .ok (.istore 5, 2) := by decide +kernel
theorem dX1_onlyComing_45 : decode cX1_onlyComing 45 = .ok (.iload_n 3, 1) := by decide +kernel
theorem dX1_onlyComing_46 : decode cX1_onlyComing 46 = .ok (.aload_n 0, 1) := by decide +kernel
theorem dX1_onlyComing_47 : decode cX1_onlyComing 47 = .ok (.invokevirtual 42, 3) := by decide +kernel
theorem dX1_onlyComing_50 : decode cX1_onlyComing 50 = .ok (.imul, 1) := by decide +kernel
theorem dX1_onlyComing_51 : decode cX1_onlyComing 51 = .ok (.iload 5, 2) := by decide +kernel
theorem dX1_onlyComing_53 : decode cX1_onlyComing 53 = .ok (.iadd, 1) := by decide +kernel
theorem dX1_onlyComing_54 : decode cX1_onlyComing 54 = .ok (.istore_n 3, 1) := by decide +kernel
theorem dX1_onlyComing_55 : decode cX1_onlyComing 55 = .ok (.iinc 4 1, 3) := by decide +kernel
theorem dX1_onlyComing_58 : decode cX1_onlyComing 58 = .ok (.goto (-53), 3) := by decide +kernel
theorem dX1_onlyComing_61 : decode cX1_onlyComing 61 = .ok (.iload_n 3, 1) := by decide +kernel
theorem dX1_onlyComing_62 : decode cX1_onlyComing 62 = .ok (.ireturn, 1) := by decide +kernel
theorem dX1_lead_0 : decode cX1_lead 0 = .ok (.aload_n 0, 1) := by decide +kernel
theorem dX1_lead_1 : decode cX1_lead 1 = .ok (.getfield 26, 3) := by decide +kernel
theorem dX1_lead_4 : decode cX1_lead 4 = .ok (.invokevirtual 56, 3) := by decide +kernel
theorem dX1_lead_7 : decode cX1_lead 7 = .ok (.iconst 0, 1) := by decide +kernel
theorem dX1_lead_8 : decode cX1_lead 8 = .ok (.istore_n 2, 1) := by decide +kernel
theorem dX1_lead_9 : decode cX1_lead 9 = .ok (.iload_n 2, 1) := by decide +kernel
theorem dX1_lead_10 : decode cX1_lead 10 = .ok (.aload_n 0, 1) := by decide +kernel
theorem dX1_lead_11 : decode cX1_lead 11 = .ok (.getfield 22, 3) := by decide +kernel
theorem dX1_lead_14 : decode cX1_lead 14 = .ok (.getfield 30, 3) := by decide +kernel
theorem dX1_lead_17 : decode cX1_lead 17 = .ok (.getfield 36, 3) := by decide +kernel
theorem dX1_lead_20 : decode cX1_lead 20 = .ok (.if_icmp .ge 24, 3) := by decide +kernel
theorem dX1_lead_23 : decode cX1_lead 23 = .ok (.aload_n 0, 1) := by decide +kernel
theorem dX1_lead_24 : decode cX1_lead 24 = .ok (.getfield 26, 3) := by decide +kernel
theorem dX1_lead_27 : decode cX1_lead 27 = .ok (.getfield 61, 3) := by decide +kernel
theorem dX1_lead_30 : decode cX1_lead 30 = .ok (.iload_n 2, 1) := by decide +kernel
theorem dX1_lead_31 : decode cX1_lead 31 = .ok (.aload_n 0, 1) := by decide +kernel
theorem dX1_lead_32 : decode cX1_lead 32 = .ok (.iload_n 1, 1) := by decide +kernel
theorem dX1_lead_33 : decode cX1_lead 33 = .ok (.iload_n 2, 1) := by decide +kernel
theorem dX1_lead_34 : decode cX1_lead 34 = .ok (.invokevirtual 53, 3) := by decide +kernel
theorem dX1_lead_37 : decode cX1_lead 37 = .ok (.iastore, 1) := by decide +kernel
theorem dX1_lead_38 : decode cX1_lead 38 = .ok (.iinc 2 1, 3) := by decide +kernel
theorem dX1_lead_41 : decode cX1_lead 41 = .ok (.goto (-32), 3) := by decide +kernel
theorem dX1_lead_44 : decode cX1_lead 44 = .ok (.return_, 1) := by decide +kernel
theorem dX1_know_0 : decode cX1_know 0 = .ok (.iload_n 1, 1) := by decide +kernel
theorem dX1_know_1 : decode cX1_know 1 = .ok (.invokestatic 64, 3) := by decide +kernel
theorem dX1_know_4 : decode cX1_know 4 = .ok (.ifCond .eq 60, 3) := by decide +kernel
theorem dX1_know_7 : decode cX1_know 7 = .ok (.aload_n 0, 1) := by decide +kernel
theorem dX1_know_8 : decode cX1_know 8 = .ok (.getfield 18, 3) := by decide +kernel
theorem dX1_know_11 : decode cX1_know 11 = .ok (.iload_n 1, 1) := by decide +kernel
theorem dX1_know_12 : decode cX1_know 12 = .ok (.baload, 1) := by decide +kernel
theorem dX1_know_13 : decode cX1_know 13 = .ok (.ifCond .ne 51, 3) := by decide +kernel
theorem dX1_know_16 : decode cX1_know 16 = .ok (.aload_n 0, 1) := by decide +kernel
theorem dX1_know_17 : decode cX1_know 17 = .ok (.iload_n 1, 1) := by decide +kernel
theorem dX1_know_18 : decode cX1_know 18 = .ok (.invokevirtual 68, 3) := by decide +kernel
theorem dX1_know_21 : decode cX1_know 21 = .ok (.aload_n 0, 1) := by decide +kernel
theorem dX1_know_22 : decode cX1_know 22 = .ok (.getfield 26, 3) := by decide +kernel
theorem dX1_know_25 : decode cX1_know 25 = .ok (.invokevirtual 72, 3) := by decide +kernel
theorem dX1_know_28 : decode cX1_know 28 = .ok (.aload_n 0, 1) := by decide +kernel
theorem dX1_know_29 : decode cX1_know 29 = .ok (.getfield 11, 3) := by decide +kernel
theorem dX1_know_32 : decode cX1_know 32 = .ok (.iload_n 1, 1) := by decide +kernel
theorem dX1_know_33 : decode cX1_know 33 = .ok (.aload_n 0, 1) := by decide +kernel
theorem dX1_know_34 : decode cX1_know 34 = .ok (.getfield 26, 3) := by decide +kernel
theorem dX1_know_37 : decode cX1_know 37 = .ok (.getfield 75, 3) := by decide +kernel
theorem dX1_know_40 : decode cX1_know 40 = .ok (.invokestatic 78, 3) := by decide +kernel
theorem dX1_know_43 : decode cX1_know 43 = .ok (.iastore, 1) := by decide +kernel
theorem dX1_know_44 : decode cX1_know 44 = .ok (.aload_n 0, 1) := by decide +kernel
theorem dX1_know_45 : decode cX1_know 45 = .ok (.getfield 15, 3) := by decide +kernel
theorem dX1_know_48 : decode cX1_know 48 = .ok (.iload_n 1, 1) := by decide +kernel
theorem dX1_know_49 : decode cX1_know 49 = .ok (.aload_n 0, 1) := by decide +kernel
theorem dX1_know_50 : decode cX1_know 50 = .ok (.getfield 26, 3) := by decide +kernel
theorem dX1_know_53 : decode cX1_know 53 = .ok (.invokevirtual 82, 3) := by decide +kernel
theorem dX1_know_56 : decode cX1_know 56 = .ok (.iastore, 1) := by decide +kernel
theorem dX1_know_57 : decode cX1_know 57 = .ok (.aload_n 0, 1) := by decide +kernel
theorem dX1_know_58 : decode cX1_know 58 = .ok (.getfield 18, 3) := by decide +kernel
theorem dX1_know_61 : decode cX1_know 61 = .ok (.iload_n 1, 1) := by decide +kernel
theorem dX1_know_62 : decode cX1_know 62 = .ok (.iconst 1, 1) := by decide +kernel
theorem dX1_know_63 : decode cX1_know 63 = .ok (.bastore, 1) := by decide +kernel
theorem dX1_know_64 : decode cX1_know 64 = .ok (.return_, 1) := by decide +kernel
theorem dX1_knowAll_0 : decode cX1_knowAll 0 = .ok (.aload_n 0, 1) := by decide +kernel
theorem dX1_knowAll_1 : decode cX1_knowAll 1 = .ok (.invokevirtual 85, 3) := by decide +kernel
theorem dX1_knowAll_4 : decode cX1_knowAll 4 = .ok (.istore_n 1, 1) := by decide +kernel
theorem dX1_knowAll_5 : decode cX1_knowAll 5 = .ok (.iconst 0, 1) := by decide +kernel
theorem dX1_knowAll_6 : decode cX1_knowAll 6 = .ok (.istore_n 2, 1) := by decide +kernel
theorem dX1_knowAll_7 : decode cX1_knowAll 7 = .ok (.iload_n 2, 1) := by decide +kernel
theorem dX1_knowAll_8 : decode cX1_knowAll 8 = .ok (.iload_n 1, 1) := by decide +kernel
theorem dX1_knowAll_9 : decode cX1_knowAll 9 = .ok (.if_icmp .ge 14, 3) := by decide +kernel
theorem dX1_knowAll_12 : decode cX1_knowAll 12 = .ok (.aload_n 0, 1) := by decide +kernel
theorem dX1_knowAll_13 : decode cX1_knowAll 13 = .ok (.iload_n 2, 1) := by decide +kernel
theorem dX1_knowAll_14 : decode cX1_knowAll 14 = .ok (.invokevirtual 88, 3) := by decide +kernel
theorem dX1_knowAll_17 : decode cX1_knowAll 17 = .ok (.iinc 2 1, 3) := by decide +kernel
theorem dX1_knowAll_20 : decode cX1_knowAll 20 = .ok (.goto (-13), 3) := by decide +kernel
theorem dX1_knowAll_23 : decode cX1_knowAll 23 = .ok (.return_, 1) := by decide +kernel
theorem dX1_knowWays_0 : decode cX1_knowWays 0 = .ok (.iconst 1, 1) := by decide +kernel
theorem dX1_knowWays_1 : decode cX1_knowWays 1 = .ok (.aload_n 0, 1) := by decide +kernel
theorem dX1_knowWays_2 : decode cX1_knowWays 2 = .ok (.getfield 22, 3) := by decide +kernel
theorem dX1_knowWays_5 : decode cX1_knowWays 5 = .ok (.getfield 30, 3) := by decide +kernel
theorem dX1_knowWays_8 : decode cX1_knowWays 8 = .ok (.getfield 36, 3) := by decide +kernel
theorem dX1_knowWays_11 : decode cX1_knowWays 11 = .ok (.ishl, 1) := by decide +kernel
theorem dX1_knowWays_12 : decode cX1_knowWays 12 = .ok (.istore_n 2, 1) := by decide +kernel
theorem dX1_knowWays_13 : decode cX1_knowWays 13 = .ok (.iconst 0, 1) := by decide +kernel
theorem dX1_knowWays_14 : decode cX1_knowWays 14 = .ok (.istore_n 3, 1) := by decide +kernel
theorem dX1_knowWays_15 : decode cX1_knowWays 15 = .ok (.iload_n 3, 1) := by decide +kernel
theorem dX1_knowWays_16 : decode cX1_knowWays 16 = .ok (.iload_n 2, 1) := by decide +kernel
theorem dX1_knowWays_17 : decode cX1_knowWays 17 = .ok (.if_icmp .ge 19, 3) := by decide +kernel
theorem dX1_knowWays_20 : decode cX1_knowWays 20 = .ok (.aload_n 0, 1) := by decide +kernel
theorem dX1_knowWays_21 : decode cX1_knowWays 21 = .ok (.aload_n 0, 1) := by decide +kernel
theorem dX1_knowWays_22 : decode cX1_knowWays 22 = .ok (.iload_n 1, 1) := by decide +kernel
theorem dX1_knowWays_23 : decode cX1_knowWays 23 = .ok (.iload_n 3, 1) := by decide +kernel
theorem dX1_knowWays_24 : decode cX1_knowWays 24 = .ok (.invokevirtual 91, 3) := by decide +kernel
theorem dX1_knowWays_27 : decode cX1_knowWays 27 = .ok (.invokevirtual 88, 3) := by decide +kernel
theorem dX1_knowWays_30 : decode cX1_knowWays 30 = .ok (.iinc 3 1, 3) := by decide +kernel
theorem dX1_knowWays_33 : decode cX1_knowWays 33 = .ok (.goto (-18), 3) := by decide +kernel
theorem dX1_knowWays_36 : decode cX1_knowWays 36 = .ok (.return_, 1) := by decide +kernel
theorem dX1_isCode_0 : decode cX1_isCode 0 = .ok (.iload_n 0, 1) := by decide +kernel
theorem dX1_isCode_1 : decode cX1_isCode 1 = .ok (.ifCond .lt 14, 3) := by decide +kernel
theorem dX1_isCode_4 : decode cX1_isCode 4 = .ok (.iload_n 0, 1) := by decide +kernel
theorem dX1_isCode_5 : decode cX1_isCode 5 = .ok (.sipush 343, 3) := by decide +kernel
theorem dX1_isCode_8 : decode cX1_isCode 8 = .ok (.if_icmp .ge 7, 3) := by decide +kernel
theorem dX1_isCode_11 : decode cX1_isCode 11 = .ok (.iconst 1, 1) := by decide +kernel
theorem dX1_isCode_12 : decode cX1_isCode 12 = .ok (.goto 4, 3) := by decide +kernel
theorem dX1_isCode_15 : decode cX1_isCode 15 = .ok (.iconst 0, 1) := by decide +kernel
theorem dX1_isCode_16 : decode cX1_isCode 16 = .ok (.ireturn, 1) := by decide +kernel
theorem dX1_broughtBy_0 : decode cX1_broughtBy 0 = .ok (.iload_n 1, 1) := by decide +kernel
theorem dX1_broughtBy_1 : decode cX1_broughtBy 1 = .ok (.invokestatic 64, 3) := by decide +kernel
theorem dX1_broughtBy_4 : decode cX1_broughtBy 4 = .ok (.ifCond .eq 12, 3) := by decide +kernel
theorem dX1_broughtBy_7 : decode cX1_broughtBy 7 = .ok (.aload_n 0, 1) := by decide +kernel
theorem dX1_broughtBy_8 : decode cX1_broughtBy 8 = .ok (.getfield 11, 3) := by decide +kernel
theorem dX1_broughtBy_11 : decode cX1_broughtBy 11 = .ok (.iload_n 1, 1) := by decide +kernel
theorem dX1_broughtBy_12 : decode cX1_broughtBy 12 = .ok (.iaload, 1) := by decide +kernel
theorem dX1_broughtBy_13 : decode cX1_broughtBy 13 = .ok (.goto 4, 3) := by decide +kernel
theorem dX1_broughtBy_16 : decode cX1_broughtBy 16 = .ok (.iconst 0, 1) := by decide +kernel
theorem dX1_broughtBy_17 : decode cX1_broughtBy 17 = .ok (.ireturn, 1) := by decide +kernel
theorem dX1_shortBy_0 : decode cX1_shortBy 0 = .ok (.iload_n 1, 1) := by decide +kernel
theorem dX1_shortBy_1 : decode cX1_shortBy 1 = .ok (.invokestatic 64, 3) := by decide +kernel
theorem dX1_shortBy_4 : decode cX1_shortBy 4 = .ok (.ifCond .eq 12, 3) := by decide +kernel
theorem dX1_shortBy_7 : decode cX1_shortBy 7 = .ok (.aload_n 0, 1) := by decide +kernel
theorem dX1_shortBy_8 : decode cX1_shortBy 8 = .ok (.getfield 15, 3) := by decide +kernel
theorem dX1_shortBy_11 : decode cX1_shortBy 11 = .ok (.iload_n 1, 1) := by decide +kernel
theorem dX1_shortBy_12 : decode cX1_shortBy 12 = .ok (.iaload, 1) := by decide +kernel
theorem dX1_shortBy_13 : decode cX1_shortBy 13 = .ok (.goto 4, 3) := by decide +kernel
theorem dX1_shortBy_16 : decode cX1_shortBy 16 = .ok (.iconst 0, 1) := by decide +kernel
theorem dX1_shortBy_17 : decode cX1_shortBy 17 = .ok (.ireturn, 1) := by decide +kernel
theorem dX1_safeCodes_0 : decode cX1_safeCodes 0 = .ok (.iconst 0, 1) := by decide +kernel
theorem dX1_safeCodes_1 : decode cX1_safeCodes 1 = .ok (.istore_n 1, 1) := by decide +kernel
theorem dX1_safeCodes_2 : decode cX1_safeCodes 2 = .ok (.aload_n 0, 1) := by decide +kernel
theorem dX1_safeCodes_3 : decode cX1_safeCodes 3 = .ok (.invokevirtual 85, 3) := by decide +kernel
theorem dX1_safeCodes_6 : decode cX1_safeCodes 6 = .ok (.istore_n 2, 1) := by decide +kernel
theorem dX1_safeCodes_7 : decode cX1_safeCodes 7 = .ok (.iconst 0, 1) := by decide +kernel
theorem dX1_safeCodes_8 : decode cX1_safeCodes 8 = .ok (.istore_n 3, 1) := by decide +kernel
theorem dX1_safeCodes_9 : decode cX1_safeCodes 9 = .ok (.iload_n 3, 1) := by decide +kernel
theorem dX1_safeCodes_10 : decode cX1_safeCodes 10 = .ok (.iload_n 2, 1) := by decide +kernel
theorem dX1_safeCodes_11 : decode cX1_safeCodes 11 = .ok (.if_icmp .ge 20, 3) := by decide +kernel
theorem dX1_safeCodes_14 : decode cX1_safeCodes 14 = .ok (.aload_n 0, 1) := by decide +kernel
theorem dX1_safeCodes_15 : decode cX1_safeCodes 15 = .ok (.iload_n 3, 1) := by decide +kernel
theorem dX1_safeCodes_16 : decode cX1_safeCodes 16 = .ok (.invokevirtual 94, 3) := by decide +kernel
theorem dX1_safeCodes_19 : decode cX1_safeCodes 19 = .ok (.ifCond .ne 6, 3) := by decide +kernel
theorem dX1_safeCodes_22 : decode cX1_safeCodes 22 = .ok (.iinc 1 1, 3) := by decide +kernel
theorem dX1_safeCodes_25 : decode cX1_safeCodes 25 = .ok (.iinc 3 1, 3) := by decide +kernel
theorem dX1_safeCodes_28 : decode cX1_safeCodes 28 = .ok (.goto (-19), 3) := by decide +kernel
theorem dX1_safeCodes_31 : decode cX1_safeCodes 31 = .ok (.iload_n 1, 1) := by decide +kernel
theorem dX1_safeCodes_32 : decode cX1_safeCodes 32 = .ok (.ireturn, 1) := by decide +kernel
theorem dX1_bestCode_0 : decode cX1_bestCode 0 = .ok (.iconst (-1), 1) := by decide +kernel
theorem dX1_bestCode_1 : decode cX1_bestCode 1 = .ok (.istore_n 1, 1) := by decide +kernel
theorem dX1_bestCode_2 : decode cX1_bestCode 2 = .ok (.aload_n 0, 1) := by decide +kernel
theorem dX1_bestCode_3 : decode cX1_bestCode 3 = .ok (.invokevirtual 85, 3) := by decide +kernel
theorem dX1_bestCode_6 : decode cX1_bestCode 6 = .ok (.istore_n 2, 1) := by decide +kernel
theorem dX1_bestCode_7 : decode cX1_bestCode 7 = .ok (.iconst 0, 1) := by decide +kernel
theorem dX1_bestCode_8 : decode cX1_bestCode 8 = .ok (.istore_n 3, 1) := by decide +kernel
theorem dX1_bestCode_9 : decode cX1_bestCode 9 = .ok (.iload_n 3, 1) := by decide +kernel
theorem dX1_bestCode_10 : decode cX1_bestCode 10 = .ok (.iload_n 2, 1) := by decide +kernel
theorem dX1_bestCode_11 : decode cX1_bestCode 11 = .ok (.if_icmp .ge 37, 3) := by decide +kernel
theorem dX1_bestCode_14 : decode cX1_bestCode 14 = .ok (.aload_n 0, 1) := by decide +kernel
theorem dX1_bestCode_15 : decode cX1_bestCode 15 = .ok (.iload_n 3, 1) := by decide +kernel
theorem dX1_bestCode_16 : decode cX1_bestCode 16 = .ok (.invokevirtual 94, 3) := by decide +kernel
theorem dX1_bestCode_19 : decode cX1_bestCode 19 = .ok (.ifCond .ne 23, 3) := by decide +kernel
theorem dX1_bestCode_22 : decode cX1_bestCode 22 = .ok (.iload_n 1, 1) := by decide +kernel
theorem dX1_bestCode_23 : decode cX1_bestCode 23 = .ok (.iconst (-1), 1) := by decide +kernel
theorem dX1_bestCode_24 : decode cX1_bestCode 24 = .ok (.if_icmp .eq 16, 3) := by decide +kernel
theorem dX1_bestCode_27 : decode cX1_bestCode 27 = .ok (.aload_n 0, 1) := by decide +kernel
theorem dX1_bestCode_28 : decode cX1_bestCode 28 = .ok (.iload_n 3, 1) := by decide +kernel
theorem dX1_bestCode_29 : decode cX1_bestCode 29 = .ok (.invokevirtual 98, 3) := by decide +kernel
theorem dX1_bestCode_32 : decode cX1_bestCode 32 = .ok (.aload_n 0, 1) := by decide +kernel
theorem dX1_bestCode_33 : decode cX1_bestCode 33 = .ok (.iload_n 1, 1) := by decide +kernel
theorem dX1_bestCode_34 : decode cX1_bestCode 34 = .ok (.invokevirtual 98, 3) := by decide +kernel
theorem dX1_bestCode_37 : decode cX1_bestCode 37 = .ok (.if_icmp .le 5, 3) := by decide +kernel
theorem dX1_bestCode_40 : decode cX1_bestCode 40 = .ok (.iload_n 3, 1) := by decide +kernel
theorem dX1_bestCode_41 : decode cX1_bestCode 41 = .ok (.istore_n 1, 1) := by decide +kernel
theorem dX1_bestCode_42 : decode cX1_bestCode 42 = .ok (.iinc 3 1, 3) := by decide +kernel
theorem dX1_bestCode_45 : decode cX1_bestCode 45 = .ok (.goto (-36), 3) := by decide +kernel
theorem dX1_bestCode_48 : decode cX1_bestCode 48 = .ok (.iload_n 1, 1) := by decide +kernel
theorem dX1_bestCode_49 : decode cX1_bestCode 49 = .ok (.ireturn, 1) := by decide +kernel
theorem dX1_wiseCode_0 : decode cX1_wiseCode 0 = .ok (.iconst 0, 1) := by decide +kernel
theorem dX1_wiseCode_1 : decode cX1_wiseCode 1 = .ok (.istore_n 1, 1) := by decide +kernel
theorem dX1_wiseCode_2 : decode cX1_wiseCode 2 = .ok (.aload_n 0, 1) := by decide +kernel
theorem dX1_wiseCode_3 : decode cX1_wiseCode 3 = .ok (.iconst 0, 1) := by decide +kernel
theorem dX1_wiseCode_4 : decode cX1_wiseCode 4 = .ok (.invokevirtual 101, 3) := by decide +kernel
theorem dX1_wiseCode_7 : decode cX1_wiseCode 7 = .ok (.lstore_n 2, 1) := by decide +kernel
theorem dX1_wiseCode_8 : decode cX1_wiseCode 8 = .ok (.aload_n 0, 1) := by decide +kernel
theorem dX1_wiseCode_9 : decode cX1_wiseCode 9 = .ok (.invokevirtual 85, 3) := by decide +kernel
theorem dX1_wiseCode_12 : decode cX1_wiseCode 12 = .ok (.istore 4, 2) := by decide +kernel
theorem dX1_wiseCode_14 : decode cX1_wiseCode 14 = .ok (.iconst 1, 1) := by decide +kernel
theorem dX1_wiseCode_15 : decode cX1_wiseCode 15 = .ok (.istore 5, 2) := by decide +kernel
theorem dX1_wiseCode_17 : decode cX1_wiseCode 17 = .ok (.iload 5, 2) := by decide +kernel
theorem dX1_wiseCode_19 : decode cX1_wiseCode 19 = .ok (.iload 4, 2) := by decide +kernel
theorem dX1_wiseCode_21 : decode cX1_wiseCode 21 = .ok (.if_icmp .ge 30, 3) := by decide +kernel
theorem dX1_wiseCode_24 : decode cX1_wiseCode 24 = .ok (.aload_n 0, 1) := by decide +kernel
theorem dX1_wiseCode_25 : decode cX1_wiseCode 25 = .ok (.iload 5, 2) := by decide +kernel
theorem dX1_wiseCode_27 : decode cX1_wiseCode 27 = .ok (.invokevirtual 101, 3) := by decide +kernel
theorem dX1_wiseCode_30 : decode cX1_wiseCode 30 = .ok (.lstore 6, 2) := by decide +kernel
theorem dX1_wiseCode_32 : decode cX1_wiseCode 32 = .ok (.lload 6, 2) := by decide +kernel
theorem dX1_wiseCode_34 : decode cX1_wiseCode 34 = .ok (.lload_n 2, 1) := by decide +kernel
theorem dX1_wiseCode_35 : decode cX1_wiseCode 35 = .ok (.lcmp, 1) := by decide +kernel
theorem dX1_wiseCode_36 : decode cX1_wiseCode 36 = .ok (.ifCond .le 9, 3) := by decide +kernel
theorem dX1_wiseCode_39 : decode cX1_wiseCode 39 = .ok (.lload 6, 2) := by decide +kernel
theorem dX1_wiseCode_41 : decode cX1_wiseCode 41 = .ok (.lstore_n 2, 1) := by decide +kernel
theorem dX1_wiseCode_42 : decode cX1_wiseCode 42 = .ok (.iload 5, 2) := by decide +kernel
theorem dX1_wiseCode_44 : decode cX1_wiseCode 44 = .ok (.istore_n 1, 1) := by decide +kernel
theorem dX1_wiseCode_45 : decode cX1_wiseCode 45 = .ok (.iinc 5 1, 3) := by decide +kernel
theorem dX1_wiseCode_48 : decode cX1_wiseCode 48 = .ok (.goto (-31), 3) := by decide +kernel
theorem dX1_wiseCode_51 : decode cX1_wiseCode 51 = .ok (.iload_n 1, 1) := by decide +kernel
theorem dX1_wiseCode_52 : decode cX1_wiseCode 52 = .ok (.ireturn, 1) := by decide +kernel
theorem dX1_hopeAbove_0 : decode cX1_hopeAbove 0 = .ok (.lconst 0, 1) := by decide +kernel
theorem dX1_hopeAbove_1 : decode cX1_hopeAbove 1 = .ok (.lstore_n 2, 1) := by decide +kernel
theorem dX1_hopeAbove_2 : decode cX1_hopeAbove 2 = .ok (.iconst 1, 1) := by decide +kernel
theorem dX1_hopeAbove_3 : decode cX1_hopeAbove 3 = .ok (.aload_n 0, 1) := by decide +kernel
theorem dX1_hopeAbove_4 : decode cX1_hopeAbove 4 = .ok (.getfield 22, 3) := by decide +kernel
theorem dX1_hopeAbove_7 : decode cX1_hopeAbove 7 = .ok (.getfield 30, 3) := by decide +kernel
theorem dX1_hopeAbove_10 : decode cX1_hopeAbove 10 = .ok (.getfield 36, 3) := by decide +kernel
theorem dX1_hopeAbove_13 : decode cX1_hopeAbove 13 = .ok (.ishl, 1) := by decide +kernel
theorem dX1_hopeAbove_14 : decode cX1_hopeAbove 14 = .ok (.istore 4, 2) := by decide +kernel
theorem dX1_hopeAbove_16 : decode cX1_hopeAbove 16 = .ok (.iconst 0, 1) := by decide +kernel
theorem dX1_hopeAbove_17 : decode cX1_hopeAbove 17 = .ok (.istore 5, 2) := by decide +kernel
theorem dX1_hopeAbove_19 : decode cX1_hopeAbove 19 = .ok (.iload 5, 2) := by decide +kernel
theorem dX1_hopeAbove_21 : decode cX1_hopeAbove 21 = .ok (.iload 4, 2) := by decide +kernel
theorem dX1_hopeAbove_23 : decode cX1_hopeAbove 23 = .ok (.if_icmp .ge 42, 3) := by decide +kernel
theorem dX1_hopeAbove_26 : decode cX1_hopeAbove 26 = .ok (.aload_n 0, 1) := by decide +kernel
theorem dX1_hopeAbove_27 : decode cX1_hopeAbove 27 = .ok (.iload_n 1, 1) := by decide +kernel
theorem dX1_hopeAbove_28 : decode cX1_hopeAbove 28 = .ok (.iload 5, 2) := by decide +kernel
theorem dX1_hopeAbove_30 : decode cX1_hopeAbove 30 = .ok (.invokevirtual 91, 3) := by decide +kernel
theorem dX1_hopeAbove_33 : decode cX1_hopeAbove 33 = .ok (.istore 6, 2) := by decide +kernel
theorem dX1_hopeAbove_35 : decode cX1_hopeAbove 35 = .ok (.lload_n 2, 1) := by decide +kernel
theorem dX1_hopeAbove_36 : decode cX1_hopeAbove 36 = .ok (.aload_n 0, 1) := by decide +kernel
theorem dX1_hopeAbove_37 : decode cX1_hopeAbove 37 = .ok (.iload 5, 2) := by decide +kernel
theorem dX1_hopeAbove_39 : decode cX1_hopeAbove 39 = .ok (.invokevirtual 105, 3) := by decide +kernel
theorem dX1_hopeAbove_42 : decode cX1_hopeAbove 42 = .ok (.aload_n 0, 1) := by decide +kernel
theorem dX1_hopeAbove_43 : decode cX1_hopeAbove 43 = .ok (.iload 6, 2) := by decide +kernel
theorem dX1_hopeAbove_45 : decode cX1_hopeAbove 45 = .ok (.invokevirtual 98, 3) := by decide +kernel
theorem dX1_hopeAbove_48 : decode cX1_hopeAbove 48 = .ok (.aload_n 0, 1) := by decide +kernel
theorem dX1_hopeAbove_49 : decode cX1_hopeAbove 49 = .ok (.iload 6, 2) := by decide +kernel
theorem dX1_hopeAbove_51 : decode cX1_hopeAbove 51 = .ok (.invokevirtual 94, 3) := by decide +kernel
theorem dX1_hopeAbove_54 : decode cX1_hopeAbove 54 = .ok (.isub, 1) := by decide +kernel
theorem dX1_hopeAbove_55 : decode cX1_hopeAbove 55 = .ok (.i2l, 1) := by decide +kernel
theorem dX1_hopeAbove_56 : decode cX1_hopeAbove 56 = .ok (.lmul, 1) := by decide +kernel
theorem dX1_hopeAbove_57 : decode cX1_hopeAbove 57 = .ok (.ladd, 1) := by decide +kernel
theorem dX1_hopeAbove_58 : decode cX1_hopeAbove 58 = .ok (.lstore_n 2, 1) := by decide +kernel
theorem dX1_hopeAbove_59 : decode cX1_hopeAbove 59 = .ok (.iinc 5 1, 3) := by decide +kernel
theorem dX1_hopeAbove_62 : decode cX1_hopeAbove 62 = .ok (.goto (-43), 3) := by decide +kernel
theorem dX1_hopeAbove_65 : decode cX1_hopeAbove 65 = .ok (.lload_n 2, 1) := by decide +kernel
theorem dX1_hopeAbove_66 : decode cX1_hopeAbove 66 = .ok (.lreturn, 1) := by decide +kernel
theorem dX1_hopeBelow_0 : decode cX1_hopeBelow 0 = .ok (.lconst 1, 1) := by decide +kernel
theorem dX1_hopeBelow_1 : decode cX1_hopeBelow 1 = .ok (.lstore_n 1, 1) := by decide +kernel
theorem dX1_hopeBelow_2 : decode cX1_hopeBelow 2 = .ok (.iconst 0, 1) := by decide +kernel
theorem dX1_hopeBelow_3 : decode cX1_hopeBelow 3 = .ok (.istore_n 3, 1) := by decide +kernel
theorem dX1_hopeBelow_4 : decode cX1_hopeBelow 4 = .ok (.iload_n 3, 1) := by decide +kernel
theorem dX1_hopeBelow_5 : decode cX1_hopeBelow 5 = .ok (.aload_n 0, 1) := by decide +kernel
theorem dX1_hopeBelow_6 : decode cX1_hopeBelow 6 = .ok (.getfield 22, 3) := by decide +kernel
theorem dX1_hopeBelow_9 : decode cX1_hopeBelow 9 = .ok (.getfield 30, 3) := by decide +kernel
theorem dX1_hopeBelow_12 : decode cX1_hopeBelow 12 = .ok (.getfield 36, 3) := by decide +kernel
theorem dX1_hopeBelow_15 : decode cX1_hopeBelow 15 = .ok (.if_icmp .ge 15, 3) := by decide +kernel
theorem dX1_hopeBelow_18 : decode cX1_hopeBelow 18 = .ok (.lload_n 1, 1) := by decide +kernel
theorem dX1_hopeBelow_19 : decode cX1_hopeBelow 19 = .ok (.ldc2_w 108, 3) := by decide +kernel
theorem dX1_hopeBelow_22 : decode cX1_hopeBelow 22 = .ok (.lmul, 1) := by decide +kernel
theorem dX1_hopeBelow_23 : decode cX1_hopeBelow 23 = .ok (.lstore_n 1, 1) := by decide +kernel
theorem dX1_hopeBelow_24 : decode cX1_hopeBelow 24 = .ok (.iinc 3 1, 3) := by decide +kernel
theorem dX1_hopeBelow_27 : decode cX1_hopeBelow 27 = .ok (.goto (-23), 3) := by decide +kernel
theorem dX1_hopeBelow_30 : decode cX1_hopeBelow 30 = .ok (.lload_n 1, 1) := by decide +kernel
theorem dX1_hopeBelow_31 : decode cX1_hopeBelow 31 = .ok (.lreturn, 1) := by decide +kernel
theorem dX1_chance_0 : decode cX1_chance 0 = .ok (.lconst 1, 1) := by decide +kernel
theorem dX1_chance_1 : decode cX1_chance 1 = .ok (.lstore_n 2, 1) := by decide +kernel
theorem dX1_chance_2 : decode cX1_chance 2 = .ok (.iconst 0, 1) := by decide +kernel
theorem dX1_chance_3 : decode cX1_chance 3 = .ok (.istore 4, 2) := by decide +kernel
theorem dX1_chance_5 : decode cX1_chance 5 = .ok (.iload 4, 2) := by decide +kernel
theorem dX1_chance_7 : decode cX1_chance 7 = .ok (.aload_n 0, 1) := by decide +kernel
theorem dX1_chance_8 : decode cX1_chance 8 = .ok (.getfield 22, 3) := by decide +kernel
theorem dX1_chance_11 : decode cX1_chance 11 = .ok (.getfield 30, 3) := by decide +kernel
theorem dX1_chance_14 : decode cX1_chance 14 = .ok (.getfield 36, 3) := by decide +kernel
theorem dX1_chance_17 : decode cX1_chance 17 = .ok (.if_icmp .ge 49, 3) := by decide +kernel
theorem dX1_chance_20 : decode cX1_chance 20 = .ok (.aload_n 0, 1) := by decide +kernel
theorem dX1_chance_21 : decode cX1_chance 21 = .ok (.getfield 22, 3) := by decide +kernel
theorem dX1_chance_24 : decode cX1_chance 24 = .ok (.getfield 30, 3) := by decide +kernel
theorem dX1_chance_27 : decode cX1_chance 27 = .ok (.iload 4, 2) := by decide +kernel
theorem dX1_chance_29 : decode cX1_chance 29 = .ok (.iconst 2, 1) := by decide +kernel
theorem dX1_chance_30 : decode cX1_chance 30 = .ok (.invokevirtual 49, 3) := by decide +kernel
theorem dX1_chance_33 : decode cX1_chance 33 = .ok (.istore 5, 2) := by decide +kernel
theorem dX1_chance_35 : decode cX1_chance 35 = .ok (.lload_n 2, 1) := by decide +kernel
theorem dX1_chance_36 : decode cX1_chance 36 = .ok (.iload_n 1, 1) := by decide +kernel
theorem dX1_chance_37 : decode cX1_chance 37 = .ok (.iload 4, 2) := by decide +kernel
theorem dX1_chance_39 : decode cX1_chance 39 = .ok (.ishr, 1) := by decide +kernel
theorem dX1_chance_40 : decode cX1_chance 40 = .ok (.iconst 1, 1) := by decide +kernel
theorem dX1_chance_41 : decode cX1_chance 41 = .ok (.iand, 1) := by decide +kernel
theorem dX1_chance_42 : decode cX1_chance 42 = .ok (.iconst 1, 1) := by decide +kernel
theorem dX1_chance_43 : decode cX1_chance 43 = .ok (.if_icmp .ne 9, 3) := by decide +kernel
theorem dX1_chance_46 : decode cX1_chance 46 = .ok (.iload 5, 2) := by decide +kernel
theorem dX1_chance_48 : decode cX1_chance 48 = .ok (.i2l, 1) := by decide +kernel
theorem dX1_chance_49 : decode cX1_chance 49 = .ok (.goto 9, 3) := by decide +kernel
theorem dX1_chance_52 : decode cX1_chance 52 = .ok (.bipush 100, 2) := by decide +kernel
theorem dX1_chance_54 : decode cX1_chance 54 = .ok (.iload 5, 2) := by decide +kernel
theorem dX1_chance_56 : decode cX1_chance 56 = .ok (.isub, 1) := by decide +kernel
theorem dX1_chance_57 : decode cX1_chance 57 = .ok (.i2l, 1) := by decide +kernel
theorem dX1_chance_58 : decode cX1_chance 58 = .ok (.lmul, 1) := by decide +kernel
theorem dX1_chance_59 : decode cX1_chance 59 = .ok (.lstore_n 2, 1) := by decide +kernel
theorem dX1_chance_60 : decode cX1_chance 60 = .ok (.iinc 4 1, 3) := by decide +kernel
theorem dX1_chance_63 : decode cX1_chance 63 = .ok (.goto (-58), 3) := by decide +kernel
theorem dX1_chance_66 : decode cX1_chance 66 = .ok (.lload_n 2, 1) := by decide +kernel
theorem dX1_chance_67 : decode cX1_chance 67 = .ok (.lreturn, 1) := by decide +kernel
theorem dX2_init_0 : decode cX2_init 0 = .ok (.aload_n 0, 1) := by decide +kernel
theorem dX2_init_1 : decode cX2_init 1 = .ok (.invokespecial 3, 3) := by decide +kernel
theorem dX2_init_4 : decode cX2_init 4 = .ok (.aload_n 0, 1) := by decide +kernel
theorem dX2_init_5 : decode cX2_init 5 = .ok (.new 9, 3) := by decide +kernel
theorem dX2_init_8 : decode cX2_init 8 = .ok (.dup, 1) := by decide +kernel
theorem dX2_init_9 : decode cX2_init 9 = .ok (.bipush 6, 2) := by decide +kernel
theorem dX2_init_11 : decode cX2_init 11 = .ok (.iconst 5, 1) := by decide +kernel
theorem dX2_init_12 : decode cX2_init 12 = .ok (.invokespecial 11, 3) := by decide +kernel
theorem dX2_init_15 : decode cX2_init 15 = .ok (.putfield 14, 3) := by decide +kernel
theorem dX2_init_18 : decode cX2_init 18 = .ok (.aload_n 0, 1) := by decide +kernel
theorem dX2_init_19 : decode cX2_init 19 = .ok (.new 9, 3) := by decide +kernel
theorem dX2_init_22 : decode cX2_init 22 = .ok (.dup, 1) := by decide +kernel
theorem dX2_init_23 : decode cX2_init 23 = .ok (.bipush 8, 2) := by decide +kernel
theorem dX2_init_25 : decode cX2_init 25 = .ok (.iconst 5, 1) := by decide +kernel
theorem dX2_init_26 : decode cX2_init 26 = .ok (.invokespecial 11, 3) := by decide +kernel
theorem dX2_init_29 : decode cX2_init 29 = .ok (.putfield 20, 3) := by decide +kernel
theorem dX2_init_32 : decode cX2_init 32 = .ok (.aload_n 0, 1) := by decide +kernel
theorem dX2_init_33 : decode cX2_init 33 = .ok (.new 9, 3) := by decide +kernel
theorem dX2_init_36 : decode cX2_init 36 = .ok (.dup, 1) := by decide +kernel
theorem dX2_init_37 : decode cX2_init 37 = .ok (.iconst 3, 1) := by decide +kernel
theorem dX2_init_38 : decode cX2_init 38 = .ok (.iconst 4, 1) := by decide +kernel
theorem dX2_init_39 : decode cX2_init 39 = .ok (.invokespecial 11, 3) := by decide +kernel
theorem dX2_init_42 : decode cX2_init 42 = .ok (.putfield 23, 3) := by decide +kernel
theorem dX2_init_45 : decode cX2_init 45 = .ok (.aload_n 0, 1) := by decide +kernel
theorem dX2_init_46 : decode cX2_init 46 = .ok (.new 9, 3) := by decide +kernel
theorem dX2_init_49 : decode cX2_init 49 = .ok (.dup, 1) := by decide +kernel
theorem dX2_init_50 : decode cX2_init 50 = .ok (.bipush 8, 2) := by decide +kernel
theorem dX2_init_52 : decode cX2_init 52 = .ok (.iconst 5, 1) := by decide +kernel
theorem dX2_init_53 : decode cX2_init 53 = .ok (.invokespecial 11, 3) := by decide +kernel
theorem dX2_init_56 : decode cX2_init 56 = .ok (.putfield 26, 3) := by decide +kernel
theorem dX2_init_59 : decode cX2_init 59 = .ok (.aload_n 0, 1) := by decide +kernel
theorem dX2_init_60 : decode cX2_init 60 = .ok (.bipush 30, 2) := by decide +kernel
theorem dX2_init_62 : decode cX2_init 62 = .ok (.newarray .int, 2) := by decide +kernel
theorem dX2_init_64 : decode cX2_init 64 = .ok (.putfield 29, 3) := by decide +kernel
theorem dX2_init_67 : decode cX2_init 67 = .ok (.return_, 1) := by decide +kernel
theorem dX2_clear_0 : decode cX2_clear 0 = .ok (.aload_n 0, 1) := by decide +kernel
theorem dX2_clear_1 : decode cX2_clear 1 = .ok (.getfield 14, 3) := by decide +kernel
theorem dX2_clear_4 : decode cX2_clear 4 = .ok (.iconst 0, 1) := by decide +kernel
theorem dX2_clear_5 : decode cX2_clear 5 = .ok (.putfield 33, 3) := by decide +kernel
theorem dX2_clear_8 : decode cX2_clear 8 = .ok (.aload_n 0, 1) := by decide +kernel
theorem dX2_clear_9 : decode cX2_clear 9 = .ok (.getfield 20, 3) := by decide +kernel
theorem dX2_clear_12 : decode cX2_clear 12 = .ok (.iconst 0, 1) := by decide +kernel
theorem dX2_clear_13 : decode cX2_clear 13 = .ok (.putfield 33, 3) := by decide +kernel
theorem dX2_clear_16 : decode cX2_clear 16 = .ok (.aload_n 0, 1) := by decide +kernel
theorem dX2_clear_17 : decode cX2_clear 17 = .ok (.getfield 23, 3) := by decide +kernel
theorem dX2_clear_20 : decode cX2_clear 20 = .ok (.iconst 0, 1) := by decide +kernel
theorem dX2_clear_21 : decode cX2_clear 21 = .ok (.putfield 33, 3) := by decide +kernel
theorem dX2_clear_24 : decode cX2_clear 24 = .ok (.aload_n 0, 1) := by decide +kernel
theorem dX2_clear_25 : decode cX2_clear 25 = .ok (.getfield 26, 3) := by decide +kernel
theorem dX2_clear_28 : decode cX2_clear 28 = .ok (.iconst 0, 1) := by decide +kernel
theorem dX2_clear_29 : decode cX2_clear 29 = .ok (.putfield 33, 3) := by decide +kernel
theorem dX2_clear_32 : decode cX2_clear 32 = .ok (.aload_n 0, 1) := by decide +kernel
theorem dX2_clear_33 : decode cX2_clear 33 = .ok (.getfield 29, 3) := by decide +kernel
theorem dX2_clear_36 : decode cX2_clear 36 = .ok (.iconst 0, 1) := by decide +kernel
theorem dX2_clear_37 : decode cX2_clear 37 = .ok (.invokestatic 37, 3) := by decide +kernel
theorem dX2_clear_40 : decode cX2_clear 40 = .ok (.aload_n 0, 1) := by decide +kernel
theorem dX2_clear_41 : decode cX2_clear 41 = .ok (.iconst 0, 1) := by decide +kernel
theorem dX2_clear_42 : decode cX2_clear 42 = .ok (.putfield 43, 3) := by decide +kernel
theorem dX2_clear_45 : decode cX2_clear 45 = .ok (.aload_n 0, 1) := by decide +kernel
theorem dX2_clear_46 : decode cX2_clear 46 = .ok (.iconst 0, 1) := by decide +kernel
theorem dX2_clear_47 : decode cX2_clear 47 = .ok (.putfield 46, 3) := by decide +kernel
theorem dX2_clear_50 : decode cX2_clear 50 = .ok (.aload_n 0, 1) := by decide +kernel
theorem dX2_clear_51 : decode cX2_clear 51 = .ok (.iconst 0, 1) := by decide +kernel
theorem dX2_clear_52 : decode cX2_clear 52 = .ok (.putfield 49, 3) := by decide +kernel
theorem dX2_clear_55 : decode cX2_clear 55 = .ok (.aload_n 0, 1) := by decide +kernel
theorem dX2_clear_56 : decode cX2_clear 56 = .ok (.iconst 0, 1) := by decide +kernel
theorem dX2_clear_57 : decode cX2_clear 57 = .ok (.putfield 52, 3) := by decide +kernel
theorem dX2_clear_60 : decode cX2_clear 60 = .ok (.return_, 1) := by decide +kernel
theorem dX2_copy_0 : decode cX2_copy 0 = .ok (.aload_n 0, 1) := by decide +kernel
theorem dX2_copy_1 : decode cX2_copy 1 = .ok (.getfield 14, 3) := by decide +kernel
theorem dX2_copy_4 : decode cX2_copy 4 = .ok (.aload_n 1, 1) := by decide +kernel
theorem dX2_copy_5 : decode cX2_copy 5 = .ok (.getfield 14, 3) := by decide +kernel
theorem dX2_copy_8 : decode cX2_copy 8 = .ok (.invokevirtual 55, 3) := by decide +kernel
theorem dX2_copy_11 : decode cX2_copy 11 = .ok (.aload_n 0, 1) := by decide +kernel
theorem dX2_copy_12 : decode cX2_copy 12 = .ok (.getfield 20, 3) := by decide +kernel
theorem dX2_copy_15 : decode cX2_copy 15 = .ok (.aload_n 1, 1) := by decide +kernel
theorem dX2_copy_16 : decode cX2_copy 16 = .ok (.getfield 20, 3) := by decide +kernel
theorem dX2_copy_19 : decode cX2_copy 19 = .ok (.invokevirtual 55, 3) := by decide +kernel
theorem dX2_copy_22 : decode cX2_copy 22 = .ok (.aload_n 0, 1) := by decide +kernel
theorem dX2_copy_23 : decode cX2_copy 23 = .ok (.getfield 23, 3) := by decide +kernel
theorem dX2_copy_26 : decode cX2_copy 26 = .ok (.aload_n 1, 1) := by decide +kernel
theorem dX2_copy_27 : decode cX2_copy 27 = .ok (.getfield 23, 3) := by decide +kernel
theorem dX2_copy_30 : decode cX2_copy 30 = .ok (.invokevirtual 55, 3) := by decide +kernel
theorem dX2_copy_33 : decode cX2_copy 33 = .ok (.aload_n 0, 1) := by decide +kernel
theorem dX2_copy_34 : decode cX2_copy 34 = .ok (.getfield 26, 3) := by decide +kernel
theorem dX2_copy_37 : decode cX2_copy 37 = .ok (.aload_n 1, 1) := by decide +kernel
theorem dX2_copy_38 : decode cX2_copy 38 = .ok (.getfield 26, 3) := by decide +kernel
theorem dX2_copy_41 : decode cX2_copy 41 = .ok (.invokevirtual 55, 3) := by decide +kernel
theorem dX2_copy_44 : decode cX2_copy 44 = .ok (.aload_n 1, 1) := by decide +kernel
theorem dX2_copy_45 : decode cX2_copy 45 = .ok (.getfield 29, 3) := by decide +kernel
theorem dX2_copy_48 : decode cX2_copy 48 = .ok (.iconst 0, 1) := by decide +kernel
theorem dX2_copy_49 : decode cX2_copy 49 = .ok (.aload_n 0, 1) := by decide +kernel
theorem dX2_copy_50 : decode cX2_copy 50 = .ok (.getfield 29, 3) := by decide +kernel
theorem dX2_copy_53 : decode cX2_copy 53 = .ok (.iconst 0, 1) := by decide +kernel
theorem dX2_copy_54 : decode cX2_copy 54 = .ok (.bipush 30, 2) := by decide +kernel
theorem dX2_copy_56 : decode cX2_copy 56 = .ok (.invokestatic 59, 3) := by decide +kernel
theorem dX2_copy_59 : decode cX2_copy 59 = .ok (.aload_n 0, 1) := by decide +kernel
theorem dX2_copy_60 : decode cX2_copy 60 = .ok (.aload_n 1, 1) := by decide +kernel
theorem dX2_copy_61 : decode cX2_copy 61 = .ok (.getfield 43, 3) := by decide +kernel
theorem dX2_copy_64 : decode cX2_copy 64 = .ok (.putfield 43, 3) := by decide +kernel
theorem dX2_copy_67 : decode cX2_copy 67 = .ok (.aload_n 0, 1) := by decide +kernel
theorem dX2_copy_68 : decode cX2_copy 68 = .ok (.aload_n 1, 1) := by decide +kernel
theorem dX2_copy_69 : decode cX2_copy 69 = .ok (.getfield 46, 3) := by decide +kernel
theorem dX2_copy_72 : decode cX2_copy 72 = .ok (.putfield 46, 3) := by decide +kernel
theorem dX2_copy_75 : decode cX2_copy 75 = .ok (.aload_n 0, 1) := by decide +kernel
theorem dX2_copy_76 : decode cX2_copy 76 = .ok (.aload_n 1, 1) := by decide +kernel
theorem dX2_copy_77 : decode cX2_copy 77 = .ok (.getfield 49, 3) := by decide +kernel
theorem dX2_copy_80 : decode cX2_copy 80 = .ok (.putfield 49, 3) := by decide +kernel
theorem dX2_copy_83 : decode cX2_copy 83 = .ok (.aload_n 0, 1) := by decide +kernel
theorem dX2_copy_84 : decode cX2_copy 84 = .ok (.aload_n 1, 1) := by decide +kernel
theorem dX2_copy_85 : decode cX2_copy 85 = .ok (.getfield 52, 3) := by decide +kernel
theorem dX2_copy_88 : decode cX2_copy 88 = .ok (.putfield 52, 3) := by decide +kernel
theorem dX2_copy_91 : decode cX2_copy 91 = .ok (.return_, 1) := by decide +kernel
theorem dX2_shines_0 : decode cX2_shines 0 = .ok (.iload_n 1, 1) := by decide +kernel
theorem dX2_shines_1 : decode cX2_shines 1 = .ok (.ifCond .lt 16, 3) := by decide +kernel
theorem dX2_shines_4 : decode cX2_shines 4 = .ok (.iload_n 1, 1) := by decide +kernel
theorem dX2_shines_5 : decode cX2_shines 5 = .ok (.bipush 30, 2) := by decide +kernel
theorem dX2_shines_7 : decode cX2_shines 7 = .ok (.if_icmp .ge 10, 3) := by decide +kernel
theorem dX2_shines_10 : decode cX2_shines 10 = .ok (.aload_n 0, 1) := by decide +kernel
theorem dX2_shines_11 : decode cX2_shines 11 = .ok (.getfield 29, 3) := by decide +kernel
theorem dX2_shines_14 : decode cX2_shines 14 = .ok (.iload_n 1, 1) := by decide +kernel
theorem dX2_shines_15 : decode cX2_shines 15 = .ok (.iload_n 2, 1) := by decide +kernel
theorem dX2_shines_16 : decode cX2_shines 16 = .ok (.iastore, 1) := by decide +kernel
theorem dX2_shines_17 : decode cX2_shines 17 = .ok (.return_, 1) := by decide +kernel
theorem dX3_init_0 : decode cX3_init 0 = .ok (.aload_n 0, 1) := by decide +kernel
theorem dX3_init_1 : decode cX3_init 1 = .ok (.invokespecial 1, 3) := by decide +kernel
theorem dX3_init_4 : decode cX3_init 4 = .ok (.aload_n 0, 1) := by decide +kernel
theorem dX3_init_5 : decode cX3_init 5 = .ok (.iload_n 2, 1) := by decide +kernel
theorem dX3_init_6 : decode cX3_init 6 = .ok (.putfield 7, 3) := by decide +kernel
theorem dX3_init_9 : decode cX3_init 9 = .ok (.aload_n 0, 1) := by decide +kernel
theorem dX3_init_10 : decode cX3_init 10 = .ok (.iload_n 1, 1) := by decide +kernel
theorem dX3_init_11 : decode cX3_init 11 = .ok (.iload_n 2, 1) := by decide +kernel
theorem dX3_init_12 : decode cX3_init 12 = .ok (.imul, 1) := by decide +kernel
theorem dX3_init_13 : decode cX3_init 13 = .ok (.newarray .int, 2) := by decide +kernel
theorem dX3_init_15 : decode cX3_init 15 = .ok (.putfield 13, 3) := by decide +kernel
theorem dX3_init_18 : decode cX3_init 18 = .ok (.return_, 1) := by decide +kernel
theorem dX3_isFull_0 : decode cX3_isFull 0 = .ok (.aload_n 0, 1) := by decide +kernel
theorem dX3_isFull_1 : decode cX3_isFull 1 = .ok (.getfield 17, 3) := by decide +kernel
theorem dX3_isFull_4 : decode cX3_isFull 4 = .ok (.iconst 1, 1) := by decide +kernel
theorem dX3_isFull_5 : decode cX3_isFull 5 = .ok (.iadd, 1) := by decide +kernel
theorem dX3_isFull_6 : decode cX3_isFull 6 = .ok (.aload_n 0, 1) := by decide +kernel
theorem dX3_isFull_7 : decode cX3_isFull 7 = .ok (.getfield 7, 3) := by decide +kernel
theorem dX3_isFull_10 : decode cX3_isFull 10 = .ok (.imul, 1) := by decide +kernel
theorem dX3_isFull_11 : decode cX3_isFull 11 = .ok (.aload_n 0, 1) := by decide +kernel
theorem dX3_isFull_12 : decode cX3_isFull 12 = .ok (.getfield 13, 3) := by decide +kernel
theorem dX3_isFull_15 : decode cX3_isFull 15 = .ok (.arraylength, 1) := by decide +kernel
theorem dX3_isFull_16 : decode cX3_isFull 16 = .ok (.if_icmp .le 7, 3) := by decide +kernel
theorem dX3_isFull_19 : decode cX3_isFull 19 = .ok (.iconst 1, 1) := by decide +kernel
theorem dX3_isFull_20 : decode cX3_isFull 20 = .ok (.goto 4, 3) := by decide +kernel
theorem dX3_isFull_23 : decode cX3_isFull 23 = .ok (.iconst 0, 1) := by decide +kernel
theorem dX3_isFull_24 : decode cX3_isFull 24 = .ok (.ireturn, 1) := by decide +kernel
theorem dX3_add_0 : decode cX3_add 0 = .ok (.aload_n 0, 1) := by decide +kernel
theorem dX3_add_1 : decode cX3_add 1 = .ok (.invokevirtual 20, 3) := by decide +kernel
theorem dX3_add_4 : decode cX3_add 4 = .ok (.ifCond .ne 49, 3) := by decide +kernel
theorem dX3_add_7 : decode cX3_add 7 = .ok (.aload_n 0, 1) := by decide +kernel
theorem dX3_add_8 : decode cX3_add 8 = .ok (.dup, 1) := by decide +kernel
theorem dX3_add_9 : decode cX3_add 9 = .ok (.getfield 17, 3) := by decide +kernel
theorem dX3_add_12 : decode cX3_add 12 = .ok (.iconst 1, 1) := by decide +kernel
theorem dX3_add_13 : decode cX3_add 13 = .ok (.iadd, 1) := by decide +kernel
theorem dX3_add_14 : decode cX3_add 14 = .ok (.putfield 17, 3) := by decide +kernel
theorem dX3_add_17 : decode cX3_add 17 = .ok (.iconst 0, 1) := by decide +kernel
theorem dX3_add_18 : decode cX3_add 18 = .ok (.istore_n 2, 1) := by decide +kernel
theorem dX3_add_19 : decode cX3_add 19 = .ok (.iload_n 2, 1) := by decide +kernel
theorem dX3_add_20 : decode cX3_add 20 = .ok (.aload_n 0, 1) := by decide +kernel
theorem dX3_add_21 : decode cX3_add 21 = .ok (.getfield 7, 3) := by decide +kernel
theorem dX3_add_24 : decode cX3_add 24 = .ok (.if_icmp .ge 29, 3) := by decide +kernel
theorem dX3_add_27 : decode cX3_add 27 = .ok (.iload_n 2, 1) := by decide +kernel
theorem dX3_add_28 : decode cX3_add 28 = .ok (.aload_n 1, 1) := by decide +kernel
theorem dX3_add_29 : decode cX3_add 29 = .ok (.arraylength, 1) := by decide +kernel
theorem dX3_add_30 : decode cX3_add 30 = .ok (.if_icmp .ge 23, 3) := by decide +kernel
theorem dX3_add_33 : decode cX3_add 33 = .ok (.aload_n 0, 1) := by decide +kernel
theorem dX3_add_34 : decode cX3_add 34 = .ok (.aload_n 0, 1) := by decide +kernel
theorem dX3_add_35 : decode cX3_add 35 = .ok (.getfield 17, 3) := by decide +kernel
theorem dX3_add_38 : decode cX3_add 38 = .ok (.iconst 1, 1) := by decide +kernel
theorem dX3_add_39 : decode cX3_add 39 = .ok (.isub, 1) := by decide +kernel
theorem dX3_add_40 : decode cX3_add 40 = .ok (.iload_n 2, 1) := by decide +kernel
theorem dX3_add_41 : decode cX3_add 41 = .ok (.aload_n 1, 1) := by decide +kernel
theorem dX3_add_42 : decode cX3_add 42 = .ok (.iload_n 2, 1) := by decide +kernel
theorem dX3_add_43 : decode cX3_add 43 = .ok (.iaload, 1) := by decide +kernel
theorem dX3_add_44 : decode cX3_add 44 = .ok (.invokevirtual 24, 3) := by decide +kernel
theorem dX3_add_47 : decode cX3_add 47 = .ok (.iinc 2 1, 3) := by decide +kernel
theorem dX3_add_50 : decode cX3_add 50 = .ok (.goto (-31), 3) := by decide +kernel
theorem dX3_add_53 : decode cX3_add 53 = .ok (.return_, 1) := by decide +kernel
theorem dX3_at_0 : decode cX3_at 0 = .ok (.iload_n 1, 1) := by decide +kernel
theorem dX3_at_1 : decode cX3_at 1 = .ok (.ifCond .lt 23, 3) := by decide +kernel
theorem dX3_at_4 : decode cX3_at 4 = .ok (.iload_n 1, 1) := by decide +kernel
theorem dX3_at_5 : decode cX3_at 5 = .ok (.aload_n 0, 1) := by decide +kernel
theorem dX3_at_6 : decode cX3_at 6 = .ok (.getfield 17, 3) := by decide +kernel
theorem dX3_at_9 : decode cX3_at 9 = .ok (.if_icmp .ge 15, 3) := by decide +kernel
theorem dX3_at_12 : decode cX3_at 12 = .ok (.iload_n 2, 1) := by decide +kernel
theorem dX3_at_13 : decode cX3_at 13 = .ok (.ifCond .lt 11, 3) := by decide +kernel
theorem dX3_at_16 : decode cX3_at 16 = .ok (.iload_n 2, 1) := by decide +kernel
theorem dX3_at_17 : decode cX3_at 17 = .ok (.aload_n 0, 1) := by decide +kernel
theorem dX3_at_18 : decode cX3_at 18 = .ok (.getfield 7, 3) := by decide +kernel
theorem dX3_at_21 : decode cX3_at 21 = .ok (.if_icmp .lt 5, 3) := by decide +kernel
theorem dX3_at_24 : decode cX3_at 24 = .ok (.iconst 0, 1) := by decide +kernel
theorem dX3_at_25 : decode cX3_at 25 = .ok (.ireturn, 1) := by decide +kernel
theorem dX3_at_26 : decode cX3_at 26 = .ok (.aload_n 0, 1) := by decide +kernel
theorem dX3_at_27 : decode cX3_at 27 = .ok (.getfield 13, 3) := by decide +kernel
theorem dX3_at_30 : decode cX3_at 30 = .ok (.iload_n 1, 1) := by decide +kernel
theorem dX3_at_31 : decode cX3_at 31 = .ok (.aload_n 0, 1) := by decide +kernel
theorem dX3_at_32 : decode cX3_at 32 = .ok (.getfield 7, 3) := by decide +kernel
theorem dX3_at_35 : decode cX3_at 35 = .ok (.imul, 1) := by decide +kernel
theorem dX3_at_36 : decode cX3_at 36 = .ok (.iload_n 2, 1) := by decide +kernel
theorem dX3_at_37 : decode cX3_at 37 = .ok (.iadd, 1) := by decide +kernel
theorem dX3_at_38 : decode cX3_at 38 = .ok (.iaload, 1) := by decide +kernel
theorem dX3_at_39 : decode cX3_at 39 = .ok (.ireturn, 1) := by decide +kernel
theorem dX3_put_0 : decode cX3_put 0 = .ok (.iload_n 1, 1) := by decide +kernel
theorem dX3_put_1 : decode cX3_put 1 = .ok (.ifCond .lt 37, 3) := by decide +kernel
theorem dX3_put_4 : decode cX3_put 4 = .ok (.iload_n 1, 1) := by decide +kernel
theorem dX3_put_5 : decode cX3_put 5 = .ok (.aload_n 0, 1) := by decide +kernel
theorem dX3_put_6 : decode cX3_put 6 = .ok (.getfield 17, 3) := by decide +kernel
theorem dX3_put_9 : decode cX3_put 9 = .ok (.if_icmp .ge 29, 3) := by decide +kernel
theorem dX3_put_12 : decode cX3_put 12 = .ok (.iload_n 2, 1) := by decide +kernel
theorem dX3_put_13 : decode cX3_put 13 = .ok (.ifCond .lt 25, 3) := by decide +kernel
theorem dX3_put_16 : decode cX3_put 16 = .ok (.iload_n 2, 1) := by decide +kernel
theorem dX3_put_17 : decode cX3_put 17 = .ok (.aload_n 0, 1) := by decide +kernel
theorem dX3_put_18 : decode cX3_put 18 = .ok (.getfield 7, 3) := by decide +kernel
theorem dX3_put_21 : decode cX3_put 21 = .ok (.if_icmp .ge 17, 3) := by decide +kernel
theorem dX3_put_24 : decode cX3_put 24 = .ok (.aload_n 0, 1) := by decide +kernel
theorem dX3_put_25 : decode cX3_put 25 = .ok (.getfield 13, 3) := by decide +kernel
theorem dX3_put_28 : decode cX3_put 28 = .ok (.iload_n 1, 1) := by decide +kernel
theorem dX3_put_29 : decode cX3_put 29 = .ok (.aload_n 0, 1) := by decide +kernel
theorem dX3_put_30 : decode cX3_put 30 = .ok (.getfield 7, 3) := by decide +kernel
theorem dX3_put_33 : decode cX3_put 33 = .ok (.imul, 1) := by decide +kernel
theorem dX3_put_34 : decode cX3_put 34 = .ok (.iload_n 2, 1) := by decide +kernel
theorem dX3_put_35 : decode cX3_put 35 = .ok (.iadd, 1) := by decide +kernel
theorem dX3_put_36 : decode cX3_put 36 = .ok (.iload_n 3, 1) := by decide +kernel
theorem dX3_put_37 : decode cX3_put 37 = .ok (.iastore, 1) := by decide +kernel
theorem dX3_put_38 : decode cX3_put 38 = .ok (.return_, 1) := by decide +kernel
theorem dX3_copy_0 : decode cX3_copy 0 = .ok (.aload_n 0, 1) := by decide +kernel
theorem dX3_copy_1 : decode cX3_copy 1 = .ok (.aload_n 1, 1) := by decide +kernel
theorem dX3_copy_2 : decode cX3_copy 2 = .ok (.getfield 17, 3) := by decide +kernel
theorem dX3_copy_5 : decode cX3_copy 5 = .ok (.putfield 17, 3) := by decide +kernel
theorem dX3_copy_8 : decode cX3_copy 8 = .ok (.aload_n 1, 1) := by decide +kernel
theorem dX3_copy_9 : decode cX3_copy 9 = .ok (.getfield 13, 3) := by decide +kernel
theorem dX3_copy_12 : decode cX3_copy 12 = .ok (.iconst 0, 1) := by decide +kernel
theorem dX3_copy_13 : decode cX3_copy 13 = .ok (.aload_n 0, 1) := by decide +kernel
theorem dX3_copy_14 : decode cX3_copy 14 = .ok (.getfield 13, 3) := by decide +kernel
theorem dX3_copy_17 : decode cX3_copy 17 = .ok (.iconst 0, 1) := by decide +kernel
theorem dX3_copy_18 : decode cX3_copy 18 = .ok (.aload_n 0, 1) := by decide +kernel
theorem dX3_copy_19 : decode cX3_copy 19 = .ok (.getfield 13, 3) := by decide +kernel
theorem dX3_copy_22 : decode cX3_copy 22 = .ok (.arraylength, 1) := by decide +kernel
theorem dX3_copy_23 : decode cX3_copy 23 = .ok (.aload_n 1, 1) := by decide +kernel
theorem dX3_copy_24 : decode cX3_copy 24 = .ok (.getfield 13, 3) := by decide +kernel
theorem dX3_copy_27 : decode cX3_copy 27 = .ok (.arraylength, 1) := by decide +kernel
theorem dX3_copy_28 : decode cX3_copy 28 = .ok (.invokestatic 28, 3) := by decide +kernel
theorem dX3_copy_31 : decode cX3_copy 31 = .ok (.invokestatic 34, 3) := by decide +kernel
theorem dX3_copy_34 : decode cX3_copy 34 = .ok (.return_, 1) := by decide +kernel
theorem dX4_init_0 : decode cX4_init 0 = .ok (.aload_n 0, 1) := by decide +kernel
theorem dX4_init_1 : decode cX4_init 1 = .ok (.invokespecial 3, 3) := by decide +kernel
theorem dX4_init_4 : decode cX4_init 4 = .ok (.aload_n 0, 1) := by decide +kernel
theorem dX4_init_5 : decode cX4_init 5 = .ok (.iconst 5, 1) := by decide +kernel
theorem dX4_init_6 : decode cX4_init 6 = .ok (.newarray .int, 2) := by decide +kernel
theorem dX4_init_8 : decode cX4_init 8 = .ok (.putfield 11, 3) := by decide +kernel
theorem dX4_init_11 : decode cX4_init 11 = .ok (.aload_n 0, 1) := by decide +kernel
theorem dX4_init_12 : decode cX4_init 12 = .ok (.aload_n 1, 1) := by decide +kernel
theorem dX4_init_13 : decode cX4_init 13 = .ok (.putfield 15, 3) := by decide +kernel
theorem dX4_init_16 : decode cX4_init 16 = .ok (.aload_n 0, 1) := by decide +kernel
theorem dX4_init_17 : decode cX4_init 17 = .ok (.new 19, 3) := by decide +kernel
theorem dX4_init_20 : decode cX4_init 20 = .ok (.dup, 1) := by decide +kernel
theorem dX4_init_21 : decode cX4_init 21 = .ok (.aload_n 1, 1) := by decide +kernel
theorem dX4_init_22 : decode cX4_init 22 = .ok (.invokespecial 21, 3) := by decide +kernel
theorem dX4_init_25 : decode cX4_init 25 = .ok (.putfield 24, 3) := by decide +kernel
theorem dX4_init_28 : decode cX4_init 28 = .ok (.aload_n 0, 1) := by decide +kernel
theorem dX4_init_29 : decode cX4_init 29 = .ok (.iconst (-1), 1) := by decide +kernel
theorem dX4_init_30 : decode cX4_init 30 = .ok (.putfield 28, 3) := by decide +kernel
theorem dX4_init_33 : decode cX4_init 33 = .ok (.return_, 1) := by decide +kernel
theorem dX4_reads_0 : decode cX4_reads 0 = .ok (.aload_n 1, 1) := by decide +kernel
theorem dX4_reads_1 : decode cX4_reads 1 = .ok (.invokevirtual 32, 3) := by decide +kernel
theorem dX4_reads_4 : decode cX4_reads 4 = .ok (.aload_n 0, 1) := by decide +kernel
theorem dX4_reads_5 : decode cX4_reads 5 = .ok (.iconst 0, 1) := by decide +kernel
theorem dX4_reads_6 : decode cX4_reads 6 = .ok (.putfield 37, 3) := by decide +kernel
theorem dX4_reads_9 : decode cX4_reads 9 = .ok (.aload_n 0, 1) := by decide +kernel
theorem dX4_reads_10 : decode cX4_reads 10 = .ok (.iconst (-1), 1) := by decide +kernel
theorem dX4_reads_11 : decode cX4_reads 11 = .ok (.putfield 28, 3) := by decide +kernel
theorem dX4_reads_14 : decode cX4_reads 14 = .ok (.aload_n 0, 1) := by decide +kernel
theorem dX4_reads_15 : decode cX4_reads 15 = .ok (.getfield 24, 3) := by decide +kernel
theorem dX4_reads_18 : decode cX4_reads 18 = .ok (.invokevirtual 40, 3) := by decide +kernel
theorem dX4_reads_21 : decode cX4_reads 21 = .ok (.iconst 0, 1) := by decide +kernel
theorem dX4_reads_22 : decode cX4_reads 22 = .ok (.istore_n 2, 1) := by decide +kernel
theorem dX4_reads_23 : decode cX4_reads 23 = .ok (.iload_n 2, 1) := by decide +kernel
theorem dX4_reads_24 : decode cX4_reads 24 = .ok (.aload_n 0, 1) := by decide +kernel
theorem dX4_reads_25 : decode cX4_reads 25 = .ok (.getfield 15, 3) := by decide +kernel
theorem dX4_reads_28 : decode cX4_reads 28 = .ok (.getfield 43, 3) := by decide +kernel
theorem dX4_reads_31 : decode cX4_reads 31 = .ok (.if_icmp .gt 38, 3) := by decide +kernel
theorem dX4_reads_34 : decode cX4_reads 34 = .ok (.aload_n 0, 1) := by decide +kernel
theorem dX4_reads_35 : decode cX4_reads 35 = .ok (.getfield 24, 3) := by decide +kernel
theorem dX4_reads_38 : decode cX4_reads 38 = .ok (.invokevirtual 48, 3) := by decide +kernel
theorem dX4_reads_41 : decode cX4_reads 41 = .ok (.aload_n 0, 1) := by decide +kernel
theorem dX4_reads_42 : decode cX4_reads 42 = .ok (.getfield 24, 3) := by decide +kernel
theorem dX4_reads_45 : decode cX4_reads 45 = .ok (.getfield 51, 3) := by decide +kernel
theorem dX4_reads_48 : decode cX4_reads 48 = .ok (.ifCond .ne 5, 3) := by decide +kernel
theorem dX4_reads_51 : decode cX4_reads 51 = .ok (.iconst 1, 1) := by decide +kernel
theorem dX4_reads_52 : decode cX4_reads 52 = .ok (.ireturn, 1) := by decide +kernel
theorem dX4_reads_53 : decode cX4_reads 53 = .ok (.aload_n 0, 1) := by decide +kernel
theorem dX4_reads_54 : decode cX4_reads 54 = .ok (.aload_n 1, 1) := by decide +kernel
theorem dX4_reads_55 : decode cX4_reads 55 = .ok (.invokevirtual 54, 3) := by decide +kernel
theorem dX4_reads_58 : decode cX4_reads 58 = .ok (.ifCond .ne 5, 3) := by decide +kernel
theorem dX4_reads_61 : decode cX4_reads 61 = .ok (.iconst 0, 1) := by decide +kernel
theorem dX4_reads_62 : decode cX4_reads 62 = .ok (.ireturn, 1) := by decide +kernel
theorem dX4_reads_63 : decode cX4_reads 63 = .ok (.iinc 2 1, 3) := by decide +kernel
theorem dX4_reads_66 : decode cX4_reads 66 = .ok (.goto (-43), 3) := by decide +kernel
theorem dX4_reads_69 : decode cX4_reads 69 = .ok (.iconst 1, 1) := by decide +kernel
theorem dX4_reads_70 : decode cX4_reads 70 = .ok (.ireturn, 1) := by decide +kernel
theorem dX4_readsLine_0 : decode cX4_readsLine 0 = .ok (.aload_n 0, 1) := by decide +kernel
theorem dX4_readsLine_1 : decode cX4_readsLine 1 = .ok (.invokevirtual 58, 3) := by decide +kernel
theorem dX4_readsLine_4 : decode cX4_readsLine 4 = .ok (.istore_n 2, 1) := by decide +kernel
theorem dX4_readsLine_5 : decode cX4_readsLine 5 = .ok (.iload_n 2, 1) := by decide +kernel
theorem dX4_readsLine_6 : decode cX4_readsLine 6 = .ok (.iconst (-1), 1) := by decide +kernel
theorem dX4_readsLine_7 : decode cX4_readsLine 7 = .ok (.if_icmp .eq 27, 3) := by decide +kernel
theorem dX4_readsLine_10 : decode cX4_readsLine 10 = .ok (.iload_n 2, 1) := by decide +kernel
theorem dX4_readsLine_11 : decode cX4_readsLine 11 = .ok (.ifCond .ne 7, 3) := by decide +kernel
theorem dX4_readsLine_14 : decode cX4_readsLine 14 = .ok (.iconst 1, 1) := by decide +kernel
theorem dX4_readsLine_15 : decode cX4_readsLine 15 = .ok (.goto 4, 3) := by decide +kernel
theorem dX4_readsLine_18 : decode cX4_readsLine 18 = .ok (.iconst 0, 1) := by decide +kernel
theorem dX4_readsLine_19 : decode cX4_readsLine 19 = .ok (.aload_n 1, 1) := by decide +kernel
theorem dX4_readsLine_20 : decode cX4_readsLine 20 = .ok (.getfield 62, 3) := by decide +kernel
theorem dX4_readsLine_23 : decode cX4_readsLine 23 = .ok (.ifCond .ne 7, 3) := by decide +kernel
theorem dX4_readsLine_26 : decode cX4_readsLine 26 = .ok (.iconst 1, 1) := by decide +kernel
theorem dX4_readsLine_27 : decode cX4_readsLine 27 = .ok (.goto 4, 3) := by decide +kernel
theorem dX4_readsLine_30 : decode cX4_readsLine 30 = .ok (.iconst 0, 1) := by decide +kernel
theorem dX4_readsLine_31 : decode cX4_readsLine 31 = .ok (.if_icmp .eq 9, 3) := by decide +kernel
theorem dX4_readsLine_34 : decode cX4_readsLine 34 = .ok (.aload_n 0, 1) := by decide +kernel
theorem dX4_readsLine_35 : decode cX4_readsLine 35 = .ok (.iconst 1, 1) := by decide +kernel
theorem dX4_readsLine_36 : decode cX4_readsLine 36 = .ok (.invokevirtual 65, 3) := by decide +kernel
theorem dX4_readsLine_39 : decode cX4_readsLine 39 = .ok (.ireturn, 1) := by decide +kernel
theorem dX4_readsLine_40 : decode cX4_readsLine 40 = .ok (.aload_n 1, 1) := by decide +kernel
theorem dX4_readsLine_41 : decode cX4_readsLine 41 = .ok (.iload_n 2, 1) := by decide +kernel
theorem dX4_readsLine_42 : decode cX4_readsLine 42 = .ok (.invokestatic 69, 3) := by decide +kernel
theorem dX4_readsLine_45 : decode cX4_readsLine 45 = .ok (.ifCond .eq 9, 3) := by decide +kernel
theorem dX4_readsLine_48 : decode cX4_readsLine 48 = .ok (.aload_n 0, 1) := by decide +kernel
theorem dX4_readsLine_49 : decode cX4_readsLine 49 = .ok (.iconst 3, 1) := by decide +kernel
theorem dX4_readsLine_50 : decode cX4_readsLine 50 = .ok (.invokevirtual 65, 3) := by decide +kernel
theorem dX4_readsLine_53 : decode cX4_readsLine 53 = .ok (.ireturn, 1) := by decide +kernel
theorem dX4_readsLine_54 : decode cX4_readsLine 54 = .ok (.iload_n 2, 1) := by decide +kernel
theorem dX4_readsLine_55 : decode cX4_readsLine 55 = .ok (.invokestatic 73, 3) := by decide +kernel
theorem dX4_readsLine_58 : decode cX4_readsLine 58 = .ok (.astore_n 3, 1) := by decide +kernel
theorem dX4_readsLine_59 : decode cX4_readsLine 59 = .ok (.iconst 0, 1) := by decide +kernel
theorem dX4_readsLine_60 : decode cX4_readsLine 60 = .ok (.istore 4, 2) := by decide +kernel
theorem dX4_readsLine_62 : decode cX4_readsLine 62 = .ok (.aload_n 3, 1) := by decide +kernel
theorem dX4_readsLine_63 : decode cX4_readsLine 63 = .ok (.iconst 0, 1) := by decide +kernel
theorem dX4_readsLine_64 : decode cX4_readsLine 64 = .ok (.invokestatic 77, 3) := by decide +kernel
theorem dX4_readsLine_67 : decode cX4_readsLine 67 = .ok (.iconst 1, 1) := by decide +kernel
theorem dX4_readsLine_68 : decode cX4_readsLine 68 = .ok (.iadd, 1) := by decide +kernel
theorem dX4_readsLine_69 : decode cX4_readsLine 69 = .ok (.istore 5, 2) := by decide +kernel
theorem dX4_readsLine_71 : decode cX4_readsLine 71 = .ok (.iload 5, 2) := by decide +kernel
theorem dX4_readsLine_73 : decode cX4_readsLine 73 = .ok (.aload_n 3, 1) := by decide +kernel
theorem dX4_readsLine_74 : decode cX4_readsLine 74 = .ok (.invokevirtual 81, 3) := by decide +kernel
theorem dX4_readsLine_77 : decode cX4_readsLine 77 = .ok (.if_icmp .ge 75, 3) := by decide +kernel
theorem dX4_readsLine_80 : decode cX4_readsLine 80 = .ok (.aload_n 0, 1) := by decide +kernel
theorem dX4_readsLine_81 : decode cX4_readsLine 81 = .ok (.getfield 24, 3) := by decide +kernel
theorem dX4_readsLine_84 : decode cX4_readsLine 84 = .ok (.invokevirtual 48, 3) := by decide +kernel
theorem dX4_readsLine_87 : decode cX4_readsLine 87 = .ok (.aload_n 3, 1) := by decide +kernel
theorem dX4_readsLine_88 : decode cX4_readsLine 88 = .ok (.iload 5, 2) := by decide +kernel
theorem dX4_readsLine_90 : decode cX4_readsLine 90 = .ok (.invokevirtual 85, 3) := by decide +kernel
theorem dX4_readsLine_93 : decode cX4_readsLine 93 = .ok (.bipush 78, 2) := by decide +kernel
theorem dX4_readsLine_95 : decode cX4_readsLine 95 = .ok (.if_icmp .eq 28, 3) := by decide +kernel
theorem dX4_readsLine_98 : decode cX4_readsLine 98 = .ok (.aload_n 0, 1) := by decide +kernel
theorem dX4_readsLine_99 : decode cX4_readsLine 99 = .ok (.getfield 24, 3) := by decide +kernel
theorem dX4_readsLine_102 : decode cX4_readsLine 102 = .ok (.aload_n 3, 1) := by decide +kernel
theorem dX4_readsLine_103 : decode cX4_readsLine 103 = .ok (.iload 5, 2) := by decide +kernel
theorem dX4_readsLine_105 : decode cX4_readsLine 105 = .ok (.aload_n 3, 1) := by decide +kernel
theorem dX4_readsLine_106 : decode cX4_readsLine 106 = .ok (.iload 5, 2) := by decide +kernel
theorem dX4_readsLine_108 : decode cX4_readsLine 108 = .ok (.invokestatic 77, 3) := by decide +kernel
theorem dX4_readsLine_111 : decode cX4_readsLine 111 = .ok (.invokevirtual 89, 3) := by decide +kernel
theorem dX4_readsLine_114 : decode cX4_readsLine 114 = .ok (.ifCond .ne 25, 3) := by decide +kernel
theorem dX4_readsLine_117 : decode cX4_readsLine 117 = .ok (.aload_n 0, 1) := by decide +kernel
theorem dX4_readsLine_118 : decode cX4_readsLine 118 = .ok (.iconst 1, 1) := by decide +kernel
theorem dX4_readsLine_119 : decode cX4_readsLine 119 = .ok (.invokevirtual 65, 3) := by decide +kernel
theorem dX4_readsLine_122 : decode cX4_readsLine 122 = .ok (.ireturn, 1) := by decide +kernel
theorem dX4_readsLine_123 : decode cX4_readsLine 123 = .ok (.aload_n 0, 1) := by decide +kernel
theorem dX4_readsLine_124 : decode cX4_readsLine 124 = .ok (.aload_n 1, 1) := by decide +kernel
theorem dX4_readsLine_125 : decode cX4_readsLine 125 = .ok (.iload_n 2, 1) := by decide +kernel
theorem dX4_readsLine_126 : decode cX4_readsLine 126 = .ok (.iload 4, 2) := by decide +kernel
theorem dX4_readsLine_128 : decode cX4_readsLine 128 = .ok (.invokevirtual 93, 3) := by decide +kernel
theorem dX4_readsLine_131 : decode cX4_readsLine 131 = .ok (.ifCond .ne 5, 3) := by decide +kernel
theorem dX4_readsLine_134 : decode cX4_readsLine 134 = .ok (.iconst 0, 1) := by decide +kernel
theorem dX4_readsLine_135 : decode cX4_readsLine 135 = .ok (.ireturn, 1) := by decide +kernel
theorem dX4_readsLine_136 : decode cX4_readsLine 136 = .ok (.iinc 4 1, 3) := by decide +kernel
theorem dX4_readsLine_139 : decode cX4_readsLine 139 = .ok (.aload_n 3, 1) := by decide +kernel
theorem dX4_readsLine_140 : decode cX4_readsLine 140 = .ok (.iload 5, 2) := by decide +kernel
theorem dX4_readsLine_142 : decode cX4_readsLine 142 = .ok (.invokestatic 77, 3) := by decide +kernel
theorem dX4_readsLine_145 : decode cX4_readsLine 145 = .ok (.iconst 1, 1) := by decide +kernel
theorem dX4_readsLine_146 : decode cX4_readsLine 146 = .ok (.iadd, 1) := by decide +kernel
theorem dX4_readsLine_147 : decode cX4_readsLine 147 = .ok (.istore 5, 2) := by decide +kernel
theorem dX4_readsLine_149 : decode cX4_readsLine 149 = .ok (.goto (-78), 3) := by decide +kernel
theorem dX4_readsLine_152 : decode cX4_readsLine 152 = .ok (.aload_n 0, 1) := by decide +kernel
theorem dX4_readsLine_153 : decode cX4_readsLine 153 = .ok (.getfield 24, 3) := by decide +kernel
theorem dX4_readsLine_156 : decode cX4_readsLine 156 = .ok (.invokevirtual 48, 3) := by decide +kernel
theorem dX4_readsLine_159 : decode cX4_readsLine 159 = .ok (.aload_n 0, 1) := by decide +kernel
theorem dX4_readsLine_160 : decode cX4_readsLine 160 = .ok (.getfield 24, 3) := by decide +kernel
theorem dX4_readsLine_163 : decode cX4_readsLine 163 = .ok (.getfield 51, 3) := by decide +kernel
theorem dX4_readsLine_166 : decode cX4_readsLine 166 = .ok (.iconst 3, 1) := by decide +kernel
theorem dX4_readsLine_167 : decode cX4_readsLine 167 = .ok (.if_icmp .eq 9, 3) := by decide +kernel
theorem dX4_readsLine_170 : decode cX4_readsLine 170 = .ok (.aload_n 0, 1) := by decide +kernel
theorem dX4_readsLine_171 : decode cX4_readsLine 171 = .ok (.iconst 1, 1) := by decide +kernel
theorem dX4_readsLine_172 : decode cX4_readsLine 172 = .ok (.invokevirtual 65, 3) := by decide +kernel
theorem dX4_readsLine_175 : decode cX4_readsLine 175 = .ok (.ireturn, 1) := by decide +kernel
theorem dX4_readsLine_176 : decode cX4_readsLine 176 = .ok (.aload_n 0, 1) := by decide +kernel
theorem dX4_readsLine_177 : decode cX4_readsLine 177 = .ok (.aload_n 1, 1) := by decide +kernel
theorem dX4_readsLine_178 : decode cX4_readsLine 178 = .ok (.iload_n 2, 1) := by decide +kernel
theorem dX4_readsLine_179 : decode cX4_readsLine 179 = .ok (.invokevirtual 97, 3) := by decide +kernel
theorem dX4_readsLine_182 : decode cX4_readsLine 182 = .ok (.iconst 1, 1) := by decide +kernel
theorem dX4_readsLine_183 : decode cX4_readsLine 183 = .ok (.ireturn, 1) := by decide +kernel
theorem dX4_readsNumber_0 : decode cX4_readsNumber 0 = .ok (.aload_n 0, 1) := by decide +kernel
theorem dX4_readsNumber_1 : decode cX4_readsNumber 1 = .ok (.getfield 24, 3) := by decide +kernel
theorem dX4_readsNumber_4 : decode cX4_readsNumber 4 = .ok (.getfield 51, 3) := by decide +kernel
theorem dX4_readsNumber_7 : decode cX4_readsNumber 7 = .ok (.iconst 2, 1) := by decide +kernel
theorem dX4_readsNumber_8 : decode cX4_readsNumber 8 = .ok (.if_icmp .ne 8, 3) := by decide +kernel
theorem dX4_readsNumber_11 : decode cX4_readsNumber 11 = .ok (.iload_n 3, 1) := by decide +kernel
theorem dX4_readsNumber_12 : decode cX4_readsNumber 12 = .ok (.iconst 5, 1) := by decide +kernel
theorem dX4_readsNumber_13 : decode cX4_readsNumber 13 = .ok (.if_icmp .lt 9, 3) := by decide +kernel
theorem dX4_readsNumber_16 : decode cX4_readsNumber 16 = .ok (.aload_n 0, 1) := by decide +kernel
theorem dX4_readsNumber_17 : decode cX4_readsNumber 17 = .ok (.iconst 1, 1) := by decide +kernel
theorem dX4_readsNumber_18 : decode cX4_readsNumber 18 = .ok (.invokevirtual 65, 3) := by decide +kernel
theorem dX4_readsNumber_21 : decode cX4_readsNumber 21 = .ok (.ireturn, 1) := by decide +kernel
theorem dX4_readsNumber_22 : decode cX4_readsNumber 22 = .ok (.aload_n 0, 1) := by decide +kernel
theorem dX4_readsNumber_23 : decode cX4_readsNumber 23 = .ok (.getfield 24, 3) := by decide +kernel
theorem dX4_readsNumber_26 : decode cX4_readsNumber 26 = .ok (.getfield 101, 3) := by decide +kernel
theorem dX4_readsNumber_29 : decode cX4_readsNumber 29 = .ok (.istore 4, 2) := by decide +kernel
theorem dX4_readsNumber_31 : decode cX4_readsNumber 31 = .ok (.iload 4, 2) := by decide +kernel
theorem dX4_readsNumber_33 : decode cX4_readsNumber 33 = .ok (.aload_n 0, 1) := by decide +kernel
theorem dX4_readsNumber_34 : decode cX4_readsNumber 34 = .ok (.iload_n 2, 1) := by decide +kernel
theorem dX4_readsNumber_35 : decode cX4_readsNumber 35 = .ok (.iload_n 3, 1) := by decide +kernel
theorem dX4_readsNumber_36 : decode cX4_readsNumber 36 = .ok (.invokevirtual 104, 3) := by decide +kernel
theorem dX4_readsNumber_39 : decode cX4_readsNumber 39 = .ok (.if_icmp .lt 15, 3) := by decide +kernel
theorem dX4_readsNumber_42 : decode cX4_readsNumber 42 = .ok (.iload 4, 2) := by decide +kernel
theorem dX4_readsNumber_44 : decode cX4_readsNumber 44 = .ok (.aload_n 0, 1) := by decide +kernel
theorem dX4_readsNumber_45 : decode cX4_readsNumber 45 = .ok (.aload_n 1, 1) := by decide +kernel
theorem dX4_readsNumber_46 : decode cX4_readsNumber 46 = .ok (.iload_n 2, 1) := by decide +kernel
theorem dX4_readsNumber_47 : decode cX4_readsNumber 47 = .ok (.iload_n 3, 1) := by decide +kernel
theorem dX4_readsNumber_48 : decode cX4_readsNumber 48 = .ok (.invokevirtual 108, 3) := by decide +kernel
theorem dX4_readsNumber_51 : decode cX4_readsNumber 51 = .ok (.if_icmp .le 9, 3) := by decide +kernel
theorem dX4_readsNumber_54 : decode cX4_readsNumber 54 = .ok (.aload_n 0, 1) := by decide +kernel
theorem dX4_readsNumber_55 : decode cX4_readsNumber 55 = .ok (.iconst 2, 1) := by decide +kernel
theorem dX4_readsNumber_56 : decode cX4_readsNumber 56 = .ok (.invokevirtual 65, 3) := by decide +kernel
theorem dX4_readsNumber_59 : decode cX4_readsNumber 59 = .ok (.ireturn, 1) := by decide +kernel
theorem dX4_readsNumber_60 : decode cX4_readsNumber 60 = .ok (.iload_n 2, 1) := by decide +kernel
theorem dX4_readsNumber_61 : decode cX4_readsNumber 61 = .ok (.iconst 5, 1) := by decide +kernel
theorem dX4_readsNumber_62 : decode cX4_readsNumber 62 = .ok (.if_icmp .ne 25, 3) := by decide +kernel
theorem dX4_readsNumber_65 : decode cX4_readsNumber 65 = .ok (.iload_n 3, 1) := by decide +kernel
theorem dX4_readsNumber_66 : decode cX4_readsNumber 66 = .ok (.iconst 1, 1) := by decide +kernel
theorem dX4_readsNumber_67 : decode cX4_readsNumber 67 = .ok (.if_icmp .ne 20, 3) := by decide +kernel
theorem dX4_readsNumber_70 : decode cX4_readsNumber 70 = .ok (.iload 4, 2) := by decide +kernel
theorem dX4_readsNumber_72 : decode cX4_readsNumber 72 = .ok (.aload_n 0, 1) := by decide +kernel
theorem dX4_readsNumber_73 : decode cX4_readsNumber 73 = .ok (.getfield 11, 3) := by decide +kernel
theorem dX4_readsNumber_76 : decode cX4_readsNumber 76 = .ok (.iconst 0, 1) := by decide +kernel
theorem dX4_readsNumber_77 : decode cX4_readsNumber 77 = .ok (.iaload, 1) := by decide +kernel
theorem dX4_readsNumber_78 : decode cX4_readsNumber 78 = .ok (.if_icmp .ne 9, 3) := by decide +kernel
theorem dX4_readsNumber_81 : decode cX4_readsNumber 81 = .ok (.aload_n 0, 1) := by decide +kernel
theorem dX4_readsNumber_82 : decode cX4_readsNumber 82 = .ok (.iconst 2, 1) := by decide +kernel
theorem dX4_readsNumber_83 : decode cX4_readsNumber 83 = .ok (.invokevirtual 65, 3) := by decide +kernel
theorem dX4_readsNumber_86 : decode cX4_readsNumber 86 = .ok (.ireturn, 1) := by decide +kernel
theorem dX4_readsNumber_87 : decode cX4_readsNumber 87 = .ok (.aload_n 0, 1) := by decide +kernel
theorem dX4_readsNumber_88 : decode cX4_readsNumber 88 = .ok (.getfield 11, 3) := by decide +kernel
theorem dX4_readsNumber_91 : decode cX4_readsNumber 91 = .ok (.iload_n 3, 1) := by decide +kernel
theorem dX4_readsNumber_92 : decode cX4_readsNumber 92 = .ok (.iload 4, 2) := by decide +kernel
theorem dX4_readsNumber_94 : decode cX4_readsNumber 94 = .ok (.iastore, 1) := by decide +kernel
theorem dX4_readsNumber_95 : decode cX4_readsNumber 95 = .ok (.iconst 1, 1) := by decide +kernel
theorem dX4_readsNumber_96 : decode cX4_readsNumber 96 = .ok (.ireturn, 1) := by decide +kernel
theorem dX4_fails_0 : decode cX4_fails 0 = .ok (.aload_n 0, 1) := by decide +kernel
theorem dX4_fails_1 : decode cX4_fails 1 = .ok (.iload_n 1, 1) := by decide +kernel
theorem dX4_fails_2 : decode cX4_fails 2 = .ok (.putfield 37, 3) := by decide +kernel
theorem dX4_fails_5 : decode cX4_fails 5 = .ok (.aload_n 0, 1) := by decide +kernel
theorem dX4_fails_6 : decode cX4_fails 6 = .ok (.aload_n 0, 1) := by decide +kernel
theorem dX4_fails_7 : decode cX4_fails 7 = .ok (.getfield 24, 3) := by decide +kernel
theorem dX4_fails_10 : decode cX4_fails 10 = .ok (.getfield 112, 3) := by decide +kernel
theorem dX4_fails_13 : decode cX4_fails 13 = .ok (.putfield 28, 3) := by decide +kernel
theorem dX4_fails_16 : decode cX4_fails 16 = .ok (.iconst 0, 1) := by decide +kernel
theorem dX4_fails_17 : decode cX4_fails 17 = .ok (.ireturn, 1) := by decide +kernel
theorem dX4_lineOfWord_0 : decode cX4_lineOfWord 0 = .ok (.iconst 0, 1) := by decide +kernel
theorem dX4_lineOfWord_1 : decode cX4_lineOfWord 1 = .ok (.istore_n 1, 1) := by decide +kernel
theorem dX4_lineOfWord_2 : decode cX4_lineOfWord 2 = .ok (.iload_n 1, 1) := by decide +kernel
theorem dX4_lineOfWord_3 : decode cX4_lineOfWord 3 = .ok (.bipush 7, 2) := by decide +kernel
theorem dX4_lineOfWord_5 : decode cX4_lineOfWord 5 = .ok (.if_icmp .ge 33, 3) := by decide +kernel
theorem dX4_lineOfWord_8 : decode cX4_lineOfWord 8 = .ok (.iload_n 1, 1) := by decide +kernel
theorem dX4_lineOfWord_9 : decode cX4_lineOfWord 9 = .ok (.invokestatic 73, 3) := by decide +kernel
theorem dX4_lineOfWord_12 : decode cX4_lineOfWord 12 = .ok (.astore_n 2, 1) := by decide +kernel
theorem dX4_lineOfWord_13 : decode cX4_lineOfWord 13 = .ok (.aload_n 0, 1) := by decide +kernel
theorem dX4_lineOfWord_14 : decode cX4_lineOfWord 14 = .ok (.getfield 24, 3) := by decide +kernel
theorem dX4_lineOfWord_17 : decode cX4_lineOfWord 17 = .ok (.aload_n 2, 1) := by decide +kernel
theorem dX4_lineOfWord_18 : decode cX4_lineOfWord 18 = .ok (.iconst 0, 1) := by decide +kernel
theorem dX4_lineOfWord_19 : decode cX4_lineOfWord 19 = .ok (.aload_n 2, 1) := by decide +kernel
theorem dX4_lineOfWord_20 : decode cX4_lineOfWord 20 = .ok (.iconst 0, 1) := by decide +kernel
theorem dX4_lineOfWord_21 : decode cX4_lineOfWord 21 = .ok (.invokestatic 77, 3) := by decide +kernel
theorem dX4_lineOfWord_24 : decode cX4_lineOfWord 24 = .ok (.invokevirtual 89, 3) := by decide +kernel
theorem dX4_lineOfWord_27 : decode cX4_lineOfWord 27 = .ok (.ifCond .eq 5, 3) := by decide +kernel
theorem dX4_lineOfWord_30 : decode cX4_lineOfWord 30 = .ok (.iload_n 1, 1) := by decide +kernel
theorem dX4_lineOfWord_31 : decode cX4_lineOfWord 31 = .ok (.ireturn, 1) := by decide +kernel
theorem dX4_lineOfWord_32 : decode cX4_lineOfWord 32 = .ok (.iinc 1 1, 3) := by decide +kernel
theorem dX4_lineOfWord_35 : decode cX4_lineOfWord 35 = .ok (.goto (-33), 3) := by decide +kernel
theorem dX4_lineOfWord_38 : decode cX4_lineOfWord 38 = .ok (.iconst (-1), 1) := by decide +kernel
theorem dX4_lineOfWord_39 : decode cX4_lineOfWord 39 = .ok (.ireturn, 1) := by decide +kernel
theorem dX4_formOf_0 : decode cX4_formOf 0 = .ok (.iload_n 0, 1) := by decide +kernel
theorem dX4_formOf_1 : decode cX4_formOf 1 = .ok (.tableswitch 57 0 5 #[39, 42, 45, 48, 51, 54], 39) := by decide +kernel
theorem dX4_formOf_40 : decode cX4_formOf 40 = .ok (.ldc 115, 2) := by decide +kernel
theorem dX4_formOf_42 : decode cX4_formOf 42 = .ok (.areturn, 1) := by decide +kernel
theorem dX4_formOf_43 : decode cX4_formOf 43 = .ok (.ldc 117, 2) := by decide +kernel
theorem dX4_formOf_45 : decode cX4_formOf 45 = .ok (.areturn, 1) := by decide +kernel
theorem dX4_formOf_46 : decode cX4_formOf 46 = .ok (.ldc 119, 2) := by decide +kernel
theorem dX4_formOf_48 : decode cX4_formOf 48 = .ok (.areturn, 1) := by decide +kernel
theorem dX4_formOf_49 : decode cX4_formOf 49 = .ok (.ldc 121, 2) := by decide +kernel
theorem dX4_formOf_51 : decode cX4_formOf 51 = .ok (.areturn, 1) := by decide +kernel
theorem dX4_formOf_52 : decode cX4_formOf 52 = .ok (.ldc 123, 2) := by decide +kernel
theorem dX4_formOf_54 : decode cX4_formOf 54 = .ok (.areturn, 1) := by decide +kernel
theorem dX4_formOf_55 : decode cX4_formOf 55 = .ok (.ldc 125, 2) := by decide +kernel
theorem dX4_formOf_57 : decode cX4_formOf 57 = .ok (.areturn, 1) := by decide +kernel
theorem dX4_formOf_58 : decode cX4_formOf 58 = .ok (.ldc 127, 2) := by decide +kernel
theorem dX4_formOf_60 : decode cX4_formOf 60 = .ok (.areturn, 1) := by decide +kernel
theorem dX4_wordEnd_0 : decode cX4_wordEnd 0 = .ok (.iload_n 1, 1) := by decide +kernel
theorem dX4_wordEnd_1 : decode cX4_wordEnd 1 = .ok (.istore_n 2, 1) := by decide +kernel
theorem dX4_wordEnd_2 : decode cX4_wordEnd 2 = .ok (.iload_n 2, 1) := by decide +kernel
theorem dX4_wordEnd_3 : decode cX4_wordEnd 3 = .ok (.aload_n 0, 1) := by decide +kernel
theorem dX4_wordEnd_4 : decode cX4_wordEnd 4 = .ok (.invokevirtual 81, 3) := by decide +kernel
theorem dX4_wordEnd_7 : decode cX4_wordEnd 7 = .ok (.if_icmp .ge 19, 3) := by decide +kernel
theorem dX4_wordEnd_10 : decode cX4_wordEnd 10 = .ok (.aload_n 0, 1) := by decide +kernel
theorem dX4_wordEnd_11 : decode cX4_wordEnd 11 = .ok (.iload_n 2, 1) := by decide +kernel
theorem dX4_wordEnd_12 : decode cX4_wordEnd 12 = .ok (.invokevirtual 85, 3) := by decide +kernel
theorem dX4_wordEnd_15 : decode cX4_wordEnd 15 = .ok (.bipush 32, 2) := by decide +kernel
theorem dX4_wordEnd_17 : decode cX4_wordEnd 17 = .ok (.if_icmp .eq 9, 3) := by decide +kernel
theorem dX4_wordEnd_20 : decode cX4_wordEnd 20 = .ok (.iinc 2 1, 3) := by decide +kernel
theorem dX4_wordEnd_23 : decode cX4_wordEnd 23 = .ok (.goto (-21), 3) := by decide +kernel
theorem dX4_wordEnd_26 : decode cX4_wordEnd 26 = .ok (.iload_n 2, 1) := by decide +kernel
theorem dX4_wordEnd_27 : decode cX4_wordEnd 27 = .ok (.ireturn, 1) := by decide +kernel
theorem dX4_isFull_0 : decode cX4_isFull 0 = .ok (.iload_n 1, 1) := by decide +kernel
theorem dX4_isFull_1 : decode cX4_isFull 1 = .ok (.tableswitch 67 1 5 #[35, 43, 67, 51, 59], 35) := by decide +kernel
theorem dX4_isFull_36 : decode cX4_isFull 36 = .ok (.aload_n 0, 1) := by decide +kernel
theorem dX4_isFull_37 : decode cX4_isFull 37 = .ok (.getfield 129, 3) := by decide +kernel
theorem dX4_isFull_40 : decode cX4_isFull 40 = .ok (.invokevirtual 133, 3) := by decide +kernel
theorem dX4_isFull_43 : decode cX4_isFull 43 = .ok (.ireturn, 1) := by decide +kernel
theorem dX4_isFull_44 : decode cX4_isFull 44 = .ok (.aload_n 0, 1) := by decide +kernel
theorem dX4_isFull_45 : decode cX4_isFull 45 = .ok (.getfield 138, 3) := by decide +kernel
theorem dX4_isFull_48 : decode cX4_isFull 48 = .ok (.invokevirtual 133, 3) := by decide +kernel
theorem dX4_isFull_51 : decode cX4_isFull 51 = .ok (.ireturn, 1) := by decide +kernel
theorem dX4_isFull_52 : decode cX4_isFull 52 = .ok (.aload_n 0, 1) := by decide +kernel
theorem dX4_isFull_53 : decode cX4_isFull 53 = .ok (.getfield 141, 3) := by decide +kernel
theorem dX4_isFull_56 : decode cX4_isFull 56 = .ok (.invokevirtual 133, 3) := by decide +kernel
theorem dX4_isFull_59 : decode cX4_isFull 59 = .ok (.ireturn, 1) := by decide +kernel
theorem dX4_isFull_60 : decode cX4_isFull 60 = .ok (.aload_n 0, 1) := by decide +kernel
theorem dX4_isFull_61 : decode cX4_isFull 61 = .ok (.getfield 144, 3) := by decide +kernel
theorem dX4_isFull_64 : decode cX4_isFull 64 = .ok (.invokevirtual 133, 3) := by decide +kernel
theorem dX4_isFull_67 : decode cX4_isFull 67 = .ok (.ireturn, 1) := by decide +kernel
theorem dX4_isFull_68 : decode cX4_isFull 68 = .ok (.iconst 0, 1) := by decide +kernel
theorem dX4_isFull_69 : decode cX4_isFull 69 = .ok (.ireturn, 1) := by decide +kernel
theorem dX4_least_0 : decode cX4_least 0 = .ok (.iload_n 1, 1) := by decide +kernel
theorem dX4_least_1 : decode cX4_least 1 = .ok (.lookupswitch 97 #[(0, 35), (2, 45), (5, 70)], 35) := by decide +kernel
theorem dX4_least_36 : decode cX4_least 36 = .ok (.iload_n 2, 1) := by decide +kernel
theorem dX4_least_37 : decode cX4_least 37 = .ok (.ifCond .ne 7, 3) := by decide +kernel
theorem dX4_least_40 : decode cX4_least 40 = .ok (.iconst 4, 1) := by decide +kernel
theorem dX4_least_41 : decode cX4_least 41 = .ok (.goto 4, 3) := by decide +kernel
theorem dX4_least_44 : decode cX4_least 44 = .ok (.iconst 0, 1) := by decide +kernel
theorem dX4_least_45 : decode cX4_least 45 = .ok (.ireturn, 1) := by decide +kernel
theorem dX4_least_46 : decode cX4_least 46 = .ok (.iload_n 2, 1) := by decide +kernel
theorem dX4_least_47 : decode cX4_least 47 = .ok (.iconst 1, 1) := by decide +kernel
theorem dX4_least_48 : decode cX4_least 48 = .ok (.if_icmp .ne 7, 3) := by decide +kernel
theorem dX4_least_51 : decode cX4_least 51 = .ok (.iconst 1, 1) := by decide +kernel
theorem dX4_least_52 : decode cX4_least 52 = .ok (.goto 18, 3) := by decide +kernel
theorem dX4_least_55 : decode cX4_least 55 = .ok (.iload_n 2, 1) := by decide +kernel
theorem dX4_least_56 : decode cX4_least 56 = .ok (.iconst 4, 1) := by decide +kernel
theorem dX4_least_57 : decode cX4_least 57 = .ok (.if_icmp .ne 12, 3) := by decide +kernel
theorem dX4_least_60 : decode cX4_least 60 = .ok (.aload_n 0, 1) := by decide +kernel
theorem dX4_least_61 : decode cX4_least 61 = .ok (.getfield 11, 3) := by decide +kernel
theorem dX4_least_64 : decode cX4_least 64 = .ok (.iconst 3, 1) := by decide +kernel
theorem dX4_least_65 : decode cX4_least 65 = .ok (.iaload, 1) := by decide +kernel
theorem dX4_least_66 : decode cX4_least 66 = .ok (.goto 4, 3) := by decide +kernel
theorem dX4_least_69 : decode cX4_least 69 = .ok (.iconst 0, 1) := by decide +kernel
theorem dX4_least_70 : decode cX4_least 70 = .ok (.ireturn, 1) := by decide +kernel
theorem dX4_least_71 : decode cX4_least 71 = .ok (.iload_n 2, 1) := by decide +kernel
theorem dX4_least_72 : decode cX4_least 72 = .ok (.iconst 2, 1) := by decide +kernel
theorem dX4_least_73 : decode cX4_least 73 = .ok (.if_icmp .ne 7, 3) := by decide +kernel
theorem dX4_least_76 : decode cX4_least 76 = .ok (.iconst 1, 1) := by decide +kernel
theorem dX4_least_77 : decode cX4_least 77 = .ok (.goto 20, 3) := by decide +kernel
theorem dX4_least_80 : decode cX4_least 80 = .ok (.iload_n 2, 1) := by decide +kernel
theorem dX4_least_81 : decode cX4_least 81 = .ok (.iconst 4, 1) := by decide +kernel
theorem dX4_least_82 : decode cX4_least 82 = .ok (.if_icmp .ne 14, 3) := by decide +kernel
theorem dX4_least_85 : decode cX4_least 85 = .ok (.aload_n 0, 1) := by decide +kernel
theorem dX4_least_86 : decode cX4_least 86 = .ok (.getfield 11, 3) := by decide +kernel
theorem dX4_least_89 : decode cX4_least 89 = .ok (.iconst 3, 1) := by decide +kernel
theorem dX4_least_90 : decode cX4_least 90 = .ok (.iaload, 1) := by decide +kernel
theorem dX4_least_91 : decode cX4_least 91 = .ok (.iconst 1, 1) := by decide +kernel
theorem dX4_least_92 : decode cX4_least 92 = .ok (.iadd, 1) := by decide +kernel
theorem dX4_least_93 : decode cX4_least 93 = .ok (.goto 4, 3) := by decide +kernel
theorem dX4_least_96 : decode cX4_least 96 = .ok (.iconst 0, 1) := by decide +kernel
theorem dX4_least_97 : decode cX4_least 97 = .ok (.ireturn, 1) := by decide +kernel
theorem dX4_least_98 : decode cX4_least 98 = .ok (.iconst 0, 1) := by decide +kernel
theorem dX4_least_99 : decode cX4_least 99 = .ok (.ireturn, 1) := by decide +kernel
theorem dX4_most_0 : decode cX4_most 0 = .ok (.aload_n 1, 1) := by decide +kernel
theorem dX4_most_1 : decode cX4_most 1 = .ok (.getfield 147, 3) := by decide +kernel
theorem dX4_most_4 : decode cX4_most 4 = .ok (.iconst 1, 1) := by decide +kernel
theorem dX4_most_5 : decode cX4_most 5 = .ok (.isub, 1) := by decide +kernel
theorem dX4_most_6 : decode cX4_most 6 = .ok (.istore 4, 2) := by decide +kernel
theorem dX4_most_8 : decode cX4_most 8 = .ok (.aload_n 1, 1) := by decide +kernel
theorem dX4_most_9 : decode cX4_most 9 = .ok (.getfield 129, 3) := by decide +kernel
theorem dX4_most_12 : decode cX4_most 12 = .ok (.getfield 150, 3) := by decide +kernel
theorem dX4_most_15 : decode cX4_most 15 = .ok (.iconst 1, 1) := by decide +kernel
theorem dX4_most_16 : decode cX4_most 16 = .ok (.isub, 1) := by decide +kernel
theorem dX4_most_17 : decode cX4_most 17 = .ok (.istore 5, 2) := by decide +kernel
theorem dX4_most_19 : decode cX4_most 19 = .ok (.iload_n 2, 1) := by decide +kernel
theorem dX4_most_20 : decode cX4_most 20 = .ok (.tableswitch 176 0 5 #[40, 68, 95, 117, 129, 152], 40) := by decide +kernel
theorem dX4_most_60 : decode cX4_most 60 = .ok (.iload_n 3, 1) := by decide +kernel
theorem dX4_most_61 : decode cX4_most 61 = .ok (.ifCond .ne 8, 3) := by decide +kernel
theorem dX4_most_64 : decode cX4_most 64 = .ok (.bipush 30, 2) := by decide +kernel
theorem dX4_most_66 : decode cX4_most 66 = .ok (.goto 21, 3) := by decide +kernel
theorem dX4_most_69 : decode cX4_most 69 = .ok (.iload_n 3, 1) := by decide +kernel
theorem dX4_most_70 : decode cX4_most 70 = .ok (.iconst 1, 1) := by decide +kernel
theorem dX4_most_71 : decode cX4_most 71 = .ok (.if_icmp .ne 8, 3) := by decide +kernel
theorem dX4_most_74 : decode cX4_most 74 = .ok (.bipush 100, 2) := by decide +kernel
theorem dX4_most_76 : decode cX4_most 76 = .ok (.goto 11, 3) := by decide +kernel
theorem dX4_most_79 : decode cX4_most 79 = .ok (.aload_n 0, 1) := by decide +kernel
theorem dX4_most_80 : decode cX4_most 80 = .ok (.getfield 11, 3) := by decide +kernel
theorem dX4_most_83 : decode cX4_most 83 = .ok (.iconst 0, 1) := by decide +kernel
theorem dX4_most_84 : decode cX4_most 84 = .ok (.iaload, 1) := by decide +kernel
theorem dX4_most_85 : decode cX4_most 85 = .ok (.iconst 1, 1) := by decide +kernel
theorem dX4_most_86 : decode cX4_most 86 = .ok (.isub, 1) := by decide +kernel
theorem dX4_most_87 : decode cX4_most 87 = .ok (.ireturn, 1) := by decide +kernel
theorem dX4_most_88 : decode cX4_most 88 = .ok (.iload_n 3, 1) := by decide +kernel
theorem dX4_most_89 : decode cX4_most 89 = .ok (.ifCond .ne 9, 3) := by decide +kernel
theorem dX4_most_92 : decode cX4_most 92 = .ok (.sipush 9999, 3) := by decide +kernel
theorem dX4_most_95 : decode cX4_most 95 = .ok (.goto 19, 3) := by decide +kernel
theorem dX4_most_98 : decode cX4_most 98 = .ok (.iload_n 3, 1) := by decide +kernel
theorem dX4_most_99 : decode cX4_most 99 = .ok (.iconst 1, 1) := by decide +kernel
theorem dX4_most_100 : decode cX4_most 100 = .ok (.if_icmp .ne 12, 3) := by decide +kernel
theorem dX4_most_103 : decode cX4_most 103 = .ok (.aload_n 0, 1) := by decide +kernel
theorem dX4_most_104 : decode cX4_most 104 = .ok (.getfield 11, 3) := by decide +kernel
theorem dX4_most_107 : decode cX4_most 107 = .ok (.iconst 0, 1) := by decide +kernel
theorem dX4_most_108 : decode cX4_most 108 = .ok (.iaload, 1) := by decide +kernel
theorem dX4_most_109 : decode cX4_most 109 = .ok (.goto 5, 3) := by decide +kernel
theorem dX4_most_112 : decode cX4_most 112 = .ok (.bipush 99, 2) := by decide +kernel
theorem dX4_most_114 : decode cX4_most 114 = .ok (.ireturn, 1) := by decide +kernel
theorem dX4_most_115 : decode cX4_most 115 = .ok (.iload_n 3, 1) := by decide +kernel
theorem dX4_most_116 : decode cX4_most 116 = .ok (.ifCond .ne 8, 3) := by decide +kernel
theorem dX4_most_119 : decode cX4_most 119 = .ok (.iload 5, 2) := by decide +kernel
theorem dX4_most_121 : decode cX4_most 121 = .ok (.goto 15, 3) := by decide +kernel
theorem dX4_most_124 : decode cX4_most 124 = .ok (.iload_n 3, 1) := by decide +kernel
theorem dX4_most_125 : decode cX4_most 125 = .ok (.iconst 2, 1) := by decide +kernel
theorem dX4_most_126 : decode cX4_most 126 = .ok (.if_icmp .gt 8, 3) := by decide +kernel
theorem dX4_most_129 : decode cX4_most 129 = .ok (.bipush 99, 2) := by decide +kernel
theorem dX4_most_131 : decode cX4_most 131 = .ok (.goto 5, 3) := by decide +kernel
theorem dX4_most_134 : decode cX4_most 134 = .ok (.iload 4, 2) := by decide +kernel
theorem dX4_most_136 : decode cX4_most 136 = .ok (.ireturn, 1) := by decide +kernel
theorem dX4_most_137 : decode cX4_most 137 = .ok (.iload_n 3, 1) := by decide +kernel
theorem dX4_most_138 : decode cX4_most 138 = .ok (.ifCond .ne 8, 3) := by decide +kernel
theorem dX4_most_141 : decode cX4_most 141 = .ok (.iload 4, 2) := by decide +kernel
theorem dX4_most_143 : decode cX4_most 143 = .ok (.goto 5, 3) := by decide +kernel
theorem dX4_most_146 : decode cX4_most 146 = .ok (.bipush 99, 2) := by decide +kernel
theorem dX4_most_148 : decode cX4_most 148 = .ok (.ireturn, 1) := by decide +kernel
theorem dX4_most_149 : decode cX4_most 149 = .ok (.iload_n 3, 1) := by decide +kernel
theorem dX4_most_150 : decode cX4_most 150 = .ok (.ifCond .ne 8, 3) := by decide +kernel
theorem dX4_most_153 : decode cX4_most 153 = .ok (.iload 4, 2) := by decide +kernel
theorem dX4_most_155 : decode cX4_most 155 = .ok (.goto 16, 3) := by decide +kernel
theorem dX4_most_158 : decode cX4_most 158 = .ok (.iload_n 3, 1) := by decide +kernel
theorem dX4_most_159 : decode cX4_most 159 = .ok (.iconst 1, 1) := by decide +kernel
theorem dX4_most_160 : decode cX4_most 160 = .ok (.if_icmp .ne 9, 3) := by decide +kernel
theorem dX4_most_163 : decode cX4_most 163 = .ok (.sipush 9999, 3) := by decide +kernel
theorem dX4_most_166 : decode cX4_most 166 = .ok (.goto 5, 3) := by decide +kernel
theorem dX4_most_169 : decode cX4_most 169 = .ok (.bipush 100, 2) := by decide +kernel
theorem dX4_most_171 : decode cX4_most 171 = .ok (.ireturn, 1) := by decide +kernel
theorem dX4_most_172 : decode cX4_most 172 = .ok (.iload_n 3, 1) := by decide +kernel
theorem dX4_most_173 : decode cX4_most 173 = .ok (.iconst 1, 1) := by decide +kernel
theorem dX4_most_174 : decode cX4_most 174 = .ok (.if_icmp .gt 8, 3) := by decide +kernel
theorem dX4_most_177 : decode cX4_most 177 = .ok (.iload 5, 2) := by decide +kernel
theorem dX4_most_179 : decode cX4_most 179 = .ok (.goto 16, 3) := by decide +kernel
theorem dX4_most_182 : decode cX4_most 182 = .ok (.iload_n 3, 1) := by decide +kernel
theorem dX4_most_183 : decode cX4_most 183 = .ok (.iconst 2, 1) := by decide +kernel
theorem dX4_most_184 : decode cX4_most 184 = .ok (.if_icmp .ne 9, 3) := by decide +kernel
theorem dX4_most_187 : decode cX4_most 187 = .ok (.sipush 9999, 3) := by decide +kernel
theorem dX4_most_190 : decode cX4_most 190 = .ok (.goto 5, 3) := by decide +kernel
theorem dX4_most_193 : decode cX4_most 193 = .ok (.iload 4, 2) := by decide +kernel
theorem dX4_most_195 : decode cX4_most 195 = .ok (.ireturn, 1) := by decide +kernel
theorem dX4_most_196 : decode cX4_most 196 = .ok (.iload_n 3, 1) := by decide +kernel
theorem dX4_most_197 : decode cX4_most 197 = .ok (.ifCond .ne 8, 3) := by decide +kernel
theorem dX4_most_200 : decode cX4_most 200 = .ok (.iload 5, 2) := by decide +kernel
theorem dX4_most_202 : decode cX4_most 202 = .ok (.goto 6, 3) := by decide +kernel
theorem dX4_most_205 : decode cX4_most 205 = .ok (.sipush 9999, 3) := by decide +kernel
theorem dX4_most_208 : decode cX4_most 208 = .ok (.ireturn, 1) := by decide +kernel
theorem dX4_keep_0 : decode cX4_keep 0 = .ok (.aload_n 1, 1) := by decide +kernel
theorem dX4_keep_1 : decode cX4_keep 1 = .ok (.dup, 1) := by decide +kernel
theorem dX4_keep_2 : decode cX4_keep 2 = .ok (.getfield 62, 3) := by decide +kernel
theorem dX4_keep_5 : decode cX4_keep 5 = .ok (.iconst 1, 1) := by decide +kernel
theorem dX4_keep_6 : decode cX4_keep 6 = .ok (.iadd, 1) := by decide +kernel
theorem dX4_keep_7 : decode cX4_keep 7 = .ok (.putfield 62, 3) := by decide +kernel
theorem dX4_keep_10 : decode cX4_keep 10 = .ok (.iload_n 2, 1) := by decide +kernel
theorem dX4_keep_11 : decode cX4_keep 11 = .ok (.tableswitch 181 0 5 #[37, 70, 102, 116, 135, 167], 37) := by decide +kernel
theorem dX4_keep_48 : decode cX4_keep 48 = .ok (.aload_n 1, 1) := by decide +kernel
theorem dX4_keep_49 : decode cX4_keep 49 = .ok (.aload_n 0, 1) := by decide +kernel
theorem dX4_keep_50 : decode cX4_keep 50 = .ok (.getfield 11, 3) := by decide +kernel
theorem dX4_keep_53 : decode cX4_keep 53 = .ok (.iconst 0, 1) := by decide +kernel
theorem dX4_keep_54 : decode cX4_keep 54 = .ok (.iaload, 1) := by decide +kernel
theorem dX4_keep_55 : decode cX4_keep 55 = .ok (.putfield 147, 3) := by decide +kernel
theorem dX4_keep_58 : decode cX4_keep 58 = .ok (.aload_n 1, 1) := by decide +kernel
theorem dX4_keep_59 : decode cX4_keep 59 = .ok (.aload_n 0, 1) := by decide +kernel
theorem dX4_keep_60 : decode cX4_keep 60 = .ok (.getfield 11, 3) := by decide +kernel
theorem dX4_keep_63 : decode cX4_keep 63 = .ok (.iconst 1, 1) := by decide +kernel
theorem dX4_keep_64 : decode cX4_keep 64 = .ok (.iaload, 1) := by decide +kernel
theorem dX4_keep_65 : decode cX4_keep 65 = .ok (.putfield 153, 3) := by decide +kernel
theorem dX4_keep_68 : decode cX4_keep 68 = .ok (.aload_n 1, 1) := by decide +kernel
theorem dX4_keep_69 : decode cX4_keep 69 = .ok (.aload_n 0, 1) := by decide +kernel
theorem dX4_keep_70 : decode cX4_keep 70 = .ok (.getfield 11, 3) := by decide +kernel
theorem dX4_keep_73 : decode cX4_keep 73 = .ok (.iconst 2, 1) := by decide +kernel
theorem dX4_keep_74 : decode cX4_keep 74 = .ok (.iaload, 1) := by decide +kernel
theorem dX4_keep_75 : decode cX4_keep 75 = .ok (.putfield 156, 3) := by decide +kernel
theorem dX4_keep_78 : decode cX4_keep 78 = .ok (.goto 134, 3) := by decide +kernel
theorem dX4_keep_81 : decode cX4_keep 81 = .ok (.aload_n 1, 1) := by decide +kernel
theorem dX4_keep_82 : decode cX4_keep 82 = .ok (.getfield 129, 3) := by decide +kernel
theorem dX4_keep_85 : decode cX4_keep 85 = .ok (.aload_n 0, 1) := by decide +kernel
theorem dX4_keep_86 : decode cX4_keep 86 = .ok (.getfield 11, 3) := by decide +kernel
theorem dX4_keep_89 : decode cX4_keep 89 = .ok (.invokevirtual 159, 3) := by decide +kernel
theorem dX4_keep_92 : decode cX4_keep 92 = .ok (.aload_n 1, 1) := by decide +kernel
theorem dX4_keep_93 : decode cX4_keep 93 = .ok (.getfield 129, 3) := by decide +kernel
theorem dX4_keep_96 : decode cX4_keep 96 = .ok (.aload_n 1, 1) := by decide +kernel
theorem dX4_keep_97 : decode cX4_keep 97 = .ok (.getfield 129, 3) := by decide +kernel
theorem dX4_keep_100 : decode cX4_keep 100 = .ok (.getfield 150, 3) := by decide +kernel
theorem dX4_keep_103 : decode cX4_keep 103 = .ok (.iconst 1, 1) := by decide +kernel
theorem dX4_keep_104 : decode cX4_keep 104 = .ok (.isub, 1) := by decide +kernel
theorem dX4_keep_105 : decode cX4_keep 105 = .ok (.iconst 4, 1) := by decide +kernel
theorem dX4_keep_106 : decode cX4_keep 106 = .ok (.iconst 0, 1) := by decide +kernel
theorem dX4_keep_107 : decode cX4_keep 107 = .ok (.invokevirtual 163, 3) := by decide +kernel
theorem dX4_keep_110 : decode cX4_keep 110 = .ok (.goto 102, 3) := by decide +kernel
theorem dX4_keep_113 : decode cX4_keep 113 = .ok (.aload_n 1, 1) := by decide +kernel
theorem dX4_keep_114 : decode cX4_keep 114 = .ok (.getfield 138, 3) := by decide +kernel
theorem dX4_keep_117 : decode cX4_keep 117 = .ok (.aload_n 0, 1) := by decide +kernel
theorem dX4_keep_118 : decode cX4_keep 118 = .ok (.getfield 11, 3) := by decide +kernel
theorem dX4_keep_121 : decode cX4_keep 121 = .ok (.invokevirtual 159, 3) := by decide +kernel
theorem dX4_keep_124 : decode cX4_keep 124 = .ok (.goto 88, 3) := by decide +kernel
theorem dX4_keep_127 : decode cX4_keep 127 = .ok (.aload_n 1, 1) := by decide +kernel
theorem dX4_keep_128 : decode cX4_keep 128 = .ok (.aload_n 0, 1) := by decide +kernel
theorem dX4_keep_129 : decode cX4_keep 129 = .ok (.getfield 11, 3) := by decide +kernel
theorem dX4_keep_132 : decode cX4_keep 132 = .ok (.iconst 0, 1) := by decide +kernel
theorem dX4_keep_133 : decode cX4_keep 133 = .ok (.iaload, 1) := by decide +kernel
theorem dX4_keep_134 : decode cX4_keep 134 = .ok (.aload_n 0, 1) := by decide +kernel
theorem dX4_keep_135 : decode cX4_keep 135 = .ok (.getfield 11, 3) := by decide +kernel
theorem dX4_keep_138 : decode cX4_keep 138 = .ok (.iconst 1, 1) := by decide +kernel
theorem dX4_keep_139 : decode cX4_keep 139 = .ok (.iaload, 1) := by decide +kernel
theorem dX4_keep_140 : decode cX4_keep 140 = .ok (.invokevirtual 167, 3) := by decide +kernel
theorem dX4_keep_143 : decode cX4_keep 143 = .ok (.goto 69, 3) := by decide +kernel
theorem dX4_keep_146 : decode cX4_keep 146 = .ok (.aload_n 1, 1) := by decide +kernel
theorem dX4_keep_147 : decode cX4_keep 147 = .ok (.getfield 141, 3) := by decide +kernel
theorem dX4_keep_150 : decode cX4_keep 150 = .ok (.aload_n 0, 1) := by decide +kernel
theorem dX4_keep_151 : decode cX4_keep 151 = .ok (.getfield 11, 3) := by decide +kernel
theorem dX4_keep_154 : decode cX4_keep 154 = .ok (.invokevirtual 159, 3) := by decide +kernel
theorem dX4_keep_157 : decode cX4_keep 157 = .ok (.aload_n 1, 1) := by decide +kernel
theorem dX4_keep_158 : decode cX4_keep 158 = .ok (.getfield 141, 3) := by decide +kernel
theorem dX4_keep_161 : decode cX4_keep 161 = .ok (.aload_n 1, 1) := by decide +kernel
theorem dX4_keep_162 : decode cX4_keep 162 = .ok (.getfield 141, 3) := by decide +kernel
theorem dX4_keep_165 : decode cX4_keep 165 = .ok (.getfield 150, 3) := by decide +kernel
theorem dX4_keep_168 : decode cX4_keep 168 = .ok (.iconst 1, 1) := by decide +kernel
theorem dX4_keep_169 : decode cX4_keep 169 = .ok (.isub, 1) := by decide +kernel
theorem dX4_keep_170 : decode cX4_keep 170 = .ok (.iconst 3, 1) := by decide +kernel
theorem dX4_keep_171 : decode cX4_keep 171 = .ok (.iconst (-1), 1) := by decide +kernel
theorem dX4_keep_172 : decode cX4_keep 172 = .ok (.invokevirtual 163, 3) := by decide +kernel
theorem dX4_keep_175 : decode cX4_keep 175 = .ok (.goto 37, 3) := by decide +kernel
theorem dX4_keep_178 : decode cX4_keep 178 = .ok (.aload_n 1, 1) := by decide +kernel
theorem dX4_keep_179 : decode cX4_keep 179 = .ok (.getfield 144, 3) := by decide +kernel
theorem dX4_keep_182 : decode cX4_keep 182 = .ok (.aload_n 0, 1) := by decide +kernel
theorem dX4_keep_183 : decode cX4_keep 183 = .ok (.getfield 11, 3) := by decide +kernel
theorem dX4_keep_186 : decode cX4_keep 186 = .ok (.invokevirtual 159, 3) := by decide +kernel
theorem dX4_keep_189 : decode cX4_keep 189 = .ok (.goto 23, 3) := by decide +kernel
theorem dX4_keep_192 : decode cX4_keep 192 = .ok (.aload_n 1, 1) := by decide +kernel
theorem dX4_keep_193 : decode cX4_keep 193 = .ok (.getfield 129, 3) := by decide +kernel
theorem dX4_keep_196 : decode cX4_keep 196 = .ok (.aload_n 0, 1) := by decide +kernel
theorem dX4_keep_197 : decode cX4_keep 197 = .ok (.getfield 11, 3) := by decide +kernel
theorem dX4_keep_200 : decode cX4_keep 200 = .ok (.iconst 0, 1) := by decide +kernel
theorem dX4_keep_201 : decode cX4_keep 201 = .ok (.iaload, 1) := by decide +kernel
theorem dX4_keep_202 : decode cX4_keep 202 = .ok (.iconst 4, 1) := by decide +kernel
theorem dX4_keep_203 : decode cX4_keep 203 = .ok (.aload_n 0, 1) := by decide +kernel
theorem dX4_keep_204 : decode cX4_keep 204 = .ok (.getfield 11, 3) := by decide +kernel
theorem dX4_keep_207 : decode cX4_keep 207 = .ok (.iconst 1, 1) := by decide +kernel
theorem dX4_keep_208 : decode cX4_keep 208 = .ok (.iaload, 1) := by decide +kernel
theorem dX4_keep_209 : decode cX4_keep 209 = .ok (.invokevirtual 163, 3) := by decide +kernel
theorem dX4_keep_212 : decode cX4_keep 212 = .ok (.return_, 1) := by decide +kernel
theorem dX5_init_0 : decode cX5_init 0 = .ok (.aload_n 0, 1) := by decide +kernel
theorem dX5_init_1 : decode cX5_init 1 = .ok (.invokespecial 1, 3) := by decide +kernel
theorem dX5_init_4 : decode cX5_init 4 = .ok (.aload_n 0, 1) := by decide +kernel
theorem dX5_init_5 : decode cX5_init 5 = .ok (.bipush 60, 2) := by decide +kernel
theorem dX5_init_7 : decode cX5_init 7 = .ok (.newarray .long, 2) := by decide +kernel
theorem dX5_init_9 : decode cX5_init 9 = .ok (.putfield 9, 3) := by decide +kernel
theorem dX5_init_12 : decode cX5_init 12 = .ok (.return_, 1) := by decide +kernel
theorem dX5_begin_0 : decode cX5_begin 0 = .ok (.aload_n 0, 1) := by decide +kernel
theorem dX5_begin_1 : decode cX5_begin 1 = .ok (.iload_n 1, 1) := by decide +kernel
theorem dX5_begin_2 : decode cX5_begin 2 = .ok (.putfield 13, 3) := by decide +kernel
theorem dX5_begin_5 : decode cX5_begin 5 = .ok (.aload_n 0, 1) := by decide +kernel
theorem dX5_begin_6 : decode cX5_begin 6 = .ok (.iload_n 2, 1) := by decide +kernel
theorem dX5_begin_7 : decode cX5_begin 7 = .ok (.putfield 17, 3) := by decide +kernel
theorem dX5_begin_10 : decode cX5_begin 10 = .ok (.aload_n 0, 1) := by decide +kernel
theorem dX5_begin_11 : decode cX5_begin 11 = .ok (.getfield 9, 3) := by decide +kernel
theorem dX5_begin_14 : decode cX5_begin 14 = .ok (.lconst 0, 1) := by decide +kernel
theorem dX5_begin_15 : decode cX5_begin 15 = .ok (.invokestatic 20, 3) := by decide +kernel
theorem dX5_begin_18 : decode cX5_begin 18 = .ok (.return_, 1) := by decide +kernel
theorem dX5_has_0 : decode cX5_has 0 = .ok (.iload_n 1, 1) := by decide +kernel
theorem dX5_has_1 : decode cX5_has 1 = .ok (.ifCond .lt 29, 3) := by decide +kernel
theorem dX5_has_4 : decode cX5_has 4 = .ok (.iload_n 2, 1) := by decide +kernel
theorem dX5_has_5 : decode cX5_has 5 = .ok (.ifCond .lt 25, 3) := by decide +kernel
theorem dX5_has_8 : decode cX5_has 8 = .ok (.iload_n 2, 1) := by decide +kernel
theorem dX5_has_9 : decode cX5_has 9 = .ok (.aload_n 0, 1) := by decide +kernel
theorem dX5_has_10 : decode cX5_has 10 = .ok (.getfield 17, 3) := by decide +kernel
theorem dX5_has_13 : decode cX5_has 13 = .ok (.if_icmp .gt 17, 3) := by decide +kernel
theorem dX5_has_16 : decode cX5_has 16 = .ok (.iload_n 1, 1) := by decide +kernel
theorem dX5_has_17 : decode cX5_has 17 = .ok (.aload_n 0, 1) := by decide +kernel
theorem dX5_has_18 : decode cX5_has 18 = .ok (.getfield 17, 3) := by decide +kernel
theorem dX5_has_21 : decode cX5_has 21 = .ok (.iload_n 2, 1) := by decide +kernel
theorem dX5_has_22 : decode cX5_has 22 = .ok (.isub, 1) := by decide +kernel
theorem dX5_has_23 : decode cX5_has 23 = .ok (.if_icmp .gt 7, 3) := by decide +kernel
theorem dX5_has_26 : decode cX5_has 26 = .ok (.iconst 1, 1) := by decide +kernel
theorem dX5_has_27 : decode cX5_has 27 = .ok (.goto 4, 3) := by decide +kernel
theorem dX5_has_30 : decode cX5_has 30 = .ok (.iconst 0, 1) := by decide +kernel
theorem dX5_has_31 : decode cX5_has 31 = .ok (.ireturn, 1) := by decide +kernel
theorem dX5_number_0 : decode cX5_number 0 = .ok (.iload_n 1, 1) := by decide +kernel
theorem dX5_number_1 : decode cX5_number 1 = .ok (.ifCond .lt 20, 3) := by decide +kernel
theorem dX5_number_4 : decode cX5_number 4 = .ok (.iload_n 1, 1) := by decide +kernel
theorem dX5_number_5 : decode cX5_number 5 = .ok (.aload_n 0, 1) := by decide +kernel
theorem dX5_number_6 : decode cX5_number 6 = .ok (.getfield 17, 3) := by decide +kernel
theorem dX5_number_9 : decode cX5_number 9 = .ok (.if_icmp .ge 12, 3) := by decide +kernel
theorem dX5_number_12 : decode cX5_number 12 = .ok (.aload_n 0, 1) := by decide +kernel
theorem dX5_number_13 : decode cX5_number 13 = .ok (.getfield 9, 3) := by decide +kernel
theorem dX5_number_16 : decode cX5_number 16 = .ok (.iload_n 1, 1) := by decide +kernel
theorem dX5_number_17 : decode cX5_number 17 = .ok (.laload, 1) := by decide +kernel
theorem dX5_number_18 : decode cX5_number 18 = .ok (.goto 4, 3) := by decide +kernel
theorem dX5_number_21 : decode cX5_number 21 = .ok (.lconst 0, 1) := by decide +kernel
theorem dX5_number_22 : decode cX5_number 22 = .ok (.lreturn, 1) := by decide +kernel
theorem dX5_put_0 : decode cX5_put 0 = .ok (.iload_n 1, 1) := by decide +kernel
theorem dX5_put_1 : decode cX5_put 1 = .ok (.ifCond .lt 22, 3) := by decide +kernel
theorem dX5_put_4 : decode cX5_put 4 = .ok (.iload_n 1, 1) := by decide +kernel
theorem dX5_put_5 : decode cX5_put 5 = .ok (.aload_n 0, 1) := by decide +kernel
theorem dX5_put_6 : decode cX5_put 6 = .ok (.getfield 17, 3) := by decide +kernel
theorem dX5_put_9 : decode cX5_put 9 = .ok (.if_icmp .ge 14, 3) := by decide +kernel
theorem dX5_put_12 : decode cX5_put 12 = .ok (.aload_n 0, 1) := by decide +kernel
theorem dX5_put_13 : decode cX5_put 13 = .ok (.getfield 9, 3) := by decide +kernel
theorem dX5_put_16 : decode cX5_put 16 = .ok (.iload_n 1, 1) := by decide +kernel
theorem dX5_put_17 : decode cX5_put 17 = .ok (.aload_n 0, 1) := by decide +kernel
theorem dX5_put_18 : decode cX5_put 18 = .ok (.lload_n 2, 1) := by decide +kernel
theorem dX5_put_19 : decode cX5_put 19 = .ok (.invokevirtual 26, 3) := by decide +kernel
theorem dX5_put_22 : decode cX5_put 22 = .ok (.lastore, 1) := by decide +kernel
theorem dX5_put_23 : decode cX5_put 23 = .ok (.return_, 1) := by decide +kernel
theorem dX5_cut_0 : decode cX5_cut 0 = .ok (.aload_n 0, 1) := by decide +kernel
theorem dX5_cut_1 : decode cX5_cut 1 = .ok (.getfield 13, 3) := by decide +kernel
theorem dX5_cut_4 : decode cX5_cut 4 = .ok (.tableswitch 42 0 2 #[28, 33, 38], 28) := by decide +kernel
theorem dX5_cut_32 : decode cX5_cut 32 = .ok (.lload_n 1, 1) := by decide +kernel
theorem dX5_cut_33 : decode cX5_cut 33 = .ok (.l2i, 1) := by decide +kernel
theorem dX5_cut_34 : decode cX5_cut 34 = .ok (.i2b, 1) := by decide +kernel
theorem dX5_cut_35 : decode cX5_cut 35 = .ok (.i2l, 1) := by decide +kernel
theorem dX5_cut_36 : decode cX5_cut 36 = .ok (.lreturn, 1) := by decide +kernel
theorem dX5_cut_37 : decode cX5_cut 37 = .ok (.lload_n 1, 1) := by decide +kernel
theorem dX5_cut_38 : decode cX5_cut 38 = .ok (.l2i, 1) := by decide +kernel
theorem dX5_cut_39 : decode cX5_cut 39 = .ok (.i2s, 1) := by decide +kernel
theorem dX5_cut_40 : decode cX5_cut 40 = .ok (.i2l, 1) := by decide +kernel
theorem dX5_cut_41 : decode cX5_cut 41 = .ok (.lreturn, 1) := by decide +kernel
theorem dX5_cut_42 : decode cX5_cut 42 = .ok (.lload_n 1, 1) := by decide +kernel
theorem dX5_cut_43 : decode cX5_cut 43 = .ok (.l2i, 1) := by decide +kernel
theorem dX5_cut_44 : decode cX5_cut 44 = .ok (.i2l, 1) := by decide +kernel
theorem dX5_cut_45 : decode cX5_cut 45 = .ok (.lreturn, 1) := by decide +kernel
theorem dX5_cut_46 : decode cX5_cut 46 = .ok (.lload_n 1, 1) := by decide +kernel
theorem dX5_cut_47 : decode cX5_cut 47 = .ok (.lreturn, 1) := by decide +kernel
theorem dX6_init_0 : decode cX6_init 0 = .ok (.aload_n 0, 1) := by decide +kernel
theorem dX6_init_1 : decode cX6_init 1 = .ok (.invokespecial 3, 3) := by decide +kernel
theorem dX6_init_4 : decode cX6_init 4 = .ok (.aload_n 0, 1) := by decide +kernel
theorem dX6_init_5 : decode cX6_init 5 = .ok (.sipush 1600, 3) := by decide +kernel
theorem dX6_init_8 : decode cX6_init 8 = .ok (.newarray .byte, 2) := by decide +kernel
theorem dX6_init_10 : decode cX6_init 10 = .ok (.putfield 11, 3) := by decide +kernel
theorem dX6_init_13 : decode cX6_init 13 = .ok (.return_, 1) := by decide +kernel
theorem dX6_hasPlaceFor_0 : decode cX6_hasPlaceFor 0 = .ok (.aload_n 0, 1) := by decide +kernel
theorem dX6_hasPlaceFor_1 : decode cX6_hasPlaceFor 1 = .ok (.getfield 15, 3) := by decide +kernel
theorem dX6_hasPlaceFor_4 : decode cX6_hasPlaceFor 4 = .ok (.iload_n 1, 1) := by decide +kernel
theorem dX6_hasPlaceFor_5 : decode cX6_hasPlaceFor 5 = .ok (.iadd, 1) := by decide +kernel
theorem dX6_hasPlaceFor_6 : decode cX6_hasPlaceFor 6 = .ok (.sipush 1600, 3) := by decide +kernel
theorem dX6_hasPlaceFor_9 : decode cX6_hasPlaceFor 9 = .ok (.if_icmp .gt 7, 3) := by decide +kernel
theorem dX6_hasPlaceFor_12 : decode cX6_hasPlaceFor 12 = .ok (.iconst 1, 1) := by decide +kernel
theorem dX6_hasPlaceFor_13 : decode cX6_hasPlaceFor 13 = .ok (.goto 4, 3) := by decide +kernel
theorem dX6_hasPlaceFor_16 : decode cX6_hasPlaceFor 16 = .ok (.iconst 0, 1) := by decide +kernel
theorem dX6_hasPlaceFor_17 : decode cX6_hasPlaceFor 17 = .ok (.ireturn, 1) := by decide +kernel
theorem dX6_append_0 : decode cX6_append 0 = .ok (.bipush 24, 2) := by decide +kernel
theorem dX6_append_2 : decode cX6_append 2 = .ok (.istore_n 2, 1) := by decide +kernel
theorem dX6_append_3 : decode cX6_append 3 = .ok (.iload_n 2, 1) := by decide +kernel
theorem dX6_append_4 : decode cX6_append 4 = .ok (.ifCond .lt 42, 3) := by decide +kernel
theorem dX6_append_7 : decode cX6_append 7 = .ok (.aload_n 0, 1) := by decide +kernel
theorem dX6_append_8 : decode cX6_append 8 = .ok (.getfield 15, 3) := by decide +kernel
theorem dX6_append_11 : decode cX6_append 11 = .ok (.sipush 1600, 3) := by decide +kernel
theorem dX6_append_14 : decode cX6_append 14 = .ok (.if_icmp .ge 26, 3) := by decide +kernel
theorem dX6_append_17 : decode cX6_append 17 = .ok (.aload_n 0, 1) := by decide +kernel
theorem dX6_append_18 : decode cX6_append 18 = .ok (.getfield 11, 3) := by decide +kernel
theorem dX6_append_21 : decode cX6_append 21 = .ok (.aload_n 0, 1) := by decide +kernel
theorem dX6_append_22 : decode cX6_append 22 = .ok (.getfield 15, 3) := by decide +kernel
theorem dX6_append_25 : decode cX6_append 25 = .ok (.iload_n 1, 1) := by decide +kernel
theorem dX6_append_26 : decode cX6_append 26 = .ok (.iload_n 2, 1) := by decide +kernel
theorem dX6_append_27 : decode cX6_append 27 = .ok (.ishr, 1) := by decide +kernel
theorem dX6_append_28 : decode cX6_append 28 = .ok (.i2b, 1) := by decide +kernel
theorem dX6_append_29 : decode cX6_append 29 = .ok (.bastore, 1) := by decide +kernel
theorem dX6_append_30 : decode cX6_append 30 = .ok (.aload_n 0, 1) := by decide +kernel
theorem dX6_append_31 : decode cX6_append 31 = .ok (.dup, 1) := by decide +kernel
theorem dX6_append_32 : decode cX6_append 32 = .ok (.getfield 15, 3) := by decide +kernel
theorem dX6_append_35 : decode cX6_append 35 = .ok (.iconst 1, 1) := by decide +kernel
theorem dX6_append_36 : decode cX6_append 36 = .ok (.iadd, 1) := by decide +kernel
theorem dX6_append_37 : decode cX6_append 37 = .ok (.putfield 15, 3) := by decide +kernel
theorem dX6_append_40 : decode cX6_append 40 = .ok (.iinc 2 (-8), 3) := by decide +kernel
theorem dX6_append_43 : decode cX6_append 43 = .ok (.goto (-40), 3) := by decide +kernel
theorem dX6_append_46 : decode cX6_append 46 = .ok (.return_, 1) := by decide +kernel
theorem dX6_at_0 : decode cX6_at 0 = .ok (.iload_n 1, 1) := by decide +kernel
theorem dX6_at_1 : decode cX6_at 1 = .ok (.ifCond .lt 24, 3) := by decide +kernel
theorem dX6_at_4 : decode cX6_at 4 = .ok (.iload_n 1, 1) := by decide +kernel
theorem dX6_at_5 : decode cX6_at 5 = .ok (.aload_n 0, 1) := by decide +kernel
theorem dX6_at_6 : decode cX6_at 6 = .ok (.getfield 15, 3) := by decide +kernel
theorem dX6_at_9 : decode cX6_at 9 = .ok (.if_icmp .ge 16, 3) := by decide +kernel
theorem dX6_at_12 : decode cX6_at 12 = .ok (.aload_n 0, 1) := by decide +kernel
theorem dX6_at_13 : decode cX6_at 13 = .ok (.getfield 11, 3) := by decide +kernel
theorem dX6_at_16 : decode cX6_at 16 = .ok (.iload_n 1, 1) := by decide +kernel
theorem dX6_at_17 : decode cX6_at 17 = .ok (.baload, 1) := by decide +kernel
theorem dX6_at_18 : decode cX6_at 18 = .ok (.sipush 255, 3) := by decide +kernel
theorem dX6_at_21 : decode cX6_at 21 = .ok (.iand, 1) := by decide +kernel
theorem dX6_at_22 : decode cX6_at 22 = .ok (.goto 4, 3) := by decide +kernel
theorem dX6_at_25 : decode cX6_at 25 = .ok (.iconst (-1), 1) := by decide +kernel
theorem dX6_at_26 : decode cX6_at 26 = .ok (.ireturn, 1) := by decide +kernel
theorem dX7_init_0 : decode cX7_init 0 = .ok (.aload_n 0, 1) := by decide +kernel
theorem dX7_init_1 : decode cX7_init 1 = .ok (.invokespecial 3, 3) := by decide +kernel
theorem dX7_init_4 : decode cX7_init 4 = .ok (.aload_n 0, 1) := by decide +kernel
theorem dX7_init_5 : decode cX7_init 5 = .ok (.aload_n 1, 1) := by decide +kernel
theorem dX7_init_6 : decode cX7_init 6 = .ok (.putfield 9, 3) := by decide +kernel
theorem dX7_init_9 : decode cX7_init 9 = .ok (.return_, 1) := by decide +kernel
theorem dX7_begin_0 : decode cX7_begin 0 = .ok (.aload_n 0, 1) := by decide +kernel
theorem dX7_begin_1 : decode cX7_begin 1 = .ok (.iconst 0, 1) := by decide +kernel
theorem dX7_begin_2 : decode cX7_begin 2 = .ok (.putfield 15, 3) := by decide +kernel
theorem dX7_begin_5 : decode cX7_begin 5 = .ok (.aload_n 0, 1) := by decide +kernel
theorem dX7_begin_6 : decode cX7_begin 6 = .ok (.iconst 0, 1) := by decide +kernel
theorem dX7_begin_7 : decode cX7_begin 7 = .ok (.putfield 19, 3) := by decide +kernel
theorem dX7_begin_10 : decode cX7_begin 10 = .ok (.aload_n 0, 1) := by decide +kernel
theorem dX7_begin_11 : decode cX7_begin 11 = .ok (.iconst 0, 1) := by decide +kernel
theorem dX7_begin_12 : decode cX7_begin 12 = .ok (.putfield 22, 3) := by decide +kernel
theorem dX7_begin_15 : decode cX7_begin 15 = .ok (.aload_n 0, 1) := by decide +kernel
theorem dX7_begin_16 : decode cX7_begin 16 = .ok (.iconst 0, 1) := by decide +kernel
theorem dX7_begin_17 : decode cX7_begin 17 = .ok (.putfield 25, 3) := by decide +kernel
theorem dX7_begin_20 : decode cX7_begin 20 = .ok (.return_, 1) := by decide +kernel
theorem dX7_step_0 : decode cX7_step 0 = .ok (.aload_n 0, 1) := by decide +kernel
theorem dX7_step_1 : decode cX7_step 1 = .ok (.aload_n 0, 1) := by decide +kernel
theorem dX7_step_2 : decode cX7_step 2 = .ok (.getfield 22, 3) := by decide +kernel
theorem dX7_step_5 : decode cX7_step 5 = .ok (.putfield 19, 3) := by decide +kernel
theorem dX7_step_8 : decode cX7_step 8 = .ok (.aload_n 0, 1) := by decide +kernel
theorem dX7_step_9 : decode cX7_step 9 = .ok (.getfield 19, 3) := by decide +kernel
theorem dX7_step_12 : decode cX7_step 12 = .ok (.aload_n 0, 1) := by decide +kernel
theorem dX7_step_13 : decode cX7_step 13 = .ok (.getfield 9, 3) := by decide +kernel
theorem dX7_step_16 : decode cX7_step 16 = .ok (.getfield 28, 3) := by decide +kernel
theorem dX7_step_19 : decode cX7_step 19 = .ok (.if_icmp .ge 33, 3) := by decide +kernel
theorem dX7_step_22 : decode cX7_step 22 = .ok (.aload_n 0, 1) := by decide +kernel
theorem dX7_step_23 : decode cX7_step 23 = .ok (.getfield 9, 3) := by decide +kernel
theorem dX7_step_26 : decode cX7_step 26 = .ok (.aload_n 0, 1) := by decide +kernel
theorem dX7_step_27 : decode cX7_step 27 = .ok (.getfield 19, 3) := by decide +kernel
theorem dX7_step_30 : decode cX7_step 30 = .ok (.invokevirtual 33, 3) := by decide +kernel
theorem dX7_step_33 : decode cX7_step 33 = .ok (.invokestatic 37, 3) := by decide +kernel
theorem dX7_step_36 : decode cX7_step 36 = .ok (.ifCond .eq 16, 3) := by decide +kernel
theorem dX7_step_39 : decode cX7_step 39 = .ok (.aload_n 0, 1) := by decide +kernel
theorem dX7_step_40 : decode cX7_step 40 = .ok (.dup, 1) := by decide +kernel
theorem dX7_step_41 : decode cX7_step 41 = .ok (.getfield 19, 3) := by decide +kernel
theorem dX7_step_44 : decode cX7_step 44 = .ok (.iconst 1, 1) := by decide +kernel
theorem dX7_step_45 : decode cX7_step 45 = .ok (.iadd, 1) := by decide +kernel
theorem dX7_step_46 : decode cX7_step 46 = .ok (.putfield 19, 3) := by decide +kernel
theorem dX7_step_49 : decode cX7_step 49 = .ok (.goto (-41), 3) := by decide +kernel
theorem dX7_step_52 : decode cX7_step 52 = .ok (.aload_n 0, 1) := by decide +kernel
theorem dX7_step_53 : decode cX7_step 53 = .ok (.aload_n 0, 1) := by decide +kernel
theorem dX7_step_54 : decode cX7_step 54 = .ok (.getfield 19, 3) := by decide +kernel
theorem dX7_step_57 : decode cX7_step 57 = .ok (.putfield 22, 3) := by decide +kernel
theorem dX7_step_60 : decode cX7_step 60 = .ok (.aload_n 0, 1) := by decide +kernel
theorem dX7_step_61 : decode cX7_step 61 = .ok (.getfield 9, 3) := by decide +kernel
theorem dX7_step_64 : decode cX7_step 64 = .ok (.aload_n 0, 1) := by decide +kernel
theorem dX7_step_65 : decode cX7_step 65 = .ok (.getfield 19, 3) := by decide +kernel
theorem dX7_step_68 : decode cX7_step 68 = .ok (.invokevirtual 33, 3) := by decide +kernel
theorem dX7_step_71 : decode cX7_step 71 = .ok (.istore_n 1, 1) := by decide +kernel
theorem dX7_step_72 : decode cX7_step 72 = .ok (.iload_n 1, 1) := by decide +kernel
theorem dX7_step_73 : decode cX7_step 73 = .ok (.iconst (-1), 1) := by decide +kernel
theorem dX7_step_74 : decode cX7_step 74 = .ok (.if_icmp .ne 11, 3) := by decide +kernel
theorem dX7_step_77 : decode cX7_step 77 = .ok (.aload_n 0, 1) := by decide +kernel
theorem dX7_step_78 : decode cX7_step 78 = .ok (.iconst 0, 1) := by decide +kernel
theorem dX7_step_79 : decode cX7_step 79 = .ok (.putfield 15, 3) := by decide +kernel
theorem dX7_step_82 : decode cX7_step 82 = .ok (.goto 103, 3) := by decide +kernel
theorem dX7_step_85 : decode cX7_step 85 = .ok (.iload_n 1, 1) := by decide +kernel
theorem dX7_step_86 : decode cX7_step 86 = .ok (.invokestatic 41, 3) := by decide +kernel
theorem dX7_step_89 : decode cX7_step 89 = .ok (.ifCond .eq 52, 3) := by decide +kernel
theorem dX7_step_92 : decode cX7_step 92 = .ok (.aload_n 0, 1) := by decide +kernel
theorem dX7_step_93 : decode cX7_step 93 = .ok (.iconst 1, 1) := by decide +kernel
theorem dX7_step_94 : decode cX7_step 94 = .ok (.putfield 15, 3) := by decide +kernel
theorem dX7_step_97 : decode cX7_step 97 = .ok (.aload_n 0, 1) := by decide +kernel
theorem dX7_step_98 : decode cX7_step 98 = .ok (.getfield 22, 3) := by decide +kernel
theorem dX7_step_101 : decode cX7_step 101 = .ok (.aload_n 0, 1) := by decide +kernel
theorem dX7_step_102 : decode cX7_step 102 = .ok (.getfield 9, 3) := by decide +kernel
theorem dX7_step_105 : decode cX7_step 105 = .ok (.getfield 28, 3) := by decide +kernel
theorem dX7_step_108 : decode cX7_step 108 = .ok (.if_icmp .ge 77, 3) := by decide +kernel
theorem dX7_step_111 : decode cX7_step 111 = .ok (.aload_n 0, 1) := by decide +kernel
theorem dX7_step_112 : decode cX7_step 112 = .ok (.getfield 9, 3) := by decide +kernel
theorem dX7_step_115 : decode cX7_step 115 = .ok (.aload_n 0, 1) := by decide +kernel
theorem dX7_step_116 : decode cX7_step 116 = .ok (.getfield 22, 3) := by decide +kernel
theorem dX7_step_119 : decode cX7_step 119 = .ok (.invokevirtual 33, 3) := by decide +kernel
theorem dX7_step_122 : decode cX7_step 122 = .ok (.invokestatic 41, 3) := by decide +kernel
theorem dX7_step_125 : decode cX7_step 125 = .ok (.ifCond .eq 60, 3) := by decide +kernel
theorem dX7_step_128 : decode cX7_step 128 = .ok (.aload_n 0, 1) := by decide +kernel
theorem dX7_step_129 : decode cX7_step 129 = .ok (.dup, 1) := by decide +kernel
theorem dX7_step_130 : decode cX7_step 130 = .ok (.getfield 22, 3) := by decide +kernel
theorem dX7_step_133 : decode cX7_step 133 = .ok (.iconst 1, 1) := by decide +kernel
theorem dX7_step_134 : decode cX7_step 134 = .ok (.iadd, 1) := by decide +kernel
theorem dX7_step_135 : decode cX7_step 135 = .ok (.putfield 22, 3) := by decide +kernel
theorem dX7_step_138 : decode cX7_step 138 = .ok (.goto (-41), 3) := by decide +kernel
theorem dX7_step_141 : decode cX7_step 141 = .ok (.iload_n 1, 1) := by decide +kernel
theorem dX7_step_142 : decode cX7_step 142 = .ok (.invokestatic 44, 3) := by decide +kernel
theorem dX7_step_145 : decode cX7_step 145 = .ok (.ifCond .eq 15, 3) := by decide +kernel
theorem dX7_step_148 : decode cX7_step 148 = .ok (.aload_n 0, 1) := by decide +kernel
theorem dX7_step_149 : decode cX7_step 149 = .ok (.iconst 2, 1) := by decide +kernel
theorem dX7_step_150 : decode cX7_step 150 = .ok (.putfield 15, 3) := by decide +kernel
theorem dX7_step_153 : decode cX7_step 153 = .ok (.aload_n 0, 1) := by decide +kernel
theorem dX7_step_154 : decode cX7_step 154 = .ok (.invokevirtual 47, 3) := by decide +kernel
theorem dX7_step_157 : decode cX7_step 157 = .ok (.goto 28, 3) := by decide +kernel
theorem dX7_step_160 : decode cX7_step 160 = .ok (.aload_n 0, 1) := by decide +kernel
theorem dX7_step_161 : decode cX7_step 161 = .ok (.iload_n 1, 1) := by decide +kernel
theorem dX7_step_162 : decode cX7_step 162 = .ok (.bipush 59, 2) := by decide +kernel
theorem dX7_step_164 : decode cX7_step 164 = .ok (.if_icmp .ne 7, 3) := by decide +kernel
theorem dX7_step_167 : decode cX7_step 167 = .ok (.iconst 3, 1) := by decide +kernel
theorem dX7_step_168 : decode cX7_step 168 = .ok (.goto 4, 3) := by decide +kernel
theorem dX7_step_171 : decode cX7_step 171 = .ok (.iconst 4, 1) := by decide +kernel
theorem dX7_step_172 : decode cX7_step 172 = .ok (.putfield 15, 3) := by decide +kernel
theorem dX7_step_175 : decode cX7_step 175 = .ok (.aload_n 0, 1) := by decide +kernel
theorem dX7_step_176 : decode cX7_step 176 = .ok (.dup, 1) := by decide +kernel
theorem dX7_step_177 : decode cX7_step 177 = .ok (.getfield 22, 3) := by decide +kernel
theorem dX7_step_180 : decode cX7_step 180 = .ok (.iconst 1, 1) := by decide +kernel
theorem dX7_step_181 : decode cX7_step 181 = .ok (.iadd, 1) := by decide +kernel
theorem dX7_step_182 : decode cX7_step 182 = .ok (.putfield 22, 3) := by decide +kernel
theorem dX7_step_185 : decode cX7_step 185 = .ok (.return_, 1) := by decide +kernel
theorem dX7_stepNumber_0 : decode cX7_stepNumber 0 = .ok (.aload_n 0, 1) := by decide +kernel
theorem dX7_stepNumber_1 : decode cX7_stepNumber 1 = .ok (.iconst 0, 1) := by decide +kernel
theorem dX7_stepNumber_2 : decode cX7_stepNumber 2 = .ok (.putfield 25, 3) := by decide +kernel
theorem dX7_stepNumber_5 : decode cX7_stepNumber 5 = .ok (.aload_n 0, 1) := by decide +kernel
theorem dX7_stepNumber_6 : decode cX7_stepNumber 6 = .ok (.getfield 22, 3) := by decide +kernel
theorem dX7_stepNumber_9 : decode cX7_stepNumber 9 = .ok (.aload_n 0, 1) := by decide +kernel
theorem dX7_stepNumber_10 : decode cX7_stepNumber 10 = .ok (.getfield 9, 3) := by decide +kernel
theorem dX7_stepNumber_13 : decode cX7_stepNumber 13 = .ok (.getfield 28, 3) := by decide +kernel
theorem dX7_stepNumber_16 : decode cX7_stepNumber 16 = .ok (.if_icmp .ge 64, 3) := by decide +kernel
theorem dX7_stepNumber_19 : decode cX7_stepNumber 19 = .ok (.aload_n 0, 1) := by decide +kernel
theorem dX7_stepNumber_20 : decode cX7_stepNumber 20 = .ok (.getfield 9, 3) := by decide +kernel
theorem dX7_stepNumber_23 : decode cX7_stepNumber 23 = .ok (.aload_n 0, 1) := by decide +kernel
theorem dX7_stepNumber_24 : decode cX7_stepNumber 24 = .ok (.getfield 22, 3) := by decide +kernel
theorem dX7_stepNumber_27 : decode cX7_stepNumber 27 = .ok (.invokevirtual 33, 3) := by decide +kernel
theorem dX7_stepNumber_30 : decode cX7_stepNumber 30 = .ok (.invokestatic 44, 3) := by decide +kernel
theorem dX7_stepNumber_33 : decode cX7_stepNumber 33 = .ok (.ifCond .eq 47, 3) := by decide +kernel
theorem dX7_stepNumber_36 : decode cX7_stepNumber 36 = .ok (.aload_n 0, 1) := by decide +kernel
theorem dX7_stepNumber_37 : decode cX7_stepNumber 37 = .ok (.ldc 50, 2) := by decide +kernel
theorem dX7_stepNumber_39 : decode cX7_stepNumber 39 = .ok (.aload_n 0, 1) := by decide +kernel
theorem dX7_stepNumber_40 : decode cX7_stepNumber 40 = .ok (.getfield 25, 3) := by decide +kernel
theorem dX7_stepNumber_43 : decode cX7_stepNumber 43 = .ok (.bipush 10, 2) := by decide +kernel
theorem dX7_stepNumber_45 : decode cX7_stepNumber 45 = .ok (.imul, 1) := by decide +kernel
theorem dX7_stepNumber_46 : decode cX7_stepNumber 46 = .ok (.aload_n 0, 1) := by decide +kernel
theorem dX7_stepNumber_47 : decode cX7_stepNumber 47 = .ok (.getfield 9, 3) := by decide +kernel
theorem dX7_stepNumber_50 : decode cX7_stepNumber 50 = .ok (.aload_n 0, 1) := by decide +kernel
theorem dX7_stepNumber_51 : decode cX7_stepNumber 51 = .ok (.getfield 22, 3) := by decide +kernel
theorem dX7_stepNumber_54 : decode cX7_stepNumber 54 = .ok (.invokevirtual 33, 3) := by decide +kernel
theorem dX7_stepNumber_57 : decode cX7_stepNumber 57 = .ok (.iadd, 1) := by decide +kernel
theorem dX7_stepNumber_58 : decode cX7_stepNumber 58 = .ok (.bipush 48, 2) := by decide +kernel
theorem dX7_stepNumber_60 : decode cX7_stepNumber 60 = .ok (.isub, 1) := by decide +kernel
theorem dX7_stepNumber_61 : decode cX7_stepNumber 61 = .ok (.invokestatic 51, 3) := by decide +kernel
theorem dX7_stepNumber_64 : decode cX7_stepNumber 64 = .ok (.putfield 25, 3) := by decide +kernel
theorem dX7_stepNumber_67 : decode cX7_stepNumber 67 = .ok (.aload_n 0, 1) := by decide +kernel
theorem dX7_stepNumber_68 : decode cX7_stepNumber 68 = .ok (.dup, 1) := by decide +kernel
theorem dX7_stepNumber_69 : decode cX7_stepNumber 69 = .ok (.getfield 22, 3) := by decide +kernel
theorem dX7_stepNumber_72 : decode cX7_stepNumber 72 = .ok (.iconst 1, 1) := by decide +kernel
theorem dX7_stepNumber_73 : decode cX7_stepNumber 73 = .ok (.iadd, 1) := by decide +kernel
theorem dX7_stepNumber_74 : decode cX7_stepNumber 74 = .ok (.putfield 22, 3) := by decide +kernel
theorem dX7_stepNumber_77 : decode cX7_stepNumber 77 = .ok (.goto (-72), 3) := by decide +kernel
theorem dX7_stepNumber_80 : decode cX7_stepNumber 80 = .ok (.return_, 1) := by decide +kernel
theorem dX7_isWord_0 : decode cX7_isWord 0 = .ok (.aload_n 0, 1) := by decide +kernel
theorem dX7_isWord_1 : decode cX7_isWord 1 = .ok (.getfield 15, 3) := by decide +kernel
theorem dX7_isWord_4 : decode cX7_isWord 4 = .ok (.iconst 1, 1) := by decide +kernel
theorem dX7_isWord_5 : decode cX7_isWord 5 = .ok (.if_icmp .ne 18, 3) := by decide +kernel
theorem dX7_isWord_8 : decode cX7_isWord 8 = .ok (.aload_n 0, 1) := by decide +kernel
theorem dX7_isWord_9 : decode cX7_isWord 9 = .ok (.getfield 22, 3) := by decide +kernel
theorem dX7_isWord_12 : decode cX7_isWord 12 = .ok (.aload_n 0, 1) := by decide +kernel
theorem dX7_isWord_13 : decode cX7_isWord 13 = .ok (.getfield 19, 3) := by decide +kernel
theorem dX7_isWord_16 : decode cX7_isWord 16 = .ok (.isub, 1) := by decide +kernel
theorem dX7_isWord_17 : decode cX7_isWord 17 = .ok (.iload_n 3, 1) := by decide +kernel
theorem dX7_isWord_18 : decode cX7_isWord 18 = .ok (.iload_n 2, 1) := by decide +kernel
theorem dX7_isWord_19 : decode cX7_isWord 19 = .ok (.isub, 1) := by decide +kernel
theorem dX7_isWord_20 : decode cX7_isWord 20 = .ok (.if_icmp .eq 5, 3) := by decide +kernel
theorem dX7_isWord_23 : decode cX7_isWord 23 = .ok (.iconst 0, 1) := by decide +kernel
theorem dX7_isWord_24 : decode cX7_isWord 24 = .ok (.ireturn, 1) := by decide +kernel
theorem dX7_isWord_25 : decode cX7_isWord 25 = .ok (.iload_n 2, 1) := by decide +kernel
theorem dX7_isWord_26 : decode cX7_isWord 26 = .ok (.istore 4, 2) := by decide +kernel
theorem dX7_isWord_28 : decode cX7_isWord 28 = .ok (.iload 4, 2) := by decide +kernel
theorem dX7_isWord_30 : decode cX7_isWord 30 = .ok (.iload_n 3, 1) := by decide +kernel
theorem dX7_isWord_31 : decode cX7_isWord 31 = .ok (.if_icmp .ge 45, 3) := by decide +kernel
theorem dX7_isWord_34 : decode cX7_isWord 34 = .ok (.iload 4, 2) := by decide +kernel
theorem dX7_isWord_36 : decode cX7_isWord 36 = .ok (.aload_n 1, 1) := by decide +kernel
theorem dX7_isWord_37 : decode cX7_isWord 37 = .ok (.invokevirtual 57, 3) := by decide +kernel
theorem dX7_isWord_40 : decode cX7_isWord 40 = .ok (.if_icmp .ge 36, 3) := by decide +kernel
theorem dX7_isWord_43 : decode cX7_isWord 43 = .ok (.aload_n 1, 1) := by decide +kernel
theorem dX7_isWord_44 : decode cX7_isWord 44 = .ok (.iload 4, 2) := by decide +kernel
theorem dX7_isWord_46 : decode cX7_isWord 46 = .ok (.invokevirtual 62, 3) := by decide +kernel
theorem dX7_isWord_49 : decode cX7_isWord 49 = .ok (.aload_n 0, 1) := by decide +kernel
theorem dX7_isWord_50 : decode cX7_isWord 50 = .ok (.getfield 9, 3) := by decide +kernel
theorem dX7_isWord_53 : decode cX7_isWord 53 = .ok (.aload_n 0, 1) := by decide +kernel
theorem dX7_isWord_54 : decode cX7_isWord 54 = .ok (.getfield 19, 3) := by decide +kernel
theorem dX7_isWord_57 : decode cX7_isWord 57 = .ok (.iload 4, 2) := by decide +kernel
theorem dX7_isWord_59 : decode cX7_isWord 59 = .ok (.iadd, 1) := by decide +kernel
theorem dX7_isWord_60 : decode cX7_isWord 60 = .ok (.iload_n 2, 1) := by decide +kernel
theorem dX7_isWord_61 : decode cX7_isWord 61 = .ok (.isub, 1) := by decide +kernel
theorem dX7_isWord_62 : decode cX7_isWord 62 = .ok (.invokevirtual 33, 3) := by decide +kernel
theorem dX7_isWord_65 : decode cX7_isWord 65 = .ok (.if_icmp .eq 5, 3) := by decide +kernel
theorem dX7_isWord_68 : decode cX7_isWord 68 = .ok (.iconst 0, 1) := by decide +kernel
theorem dX7_isWord_69 : decode cX7_isWord 69 = .ok (.ireturn, 1) := by decide +kernel
theorem dX7_isWord_70 : decode cX7_isWord 70 = .ok (.iinc 4 1, 3) := by decide +kernel
theorem dX7_isWord_73 : decode cX7_isWord 73 = .ok (.goto (-45), 3) := by decide +kernel
theorem dX7_isWord_76 : decode cX7_isWord 76 = .ok (.iconst 1, 1) := by decide +kernel
theorem dX7_isWord_77 : decode cX7_isWord 77 = .ok (.ireturn, 1) := by decide +kernel
theorem dX7_isBlank_0 : decode cX7_isBlank 0 = .ok (.iload_n 0, 1) := by decide +kernel
theorem dX7_isBlank_1 : decode cX7_isBlank 1 = .ok (.bipush 32, 2) := by decide +kernel
theorem dX7_isBlank_3 : decode cX7_isBlank 3 = .ok (.if_icmp .eq 9, 3) := by decide +kernel
theorem dX7_isBlank_6 : decode cX7_isBlank 6 = .ok (.iload_n 0, 1) := by decide +kernel
theorem dX7_isBlank_7 : decode cX7_isBlank 7 = .ok (.bipush 10, 2) := by decide +kernel
theorem dX7_isBlank_9 : decode cX7_isBlank 9 = .ok (.if_icmp .ne 7, 3) := by decide +kernel
theorem dX7_isBlank_12 : decode cX7_isBlank 12 = .ok (.iconst 1, 1) := by decide +kernel
theorem dX7_isBlank_13 : decode cX7_isBlank 13 = .ok (.goto 4, 3) := by decide +kernel
theorem dX7_isBlank_16 : decode cX7_isBlank 16 = .ok (.iconst 0, 1) := by decide +kernel
theorem dX7_isBlank_17 : decode cX7_isBlank 17 = .ok (.ireturn, 1) := by decide +kernel
theorem dX7_isLetter_0 : decode cX7_isLetter 0 = .ok (.iload_n 0, 1) := by decide +kernel
theorem dX7_isLetter_1 : decode cX7_isLetter 1 = .ok (.bipush 97, 2) := by decide +kernel
theorem dX7_isLetter_3 : decode cX7_isLetter 3 = .ok (.if_icmp .lt 13, 3) := by decide +kernel
theorem dX7_isLetter_6 : decode cX7_isLetter 6 = .ok (.iload_n 0, 1) := by decide +kernel
theorem dX7_isLetter_7 : decode cX7_isLetter 7 = .ok (.bipush 122, 2) := by decide +kernel
theorem dX7_isLetter_9 : decode cX7_isLetter 9 = .ok (.if_icmp .gt 7, 3) := by decide +kernel
theorem dX7_isLetter_12 : decode cX7_isLetter 12 = .ok (.iconst 1, 1) := by decide +kernel
theorem dX7_isLetter_13 : decode cX7_isLetter 13 = .ok (.goto 4, 3) := by decide +kernel
theorem dX7_isLetter_16 : decode cX7_isLetter 16 = .ok (.iconst 0, 1) := by decide +kernel
theorem dX7_isLetter_17 : decode cX7_isLetter 17 = .ok (.ireturn, 1) := by decide +kernel
theorem dX7_isDigit_0 : decode cX7_isDigit 0 = .ok (.iload_n 0, 1) := by decide +kernel
theorem dX7_isDigit_1 : decode cX7_isDigit 1 = .ok (.bipush 48, 2) := by decide +kernel
theorem dX7_isDigit_3 : decode cX7_isDigit 3 = .ok (.if_icmp .lt 13, 3) := by decide +kernel
theorem dX7_isDigit_6 : decode cX7_isDigit 6 = .ok (.iload_n 0, 1) := by decide +kernel
theorem dX7_isDigit_7 : decode cX7_isDigit 7 = .ok (.bipush 57, 2) := by decide +kernel
theorem dX7_isDigit_9 : decode cX7_isDigit 9 = .ok (.if_icmp .gt 7, 3) := by decide +kernel
theorem dX7_isDigit_12 : decode cX7_isDigit 12 = .ok (.iconst 1, 1) := by decide +kernel
theorem dX7_isDigit_13 : decode cX7_isDigit 13 = .ok (.goto 4, 3) := by decide +kernel
theorem dX7_isDigit_16 : decode cX7_isDigit 16 = .ok (.iconst 0, 1) := by decide +kernel
theorem dX7_isDigit_17 : decode cX7_isDigit 17 = .ok (.ireturn, 1) := by decide +kernel
theorem dX8_init_0 : decode cX8_init 0 = .ok (.aload_n 0, 1) := by decide +kernel
theorem dX8_init_1 : decode cX8_init 1 = .ok (.invokespecial 3, 3) := by decide +kernel
theorem dX8_init_4 : decode cX8_init 4 = .ok (.aload_n 0, 1) := by decide +kernel
theorem dX8_init_5 : decode cX8_init 5 = .ok (.iconst 3, 1) := by decide +kernel
theorem dX8_init_6 : decode cX8_init 6 = .ok (.newarray .int, 2) := by decide +kernel
theorem dX8_init_8 : decode cX8_init 8 = .ok (.putfield 9, 3) := by decide +kernel
theorem dX8_init_11 : decode cX8_init 11 = .ok (.aload_n 0, 1) := by decide +kernel
theorem dX8_init_12 : decode cX8_init 12 = .ok (.bipush 6, 2) := by decide +kernel
theorem dX8_init_14 : decode cX8_init 14 = .ok (.newarray .int, 2) := by decide +kernel
theorem dX8_init_16 : decode cX8_init 16 = .ok (.putfield 15, 3) := by decide +kernel
theorem dX8_init_19 : decode cX8_init 19 = .ok (.aload_n 0, 1) := by decide +kernel
theorem dX8_init_20 : decode cX8_init 20 = .ok (.sipush 180, 3) := by decide +kernel
theorem dX8_init_23 : decode cX8_init 23 = .ok (.newarray .int, 2) := by decide +kernel
theorem dX8_init_25 : decode cX8_init 25 = .ok (.putfield 18, 3) := by decide +kernel
theorem dX8_init_28 : decode cX8_init 28 = .ok (.aload_n 0, 1) := by decide +kernel
theorem dX8_init_29 : decode cX8_init 29 = .ok (.iconst 3, 1) := by decide +kernel
theorem dX8_init_30 : decode cX8_init 30 = .ok (.newarray .int, 2) := by decide +kernel
theorem dX8_init_32 : decode cX8_init 32 = .ok (.putfield 21, 3) := by decide +kernel
theorem dX8_init_35 : decode cX8_init 35 = .ok (.aload_n 0, 1) := by decide +kernel
theorem dX8_init_36 : decode cX8_init 36 = .ok (.iconst 3, 1) := by decide +kernel
theorem dX8_init_37 : decode cX8_init 37 = .ok (.newarray .int, 2) := by decide +kernel
theorem dX8_init_39 : decode cX8_init 39 = .ok (.putfield 24, 3) := by decide +kernel
theorem dX8_init_42 : decode cX8_init 42 = .ok (.aload_n 0, 1) := by decide +kernel
theorem dX8_init_43 : decode cX8_init 43 = .ok (.iconst 3, 1) := by decide +kernel
theorem dX8_init_44 : decode cX8_init 44 = .ok (.newarray .int, 2) := by decide +kernel
theorem dX8_init_46 : decode cX8_init 46 = .ok (.putfield 27, 3) := by decide +kernel
theorem dX8_init_49 : decode cX8_init 49 = .ok (.aload_n 0, 1) := by decide +kernel
theorem dX8_init_50 : decode cX8_init 50 = .ok (.bipush 8, 2) := by decide +kernel
theorem dX8_init_52 : decode cX8_init 52 = .ok (.newarray .int, 2) := by decide +kernel
theorem dX8_init_54 : decode cX8_init 54 = .ok (.putfield 30, 3) := by decide +kernel
theorem dX8_init_57 : decode cX8_init 57 = .ok (.aload_n 0, 1) := by decide +kernel
theorem dX8_init_58 : decode cX8_init 58 = .ok (.bipush 8, 2) := by decide +kernel
theorem dX8_init_60 : decode cX8_init 60 = .ok (.newarray .int, 2) := by decide +kernel
theorem dX8_init_62 : decode cX8_init 62 = .ok (.putfield 33, 3) := by decide +kernel
theorem dX8_init_65 : decode cX8_init 65 = .ok (.aload_n 0, 1) := by decide +kernel
theorem dX8_init_66 : decode cX8_init 66 = .ok (.bipush 8, 2) := by decide +kernel
theorem dX8_init_68 : decode cX8_init 68 = .ok (.newarray .int, 2) := by decide +kernel
theorem dX8_init_70 : decode cX8_init 70 = .ok (.putfield 36, 3) := by decide +kernel
theorem dX8_init_73 : decode cX8_init 73 = .ok (.aload_n 0, 1) := by decide +kernel
theorem dX8_init_74 : decode cX8_init 74 = .ok (.bipush 8, 2) := by decide +kernel
theorem dX8_init_76 : decode cX8_init 76 = .ok (.newarray .int, 2) := by decide +kernel
theorem dX8_init_78 : decode cX8_init 78 = .ok (.putfield 39, 3) := by decide +kernel
theorem dX8_init_81 : decode cX8_init 81 = .ok (.aload_n 0, 1) := by decide +kernel
theorem dX8_init_82 : decode cX8_init 82 = .ok (.bipush 8, 2) := by decide +kernel
theorem dX8_init_84 : decode cX8_init 84 = .ok (.newarray .int, 2) := by decide +kernel
theorem dX8_init_86 : decode cX8_init 86 = .ok (.putfield 42, 3) := by decide +kernel
theorem dX8_init_89 : decode cX8_init 89 = .ok (.aload_n 0, 1) := by decide +kernel
theorem dX8_init_90 : decode cX8_init 90 = .ok (.bipush 8, 2) := by decide +kernel
theorem dX8_init_92 : decode cX8_init 92 = .ok (.newarray .int, 2) := by decide +kernel
theorem dX8_init_94 : decode cX8_init 94 = .ok (.putfield 45, 3) := by decide +kernel
theorem dX8_init_97 : decode cX8_init 97 = .ok (.aload_n 0, 1) := by decide +kernel
theorem dX8_init_98 : decode cX8_init 98 = .ok (.bipush 6, 2) := by decide +kernel
theorem dX8_init_100 : decode cX8_init 100 = .ok (.newarray .int, 2) := by decide +kernel
theorem dX8_init_102 : decode cX8_init 102 = .ok (.putfield 48, 3) := by decide +kernel
theorem dX8_init_105 : decode cX8_init 105 = .ok (.aload_n 0, 1) := by decide +kernel
theorem dX8_init_106 : decode cX8_init 106 = .ok (.aload_n 1, 1) := by decide +kernel
theorem dX8_init_107 : decode cX8_init 107 = .ok (.putfield 51, 3) := by decide +kernel
theorem dX8_init_110 : decode cX8_init 110 = .ok (.return_, 1) := by decide +kernel
theorem dX8_begin_0 : decode cX8_begin 0 = .ok (.aload_n 0, 1) := by decide +kernel
theorem dX8_begin_1 : decode cX8_begin 1 = .ok (.aload_n 0, 1) := by decide +kernel
theorem dX8_begin_2 : decode cX8_begin 2 = .ok (.getfield 51, 3) := by decide +kernel
theorem dX8_begin_5 : decode cX8_begin 5 = .ok (.getfield 55, 3) := by decide +kernel
theorem dX8_begin_8 : decode cX8_begin 8 = .ok (.putfield 61, 3) := by decide +kernel
theorem dX8_begin_11 : decode cX8_begin 11 = .ok (.aload_n 0, 1) := by decide +kernel
theorem dX8_begin_12 : decode cX8_begin 12 = .ok (.iconst (-1), 1) := by decide +kernel
theorem dX8_begin_13 : decode cX8_begin 13 = .ok (.putfield 64, 3) := by decide +kernel
theorem dX8_begin_16 : decode cX8_begin 16 = .ok (.iconst 0, 1) := by decide +kernel
theorem dX8_begin_17 : decode cX8_begin 17 = .ok (.istore_n 1, 1) := by decide +kernel
theorem dX8_begin_18 : decode cX8_begin 18 = .ok (.iload_n 1, 1) := by decide +kernel
theorem dX8_begin_19 : decode cX8_begin 19 = .ok (.iconst 3, 1) := by decide +kernel
theorem dX8_begin_20 : decode cX8_begin 20 = .ok (.if_icmp .ge 27, 3) := by decide +kernel
theorem dX8_begin_23 : decode cX8_begin 23 = .ok (.aload_n 0, 1) := by decide +kernel
theorem dX8_begin_24 : decode cX8_begin 24 = .ok (.getfield 9, 3) := by decide +kernel
theorem dX8_begin_27 : decode cX8_begin 27 = .ok (.iload_n 1, 1) := by decide +kernel
theorem dX8_begin_28 : decode cX8_begin 28 = .ok (.aload_n 0, 1) := by decide +kernel
theorem dX8_begin_29 : decode cX8_begin 29 = .ok (.getfield 51, 3) := by decide +kernel
theorem dX8_begin_32 : decode cX8_begin 32 = .ok (.getfield 67, 3) := by decide +kernel
theorem dX8_begin_35 : decode cX8_begin 35 = .ok (.iload_n 1, 1) := by decide +kernel
theorem dX8_begin_36 : decode cX8_begin 36 = .ok (.iconst 3, 1) := by decide +kernel
theorem dX8_begin_37 : decode cX8_begin 37 = .ok (.invokevirtual 71, 3) := by decide +kernel
theorem dX8_begin_40 : decode cX8_begin 40 = .ok (.iastore, 1) := by decide +kernel
theorem dX8_begin_41 : decode cX8_begin 41 = .ok (.iinc 1 1, 3) := by decide +kernel
theorem dX8_begin_44 : decode cX8_begin 44 = .ok (.goto (-26), 3) := by decide +kernel
theorem dX8_begin_47 : decode cX8_begin 47 = .ok (.iconst 0, 1) := by decide +kernel
theorem dX8_begin_48 : decode cX8_begin 48 = .ok (.istore_n 1, 1) := by decide +kernel
theorem dX8_begin_49 : decode cX8_begin 49 = .ok (.iload_n 1, 1) := by decide +kernel
theorem dX8_begin_50 : decode cX8_begin 50 = .ok (.bipush 6, 2) := by decide +kernel
theorem dX8_begin_52 : decode cX8_begin 52 = .ok (.if_icmp .ge 27, 3) := by decide +kernel
theorem dX8_begin_55 : decode cX8_begin 55 = .ok (.aload_n 0, 1) := by decide +kernel
theorem dX8_begin_56 : decode cX8_begin 56 = .ok (.getfield 15, 3) := by decide +kernel
theorem dX8_begin_59 : decode cX8_begin 59 = .ok (.iload_n 1, 1) := by decide +kernel
theorem dX8_begin_60 : decode cX8_begin 60 = .ok (.aload_n 0, 1) := by decide +kernel
theorem dX8_begin_61 : decode cX8_begin 61 = .ok (.getfield 51, 3) := by decide +kernel
theorem dX8_begin_64 : decode cX8_begin 64 = .ok (.getfield 77, 3) := by decide +kernel
theorem dX8_begin_67 : decode cX8_begin 67 = .ok (.iload_n 1, 1) := by decide +kernel
theorem dX8_begin_68 : decode cX8_begin 68 = .ok (.iconst 1, 1) := by decide +kernel
theorem dX8_begin_69 : decode cX8_begin 69 = .ok (.invokevirtual 71, 3) := by decide +kernel
theorem dX8_begin_72 : decode cX8_begin 72 = .ok (.iastore, 1) := by decide +kernel
theorem dX8_begin_73 : decode cX8_begin 73 = .ok (.iinc 1 1, 3) := by decide +kernel
theorem dX8_begin_76 : decode cX8_begin 76 = .ok (.goto (-27), 3) := by decide +kernel
theorem dX8_begin_79 : decode cX8_begin 79 = .ok (.aload_n 0, 1) := by decide +kernel
theorem dX8_begin_80 : decode cX8_begin 80 = .ok (.getfield 21, 3) := by decide +kernel
theorem dX8_begin_83 : decode cX8_begin 83 = .ok (.iconst 0, 1) := by decide +kernel
theorem dX8_begin_84 : decode cX8_begin 84 = .ok (.invokestatic 80, 3) := by decide +kernel
theorem dX8_begin_87 : decode cX8_begin 87 = .ok (.aload_n 0, 1) := by decide +kernel
theorem dX8_begin_88 : decode cX8_begin 88 = .ok (.getfield 24, 3) := by decide +kernel
theorem dX8_begin_91 : decode cX8_begin 91 = .ok (.iconst 0, 1) := by decide +kernel
theorem dX8_begin_92 : decode cX8_begin 92 = .ok (.invokestatic 80, 3) := by decide +kernel
theorem dX8_begin_95 : decode cX8_begin 95 = .ok (.aload_n 0, 1) := by decide +kernel
theorem dX8_begin_96 : decode cX8_begin 96 = .ok (.getfield 27, 3) := by decide +kernel
theorem dX8_begin_99 : decode cX8_begin 99 = .ok (.iconst 0, 1) := by decide +kernel
theorem dX8_begin_100 : decode cX8_begin 100 = .ok (.invokestatic 80, 3) := by decide +kernel
theorem dX8_begin_103 : decode cX8_begin 103 = .ok (.aload_n 0, 1) := by decide +kernel
theorem dX8_begin_104 : decode cX8_begin 104 = .ok (.getfield 30, 3) := by decide +kernel
theorem dX8_begin_107 : decode cX8_begin 107 = .ok (.iconst 0, 1) := by decide +kernel
theorem dX8_begin_108 : decode cX8_begin 108 = .ok (.invokestatic 80, 3) := by decide +kernel
theorem dX8_begin_111 : decode cX8_begin 111 = .ok (.aload_n 0, 1) := by decide +kernel
theorem dX8_begin_112 : decode cX8_begin 112 = .ok (.getfield 33, 3) := by decide +kernel
theorem dX8_begin_115 : decode cX8_begin 115 = .ok (.iconst 0, 1) := by decide +kernel
theorem dX8_begin_116 : decode cX8_begin 116 = .ok (.invokestatic 80, 3) := by decide +kernel
theorem dX8_begin_119 : decode cX8_begin 119 = .ok (.aload_n 0, 1) := by decide +kernel
theorem dX8_begin_120 : decode cX8_begin 120 = .ok (.getfield 36, 3) := by decide +kernel
theorem dX8_begin_123 : decode cX8_begin 123 = .ok (.iconst 0, 1) := by decide +kernel
theorem dX8_begin_124 : decode cX8_begin 124 = .ok (.invokestatic 80, 3) := by decide +kernel
theorem dX8_begin_127 : decode cX8_begin 127 = .ok (.aload_n 0, 1) := by decide +kernel
theorem dX8_begin_128 : decode cX8_begin 128 = .ok (.getfield 39, 3) := by decide +kernel
theorem dX8_begin_131 : decode cX8_begin 131 = .ok (.iconst 0, 1) := by decide +kernel
theorem dX8_begin_132 : decode cX8_begin 132 = .ok (.invokestatic 80, 3) := by decide +kernel
theorem dX8_begin_135 : decode cX8_begin 135 = .ok (.aload_n 0, 1) := by decide +kernel
theorem dX8_begin_136 : decode cX8_begin 136 = .ok (.getfield 42, 3) := by decide +kernel
theorem dX8_begin_139 : decode cX8_begin 139 = .ok (.iconst 0, 1) := by decide +kernel
theorem dX8_begin_140 : decode cX8_begin 140 = .ok (.invokestatic 80, 3) := by decide +kernel
theorem dX8_begin_143 : decode cX8_begin 143 = .ok (.aload_n 0, 1) := by decide +kernel
theorem dX8_begin_144 : decode cX8_begin 144 = .ok (.getfield 45, 3) := by decide +kernel
theorem dX8_begin_147 : decode cX8_begin 147 = .ok (.iconst (-1), 1) := by decide +kernel
theorem dX8_begin_148 : decode cX8_begin 148 = .ok (.invokestatic 80, 3) := by decide +kernel
theorem dX8_begin_151 : decode cX8_begin 151 = .ok (.aload_n 0, 1) := by decide +kernel
theorem dX8_begin_152 : decode cX8_begin 152 = .ok (.getfield 48, 3) := by decide +kernel
theorem dX8_begin_155 : decode cX8_begin 155 = .ok (.iconst 0, 1) := by decide +kernel
theorem dX8_begin_156 : decode cX8_begin 156 = .ok (.invokestatic 80, 3) := by decide +kernel
theorem dX8_begin_159 : decode cX8_begin 159 = .ok (.aload_n 0, 1) := by decide +kernel
theorem dX8_begin_160 : decode cX8_begin 160 = .ok (.iconst 0, 1) := by decide +kernel
theorem dX8_begin_161 : decode cX8_begin 161 = .ok (.putfield 86, 3) := by decide +kernel
theorem dX8_begin_164 : decode cX8_begin 164 = .ok (.aload_n 0, 1) := by decide +kernel
theorem dX8_begin_165 : decode cX8_begin 165 = .ok (.iconst 0, 1) := by decide +kernel
theorem dX8_begin_166 : decode cX8_begin 166 = .ok (.putfield 89, 3) := by decide +kernel
theorem dX8_begin_169 : decode cX8_begin 169 = .ok (.aload_n 0, 1) := by decide +kernel
theorem dX8_begin_170 : decode cX8_begin 170 = .ok (.iconst 0, 1) := by decide +kernel
theorem dX8_begin_171 : decode cX8_begin 171 = .ok (.putfield 92, 3) := by decide +kernel
theorem dX8_begin_174 : decode cX8_begin 174 = .ok (.aload_n 0, 1) := by decide +kernel
theorem dX8_begin_175 : decode cX8_begin 175 = .ok (.iconst (-1), 1) := by decide +kernel
theorem dX8_begin_176 : decode cX8_begin 176 = .ok (.putfield 95, 3) := by decide +kernel
theorem dX8_begin_179 : decode cX8_begin 179 = .ok (.return_, 1) := by decide +kernel
theorem dX8_run_0 : decode cX8_run 0 = .ok (.iconst 0, 1) := by decide +kernel
theorem dX8_run_1 : decode cX8_run 1 = .ok (.istore_n 1, 1) := by decide +kernel
theorem dX8_run_2 : decode cX8_run 2 = .ok (.iload_n 1, 1) := by decide +kernel
theorem dX8_run_3 : decode cX8_run 3 = .ok (.aload_n 0, 1) := by decide +kernel
theorem dX8_run_4 : decode cX8_run 4 = .ok (.getfield 51, 3) := by decide +kernel
theorem dX8_run_7 : decode cX8_run 7 = .ok (.getfield 98, 3) := by decide +kernel
theorem dX8_run_10 : decode cX8_run 10 = .ok (.if_icmp .ge 14, 3) := by decide +kernel
theorem dX8_run_13 : decode cX8_run 13 = .ok (.aload_n 0, 1) := by decide +kernel
theorem dX8_run_14 : decode cX8_run 14 = .ok (.iload_n 1, 1) := by decide +kernel
theorem dX8_run_15 : decode cX8_run 15 = .ok (.invokevirtual 101, 3) := by decide +kernel
theorem dX8_run_18 : decode cX8_run 18 = .ok (.iinc 1 1, 3) := by decide +kernel
theorem dX8_run_21 : decode cX8_run 21 = .ok (.goto (-19), 3) := by decide +kernel
theorem dX8_run_24 : decode cX8_run 24 = .ok (.return_, 1) := by decide +kernel
theorem dX8_pass_0 : decode cX8_pass 0 = .ok (.aload_n 0, 1) := by decide +kernel
theorem dX8_pass_1 : decode cX8_pass 1 = .ok (.iload_n 1, 1) := by decide +kernel
theorem dX8_pass_2 : decode cX8_pass 2 = .ok (.invokevirtual 105, 3) := by decide +kernel
theorem dX8_pass_5 : decode cX8_pass 5 = .ok (.aload_n 0, 1) := by decide +kernel
theorem dX8_pass_6 : decode cX8_pass 6 = .ok (.iload_n 1, 1) := by decide +kernel
theorem dX8_pass_7 : decode cX8_pass 7 = .ok (.invokevirtual 108, 3) := by decide +kernel
theorem dX8_pass_10 : decode cX8_pass 10 = .ok (.aload_n 0, 1) := by decide +kernel
theorem dX8_pass_11 : decode cX8_pass 11 = .ok (.iload_n 1, 1) := by decide +kernel
theorem dX8_pass_12 : decode cX8_pass 12 = .ok (.invokevirtual 111, 3) := by decide +kernel
theorem dX8_pass_15 : decode cX8_pass 15 = .ok (.iload_n 1, 1) := by decide +kernel
theorem dX8_pass_16 : decode cX8_pass 16 = .ok (.aload_n 0, 1) := by decide +kernel
theorem dX8_pass_17 : decode cX8_pass 17 = .ok (.getfield 51, 3) := by decide +kernel
theorem dX8_pass_20 : decode cX8_pass 20 = .ok (.getfield 114, 3) := by decide +kernel
theorem dX8_pass_23 : decode cX8_pass 23 = .ok (.if_icmp .ne 8, 3) := by decide +kernel
theorem dX8_pass_26 : decode cX8_pass 26 = .ok (.aload_n 0, 1) := by decide +kernel
theorem dX8_pass_27 : decode cX8_pass 27 = .ok (.iload_n 1, 1) := by decide +kernel
theorem dX8_pass_28 : decode cX8_pass 28 = .ok (.invokevirtual 117, 3) := by decide +kernel
theorem dX8_pass_31 : decode cX8_pass 31 = .ok (.aload_n 0, 1) := by decide +kernel
theorem dX8_pass_32 : decode cX8_pass 32 = .ok (.iload_n 1, 1) := by decide +kernel
theorem dX8_pass_33 : decode cX8_pass 33 = .ok (.invokevirtual 120, 3) := by decide +kernel
theorem dX8_pass_36 : decode cX8_pass 36 = .ok (.aload_n 0, 1) := by decide +kernel
theorem dX8_pass_37 : decode cX8_pass 37 = .ok (.iload_n 1, 1) := by decide +kernel
theorem dX8_pass_38 : decode cX8_pass 38 = .ok (.invokevirtual 123, 3) := by decide +kernel
theorem dX8_pass_41 : decode cX8_pass 41 = .ok (.aload_n 0, 1) := by decide +kernel
theorem dX8_pass_42 : decode cX8_pass 42 = .ok (.invokevirtual 126, 3) := by decide +kernel
theorem dX8_pass_45 : decode cX8_pass 45 = .ok (.aload_n 0, 1) := by decide +kernel
theorem dX8_pass_46 : decode cX8_pass 46 = .ok (.iload_n 1, 1) := by decide +kernel
theorem dX8_pass_47 : decode cX8_pass 47 = .ok (.invokevirtual 129, 3) := by decide +kernel
theorem dX8_pass_50 : decode cX8_pass 50 = .ok (.return_, 1) := by decide +kernel
theorem dX8_waterBehind_0 : decode cX8_waterBehind 0 = .ok (.iload_n 1, 1) := by decide +kernel
theorem dX8_waterBehind_1 : decode cX8_waterBehind 1 = .ok (.ifCond .lt 19, 3) := by decide +kernel
theorem dX8_waterBehind_4 : decode cX8_waterBehind 4 = .ok (.iload_n 1, 1) := by decide +kernel
theorem dX8_waterBehind_5 : decode cX8_waterBehind 5 = .ok (.bipush 6, 2) := by decide +kernel
theorem dX8_waterBehind_7 : decode cX8_waterBehind 7 = .ok (.if_icmp .ge 13, 3) := by decide +kernel
theorem dX8_waterBehind_10 : decode cX8_waterBehind 10 = .ok (.iload_n 2, 1) := by decide +kernel
theorem dX8_waterBehind_11 : decode cX8_waterBehind 11 = .ok (.ifCond .lt 9, 3) := by decide +kernel
theorem dX8_waterBehind_14 : decode cX8_waterBehind 14 = .ok (.iload_n 2, 1) := by decide +kernel
theorem dX8_waterBehind_15 : decode cX8_waterBehind 15 = .ok (.bipush 30, 2) := by decide +kernel
theorem dX8_waterBehind_17 : decode cX8_waterBehind 17 = .ok (.if_icmp .lt 5, 3) := by decide +kernel
theorem dX8_waterBehind_20 : decode cX8_waterBehind 20 = .ok (.iconst 0, 1) := by decide +kernel
theorem dX8_waterBehind_21 : decode cX8_waterBehind 21 = .ok (.ireturn, 1) := by decide +kernel
theorem dX8_waterBehind_22 : decode cX8_waterBehind 22 = .ok (.aload_n 0, 1) := by decide +kernel
theorem dX8_waterBehind_23 : decode cX8_waterBehind 23 = .ok (.getfield 18, 3) := by decide +kernel
theorem dX8_waterBehind_26 : decode cX8_waterBehind 26 = .ok (.iload_n 1, 1) := by decide +kernel
theorem dX8_waterBehind_27 : decode cX8_waterBehind 27 = .ok (.bipush 30, 2) := by decide +kernel
theorem dX8_waterBehind_29 : decode cX8_waterBehind 29 = .ok (.imul, 1) := by decide +kernel
theorem dX8_waterBehind_30 : decode cX8_waterBehind 30 = .ok (.iload_n 2, 1) := by decide +kernel
theorem dX8_waterBehind_31 : decode cX8_waterBehind 31 = .ok (.iadd, 1) := by decide +kernel
theorem dX8_waterBehind_32 : decode cX8_waterBehind 32 = .ok (.iaload, 1) := by decide +kernel
theorem dX8_waterBehind_33 : decode cX8_waterBehind 33 = .ok (.ireturn, 1) := by decide +kernel
theorem dX8_shortInAll_0 : decode cX8_shortInAll 0 = .ok (.aload_n 0, 1) := by decide +kernel
theorem dX8_shortInAll_1 : decode cX8_shortInAll 1 = .ok (.getfield 24, 3) := by decide +kernel
theorem dX8_shortInAll_4 : decode cX8_shortInAll 4 = .ok (.invokestatic 132, 3) := by decide +kernel
theorem dX8_shortInAll_7 : decode cX8_shortInAll 7 = .ok (.aload_n 0, 1) := by decide +kernel
theorem dX8_shortInAll_8 : decode cX8_shortInAll 8 = .ok (.getfield 27, 3) := by decide +kernel
theorem dX8_shortInAll_11 : decode cX8_shortInAll 11 = .ok (.invokestatic 132, 3) := by decide +kernel
theorem dX8_shortInAll_14 : decode cX8_shortInAll 14 = .ok (.isub, 1) := by decide +kernel
theorem dX8_shortInAll_15 : decode cX8_shortInAll 15 = .ok (.aload_n 0, 1) := by decide +kernel
theorem dX8_shortInAll_16 : decode cX8_shortInAll 16 = .ok (.getfield 33, 3) := by decide +kernel
theorem dX8_shortInAll_19 : decode cX8_shortInAll 19 = .ok (.invokestatic 132, 3) := by decide +kernel
theorem dX8_shortInAll_22 : decode cX8_shortInAll 22 = .ok (.iadd, 1) := by decide +kernel
theorem dX8_shortInAll_23 : decode cX8_shortInAll 23 = .ok (.aload_n 0, 1) := by decide +kernel
theorem dX8_shortInAll_24 : decode cX8_shortInAll 24 = .ok (.getfield 36, 3) := by decide +kernel
theorem dX8_shortInAll_27 : decode cX8_shortInAll 27 = .ok (.invokestatic 132, 3) := by decide +kernel
theorem dX8_shortInAll_30 : decode cX8_shortInAll 30 = .ok (.isub, 1) := by decide +kernel
theorem dX8_shortInAll_31 : decode cX8_shortInAll 31 = .ok (.ireturn, 1) := by decide +kernel
theorem dX8_roomOf_0 : decode cX8_roomOf 0 = .ok (.aload_n 0, 1) := by decide +kernel
theorem dX8_roomOf_1 : decode cX8_roomOf 1 = .ok (.getfield 51, 3) := by decide +kernel
theorem dX8_roomOf_4 : decode cX8_roomOf 4 = .ok (.getfield 77, 3) := by decide +kernel
theorem dX8_roomOf_7 : decode cX8_roomOf 7 = .ok (.iload_n 1, 1) := by decide +kernel
theorem dX8_roomOf_8 : decode cX8_roomOf 8 = .ok (.iconst 0, 1) := by decide +kernel
theorem dX8_roomOf_9 : decode cX8_roomOf 9 = .ok (.invokevirtual 71, 3) := by decide +kernel
theorem dX8_roomOf_12 : decode cX8_roomOf 12 = .ok (.aload_n 0, 1) := by decide +kernel
theorem dX8_roomOf_13 : decode cX8_roomOf 13 = .ok (.getfield 15, 3) := by decide +kernel
theorem dX8_roomOf_16 : decode cX8_roomOf 16 = .ok (.iload_n 1, 1) := by decide +kernel
theorem dX8_roomOf_17 : decode cX8_roomOf 17 = .ok (.iaload, 1) := by decide +kernel
theorem dX8_roomOf_18 : decode cX8_roomOf 18 = .ok (.isub, 1) := by decide +kernel
theorem dX8_roomOf_19 : decode cX8_roomOf 19 = .ok (.ireturn, 1) := by decide +kernel
theorem dX8_withMore_0 : decode cX8_withMore 0 = .ok (.iload_n 1, 1) := by decide +kernel
theorem dX8_withMore_1 : decode cX8_withMore 1 = .ok (.iload_n 1, 1) := by decide +kernel
theorem dX8_withMore_2 : decode cX8_withMore 2 = .ok (.aload_n 0, 1) := by decide +kernel
theorem dX8_withMore_3 : decode cX8_withMore 3 = .ok (.getfield 61, 3) := by decide +kernel
theorem dX8_withMore_6 : decode cX8_withMore 6 = .ok (.imul, 1) := by decide +kernel
theorem dX8_withMore_7 : decode cX8_withMore 7 = .ok (.bipush 100, 2) := by decide +kernel
theorem dX8_withMore_9 : decode cX8_withMore 9 = .ok (.iadd, 1) := by decide +kernel
theorem dX8_withMore_10 : decode cX8_withMore 10 = .ok (.iconst 1, 1) := by decide +kernel
theorem dX8_withMore_11 : decode cX8_withMore 11 = .ok (.isub, 1) := by decide +kernel
theorem dX8_withMore_12 : decode cX8_withMore 12 = .ok (.bipush 100, 2) := by decide +kernel
theorem dX8_withMore_14 : decode cX8_withMore 14 = .ok (.idiv, 1) := by decide +kernel
theorem dX8_withMore_15 : decode cX8_withMore 15 = .ok (.iadd, 1) := by decide +kernel
theorem dX8_withMore_16 : decode cX8_withMore 16 = .ok (.ireturn, 1) := by decide +kernel
theorem dX8_noteTrouble_0 : decode cX8_noteTrouble 0 = .ok (.aload_n 0, 1) := by decide +kernel
theorem dX8_noteTrouble_1 : decode cX8_noteTrouble 1 = .ok (.getfield 95, 3) := by decide +kernel
theorem dX8_noteTrouble_4 : decode cX8_noteTrouble 4 = .ok (.iconst (-1), 1) := by decide +kernel
theorem dX8_noteTrouble_5 : decode cX8_noteTrouble 5 = .ok (.if_icmp .ne 8, 3) := by decide +kernel
theorem dX8_noteTrouble_8 : decode cX8_noteTrouble 8 = .ok (.aload_n 0, 1) := by decide +kernel
theorem dX8_noteTrouble_9 : decode cX8_noteTrouble 9 = .ok (.iload_n 1, 1) := by decide +kernel
theorem dX8_noteTrouble_10 : decode cX8_noteTrouble 10 = .ok (.putfield 95, 3) := by decide +kernel
theorem dX8_noteTrouble_13 : decode cX8_noteTrouble 13 = .ok (.return_, 1) := by decide +kernel
theorem dX8_takeFloods_0 : decode cX8_takeFloods 0 = .ok (.iconst 0, 1) := by decide +kernel
theorem dX8_takeFloods_1 : decode cX8_takeFloods 1 = .ok (.istore_n 2, 1) := by decide +kernel
theorem dX8_takeFloods_2 : decode cX8_takeFloods 2 = .ok (.iload_n 2, 1) := by decide +kernel
theorem dX8_takeFloods_3 : decode cX8_takeFloods 3 = .ok (.aload_n 0, 1) := by decide +kernel
theorem dX8_takeFloods_4 : decode cX8_takeFloods 4 = .ok (.getfield 51, 3) := by decide +kernel
theorem dX8_takeFloods_7 : decode cX8_takeFloods 7 = .ok (.getfield 67, 3) := by decide +kernel
theorem dX8_takeFloods_10 : decode cX8_takeFloods 10 = .ok (.getfield 136, 3) := by decide +kernel
theorem dX8_takeFloods_13 : decode cX8_takeFloods 13 = .ok (.if_icmp .ge 94, 3) := by decide +kernel
theorem dX8_takeFloods_16 : decode cX8_takeFloods 16 = .ok (.aload_n 0, 1) := by decide +kernel
theorem dX8_takeFloods_17 : decode cX8_takeFloods 17 = .ok (.getfield 9, 3) := by decide +kernel
theorem dX8_takeFloods_20 : decode cX8_takeFloods 20 = .ok (.iload_n 2, 1) := by decide +kernel
theorem dX8_takeFloods_21 : decode cX8_takeFloods 21 = .ok (.iaload, 1) := by decide +kernel
theorem dX8_takeFloods_22 : decode cX8_takeFloods 22 = .ok (.istore_n 3, 1) := by decide +kernel
theorem dX8_takeFloods_23 : decode cX8_takeFloods 23 = .ok (.iload_n 3, 1) := by decide +kernel
theorem dX8_takeFloods_24 : decode cX8_takeFloods 24 = .ok (.iconst (-1), 1) := by decide +kernel
theorem dX8_takeFloods_25 : decode cX8_takeFloods 25 = .ok (.if_icmp .eq 76, 3) := by decide +kernel
theorem dX8_takeFloods_28 : decode cX8_takeFloods 28 = .ok (.aload_n 0, 1) := by decide +kernel
theorem dX8_takeFloods_29 : decode cX8_takeFloods 29 = .ok (.getfield 51, 3) := by decide +kernel
theorem dX8_takeFloods_32 : decode cX8_takeFloods 32 = .ok (.getfield 67, 3) := by decide +kernel
theorem dX8_takeFloods_35 : decode cX8_takeFloods 35 = .ok (.iload_n 2, 1) := by decide +kernel
theorem dX8_takeFloods_36 : decode cX8_takeFloods 36 = .ok (.iconst 0, 1) := by decide +kernel
theorem dX8_takeFloods_37 : decode cX8_takeFloods 37 = .ok (.invokevirtual 71, 3) := by decide +kernel
theorem dX8_takeFloods_40 : decode cX8_takeFloods 40 = .ok (.iload_n 1, 1) := by decide +kernel
theorem dX8_takeFloods_41 : decode cX8_takeFloods 41 = .ok (.if_icmp .ne 60, 3) := by decide +kernel
theorem dX8_takeFloods_44 : decode cX8_takeFloods 44 = .ok (.aload_n 0, 1) := by decide +kernel
theorem dX8_takeFloods_45 : decode cX8_takeFloods 45 = .ok (.getfield 21, 3) := by decide +kernel
theorem dX8_takeFloods_48 : decode cX8_takeFloods 48 = .ok (.iload_n 2, 1) := by decide +kernel
theorem dX8_takeFloods_49 : decode cX8_takeFloods 49 = .ok (.aload_n 0, 1) := by decide +kernel
theorem dX8_takeFloods_50 : decode cX8_takeFloods 50 = .ok (.getfield 51, 3) := by decide +kernel
theorem dX8_takeFloods_53 : decode cX8_takeFloods 53 = .ok (.getfield 67, 3) := by decide +kernel
theorem dX8_takeFloods_56 : decode cX8_takeFloods 56 = .ok (.iload_n 2, 1) := by decide +kernel
theorem dX8_takeFloods_57 : decode cX8_takeFloods 57 = .ok (.iconst 1, 1) := by decide +kernel
theorem dX8_takeFloods_58 : decode cX8_takeFloods 58 = .ok (.invokevirtual 71, 3) := by decide +kernel
theorem dX8_takeFloods_61 : decode cX8_takeFloods 61 = .ok (.aload_n 0, 1) := by decide +kernel
theorem dX8_takeFloods_62 : decode cX8_takeFloods 62 = .ok (.iload_n 3, 1) := by decide +kernel
theorem dX8_takeFloods_63 : decode cX8_takeFloods 63 = .ok (.invokevirtual 139, 3) := by decide +kernel
theorem dX8_takeFloods_66 : decode cX8_takeFloods 66 = .ok (.invokestatic 143, 3) := by decide +kernel
theorem dX8_takeFloods_69 : decode cX8_takeFloods 69 = .ok (.iastore, 1) := by decide +kernel
theorem dX8_takeFloods_70 : decode cX8_takeFloods 70 = .ok (.aload_n 0, 1) := by decide +kernel
theorem dX8_takeFloods_71 : decode cX8_takeFloods 71 = .ok (.getfield 24, 3) := by decide +kernel
theorem dX8_takeFloods_74 : decode cX8_takeFloods 74 = .ok (.iload_n 2, 1) := by decide +kernel
theorem dX8_takeFloods_75 : decode cX8_takeFloods 75 = .ok (.aload_n 0, 1) := by decide +kernel
theorem dX8_takeFloods_76 : decode cX8_takeFloods 76 = .ok (.aload_n 0, 1) := by decide +kernel
theorem dX8_takeFloods_77 : decode cX8_takeFloods 77 = .ok (.getfield 21, 3) := by decide +kernel
theorem dX8_takeFloods_80 : decode cX8_takeFloods 80 = .ok (.iload_n 2, 1) := by decide +kernel
theorem dX8_takeFloods_81 : decode cX8_takeFloods 81 = .ok (.iaload, 1) := by decide +kernel
theorem dX8_takeFloods_82 : decode cX8_takeFloods 82 = .ok (.invokevirtual 148, 3) := by decide +kernel
theorem dX8_takeFloods_85 : decode cX8_takeFloods 85 = .ok (.iastore, 1) := by decide +kernel
theorem dX8_takeFloods_86 : decode cX8_takeFloods 86 = .ok (.aload_n 0, 1) := by decide +kernel
theorem dX8_takeFloods_87 : decode cX8_takeFloods 87 = .ok (.getfield 15, 3) := by decide +kernel
theorem dX8_takeFloods_90 : decode cX8_takeFloods 90 = .ok (.iload_n 3, 1) := by decide +kernel
theorem dX8_takeFloods_91 : decode cX8_takeFloods 91 = .ok (.dup2, 1) := by decide +kernel
theorem dX8_takeFloods_92 : decode cX8_takeFloods 92 = .ok (.iaload, 1) := by decide +kernel
theorem dX8_takeFloods_93 : decode cX8_takeFloods 93 = .ok (.aload_n 0, 1) := by decide +kernel
theorem dX8_takeFloods_94 : decode cX8_takeFloods 94 = .ok (.getfield 21, 3) := by decide +kernel
theorem dX8_takeFloods_97 : decode cX8_takeFloods 97 = .ok (.iload_n 2, 1) := by decide +kernel
theorem dX8_takeFloods_98 : decode cX8_takeFloods 98 = .ok (.iaload, 1) := by decide +kernel
theorem dX8_takeFloods_99 : decode cX8_takeFloods 99 = .ok (.iadd, 1) := by decide +kernel
theorem dX8_takeFloods_100 : decode cX8_takeFloods 100 = .ok (.iastore, 1) := by decide +kernel
theorem dX8_takeFloods_101 : decode cX8_takeFloods 101 = .ok (.iinc 2 1, 3) := by decide +kernel
theorem dX8_takeFloods_104 : decode cX8_takeFloods 104 = .ok (.goto (-102), 3) := by decide +kernel
theorem dX8_takeFloods_107 : decode cX8_takeFloods 107 = .ok (.return_, 1) := by decide +kernel
theorem dX8_lendOn_0 : decode cX8_lendOn 0 = .ok (.iconst 0, 1) := by decide +kernel
theorem dX8_lendOn_1 : decode cX8_lendOn 1 = .ok (.istore_n 2, 1) := by decide +kernel
theorem dX8_lendOn_2 : decode cX8_lendOn 2 = .ok (.iload_n 2, 1) := by decide +kernel
theorem dX8_lendOn_3 : decode cX8_lendOn 3 = .ok (.aload_n 0, 1) := by decide +kernel
theorem dX8_lendOn_4 : decode cX8_lendOn 4 = .ok (.getfield 51, 3) := by decide +kernel
theorem dX8_lendOn_7 : decode cX8_lendOn 7 = .ok (.getfield 151, 3) := by decide +kernel
theorem dX8_lendOn_10 : decode cX8_lendOn 10 = .ok (.getfield 136, 3) := by decide +kernel
theorem dX8_lendOn_13 : decode cX8_lendOn 13 = .ok (.if_icmp .ge 147, 3) := by decide +kernel
theorem dX8_lendOn_16 : decode cX8_lendOn 16 = .ok (.aload_n 0, 1) := by decide +kernel
theorem dX8_lendOn_17 : decode cX8_lendOn 17 = .ok (.getfield 51, 3) := by decide +kernel
theorem dX8_lendOn_20 : decode cX8_lendOn 20 = .ok (.getfield 151, 3) := by decide +kernel
theorem dX8_lendOn_23 : decode cX8_lendOn 23 = .ok (.iload_n 2, 1) := by decide +kernel
theorem dX8_lendOn_24 : decode cX8_lendOn 24 = .ok (.iconst 0, 1) := by decide +kernel
theorem dX8_lendOn_25 : decode cX8_lendOn 25 = .ok (.invokevirtual 71, 3) := by decide +kernel
theorem dX8_lendOn_28 : decode cX8_lendOn 28 = .ok (.istore_n 3, 1) := by decide +kernel
theorem dX8_lendOn_29 : decode cX8_lendOn 29 = .ok (.aload_n 0, 1) := by decide +kernel
theorem dX8_lendOn_30 : decode cX8_lendOn 30 = .ok (.getfield 51, 3) := by decide +kernel
theorem dX8_lendOn_33 : decode cX8_lendOn 33 = .ok (.getfield 151, 3) := by decide +kernel
theorem dX8_lendOn_36 : decode cX8_lendOn 36 = .ok (.iload_n 2, 1) := by decide +kernel
theorem dX8_lendOn_37 : decode cX8_lendOn 37 = .ok (.iconst 3, 1) := by decide +kernel
theorem dX8_lendOn_38 : decode cX8_lendOn 38 = .ok (.invokevirtual 71, 3) := by decide +kernel
theorem dX8_lendOn_41 : decode cX8_lendOn 41 = .ok (.iload_n 1, 1) := by decide +kernel
theorem dX8_lendOn_42 : decode cX8_lendOn 42 = .ok (.if_icmp .ne 112, 3) := by decide +kernel
theorem dX8_lendOn_45 : decode cX8_lendOn 45 = .ok (.iload_n 3, 1) := by decide +kernel
theorem dX8_lendOn_46 : decode cX8_lendOn 46 = .ok (.aload_n 0, 1) := by decide +kernel
theorem dX8_lendOn_47 : decode cX8_lendOn 47 = .ok (.getfield 64, 3) := by decide +kernel
theorem dX8_lendOn_50 : decode cX8_lendOn 50 = .ok (.if_icmp .eq 104, 3) := by decide +kernel
theorem dX8_lendOn_53 : decode cX8_lendOn 53 = .ok (.aload_n 0, 1) := by decide +kernel
theorem dX8_lendOn_54 : decode cX8_lendOn 54 = .ok (.getfield 51, 3) := by decide +kernel
theorem dX8_lendOn_57 : decode cX8_lendOn 57 = .ok (.getfield 151, 3) := by decide +kernel
theorem dX8_lendOn_60 : decode cX8_lendOn 60 = .ok (.iload_n 2, 1) := by decide +kernel
theorem dX8_lendOn_61 : decode cX8_lendOn 61 = .ok (.iconst 1, 1) := by decide +kernel
theorem dX8_lendOn_62 : decode cX8_lendOn 62 = .ok (.invokevirtual 71, 3) := by decide +kernel
theorem dX8_lendOn_65 : decode cX8_lendOn 65 = .ok (.istore 4, 2) := by decide +kernel
theorem dX8_lendOn_67 : decode cX8_lendOn 67 = .ok (.aload_n 0, 1) := by decide +kernel
theorem dX8_lendOn_68 : decode cX8_lendOn 68 = .ok (.getfield 51, 3) := by decide +kernel
theorem dX8_lendOn_71 : decode cX8_lendOn 71 = .ok (.getfield 151, 3) := by decide +kernel
theorem dX8_lendOn_74 : decode cX8_lendOn 74 = .ok (.iload_n 2, 1) := by decide +kernel
theorem dX8_lendOn_75 : decode cX8_lendOn 75 = .ok (.iconst 2, 1) := by decide +kernel
theorem dX8_lendOn_76 : decode cX8_lendOn 76 = .ok (.invokevirtual 71, 3) := by decide +kernel
theorem dX8_lendOn_79 : decode cX8_lendOn 79 = .ok (.aload_n 0, 1) := by decide +kernel
theorem dX8_lendOn_80 : decode cX8_lendOn 80 = .ok (.getfield 15, 3) := by decide +kernel
theorem dX8_lendOn_83 : decode cX8_lendOn 83 = .ok (.iload_n 3, 1) := by decide +kernel
theorem dX8_lendOn_84 : decode cX8_lendOn 84 = .ok (.iaload, 1) := by decide +kernel
theorem dX8_lendOn_85 : decode cX8_lendOn 85 = .ok (.invokestatic 143, 3) := by decide +kernel
theorem dX8_lendOn_88 : decode cX8_lendOn 88 = .ok (.istore 5, 2) := by decide +kernel
theorem dX8_lendOn_90 : decode cX8_lendOn 90 = .ok (.aload_n 0, 1) := by decide +kernel
theorem dX8_lendOn_91 : decode cX8_lendOn 91 = .ok (.getfield 30, 3) := by decide +kernel
theorem dX8_lendOn_94 : decode cX8_lendOn 94 = .ok (.iload_n 2, 1) := by decide +kernel
theorem dX8_lendOn_95 : decode cX8_lendOn 95 = .ok (.iload 5, 2) := by decide +kernel
theorem dX8_lendOn_97 : decode cX8_lendOn 97 = .ok (.aload_n 0, 1) := by decide +kernel
theorem dX8_lendOn_98 : decode cX8_lendOn 98 = .ok (.iload 4, 2) := by decide +kernel
theorem dX8_lendOn_100 : decode cX8_lendOn 100 = .ok (.invokevirtual 139, 3) := by decide +kernel
theorem dX8_lendOn_103 : decode cX8_lendOn 103 = .ok (.invokestatic 143, 3) := by decide +kernel
theorem dX8_lendOn_106 : decode cX8_lendOn 106 = .ok (.iastore, 1) := by decide +kernel
theorem dX8_lendOn_107 : decode cX8_lendOn 107 = .ok (.aload_n 0, 1) := by decide +kernel
theorem dX8_lendOn_108 : decode cX8_lendOn 108 = .ok (.getfield 33, 3) := by decide +kernel
theorem dX8_lendOn_111 : decode cX8_lendOn 111 = .ok (.iload_n 2, 1) := by decide +kernel
theorem dX8_lendOn_112 : decode cX8_lendOn 112 = .ok (.aload_n 0, 1) := by decide +kernel
theorem dX8_lendOn_113 : decode cX8_lendOn 113 = .ok (.aload_n 0, 1) := by decide +kernel
theorem dX8_lendOn_114 : decode cX8_lendOn 114 = .ok (.getfield 30, 3) := by decide +kernel
theorem dX8_lendOn_117 : decode cX8_lendOn 117 = .ok (.iload_n 2, 1) := by decide +kernel
theorem dX8_lendOn_118 : decode cX8_lendOn 118 = .ok (.iaload, 1) := by decide +kernel
theorem dX8_lendOn_119 : decode cX8_lendOn 119 = .ok (.invokevirtual 148, 3) := by decide +kernel
theorem dX8_lendOn_122 : decode cX8_lendOn 122 = .ok (.iastore, 1) := by decide +kernel
theorem dX8_lendOn_123 : decode cX8_lendOn 123 = .ok (.aload_n 0, 1) := by decide +kernel
theorem dX8_lendOn_124 : decode cX8_lendOn 124 = .ok (.getfield 15, 3) := by decide +kernel
theorem dX8_lendOn_127 : decode cX8_lendOn 127 = .ok (.iload_n 3, 1) := by decide +kernel
theorem dX8_lendOn_128 : decode cX8_lendOn 128 = .ok (.dup2, 1) := by decide +kernel
theorem dX8_lendOn_129 : decode cX8_lendOn 129 = .ok (.iaload, 1) := by decide +kernel
theorem dX8_lendOn_130 : decode cX8_lendOn 130 = .ok (.aload_n 0, 1) := by decide +kernel
theorem dX8_lendOn_131 : decode cX8_lendOn 131 = .ok (.getfield 30, 3) := by decide +kernel
theorem dX8_lendOn_134 : decode cX8_lendOn 134 = .ok (.iload_n 2, 1) := by decide +kernel
theorem dX8_lendOn_135 : decode cX8_lendOn 135 = .ok (.iaload, 1) := by decide +kernel
theorem dX8_lendOn_136 : decode cX8_lendOn 136 = .ok (.isub, 1) := by decide +kernel
theorem dX8_lendOn_137 : decode cX8_lendOn 137 = .ok (.iastore, 1) := by decide +kernel
theorem dX8_lendOn_138 : decode cX8_lendOn 138 = .ok (.aload_n 0, 1) := by decide +kernel
theorem dX8_lendOn_139 : decode cX8_lendOn 139 = .ok (.getfield 15, 3) := by decide +kernel
theorem dX8_lendOn_142 : decode cX8_lendOn 142 = .ok (.iload 4, 2) := by decide +kernel
theorem dX8_lendOn_144 : decode cX8_lendOn 144 = .ok (.dup2, 1) := by decide +kernel
theorem dX8_lendOn_145 : decode cX8_lendOn 145 = .ok (.iaload, 1) := by decide +kernel
theorem dX8_lendOn_146 : decode cX8_lendOn 146 = .ok (.aload_n 0, 1) := by decide +kernel
theorem dX8_lendOn_147 : decode cX8_lendOn 147 = .ok (.getfield 30, 3) := by decide +kernel
theorem dX8_lendOn_150 : decode cX8_lendOn 150 = .ok (.iload_n 2, 1) := by decide +kernel
theorem dX8_lendOn_151 : decode cX8_lendOn 151 = .ok (.iaload, 1) := by decide +kernel
theorem dX8_lendOn_152 : decode cX8_lendOn 152 = .ok (.iadd, 1) := by decide +kernel
theorem dX8_lendOn_153 : decode cX8_lendOn 153 = .ok (.iastore, 1) := by decide +kernel
theorem dX8_lendOn_154 : decode cX8_lendOn 154 = .ok (.iinc 2 1, 3) := by decide +kernel
theorem dX8_lendOn_157 : decode cX8_lendOn 157 = .ok (.goto (-155), 3) := by decide +kernel
theorem dX8_lendOn_160 : decode cX8_lendOn 160 = .ok (.return_, 1) := by decide +kernel
theorem dX8_repayTill_0 : decode cX8_repayTill 0 = .ok (.iconst 0, 1) := by decide +kernel
theorem dX8_repayTill_1 : decode cX8_repayTill 1 = .ok (.istore_n 2, 1) := by decide +kernel
theorem dX8_repayTill_2 : decode cX8_repayTill 2 = .ok (.iload_n 2, 1) := by decide +kernel
theorem dX8_repayTill_3 : decode cX8_repayTill 3 = .ok (.aload_n 0, 1) := by decide +kernel
theorem dX8_repayTill_4 : decode cX8_repayTill 4 = .ok (.getfield 51, 3) := by decide +kernel
theorem dX8_repayTill_7 : decode cX8_repayTill 7 = .ok (.getfield 151, 3) := by decide +kernel
theorem dX8_repayTill_10 : decode cX8_repayTill 10 = .ok (.getfield 136, 3) := by decide +kernel
theorem dX8_repayTill_13 : decode cX8_repayTill 13 = .ok (.if_icmp .ge 137, 3) := by decide +kernel
theorem dX8_repayTill_16 : decode cX8_repayTill 16 = .ok (.aload_n 0, 1) := by decide +kernel
theorem dX8_repayTill_17 : decode cX8_repayTill 17 = .ok (.getfield 51, 3) := by decide +kernel
theorem dX8_repayTill_20 : decode cX8_repayTill 20 = .ok (.getfield 151, 3) := by decide +kernel
theorem dX8_repayTill_23 : decode cX8_repayTill 23 = .ok (.iload_n 2, 1) := by decide +kernel
theorem dX8_repayTill_24 : decode cX8_repayTill 24 = .ok (.iconst 4, 1) := by decide +kernel
theorem dX8_repayTill_25 : decode cX8_repayTill 25 = .ok (.invokevirtual 71, 3) := by decide +kernel
theorem dX8_repayTill_28 : decode cX8_repayTill 28 = .ok (.iload_n 1, 1) := by decide +kernel
theorem dX8_repayTill_29 : decode cX8_repayTill 29 = .ok (.if_icmp .ne 115, 3) := by decide +kernel
theorem dX8_repayTill_32 : decode cX8_repayTill 32 = .ok (.aload_n 0, 1) := by decide +kernel
theorem dX8_repayTill_33 : decode cX8_repayTill 33 = .ok (.getfield 51, 3) := by decide +kernel
theorem dX8_repayTill_36 : decode cX8_repayTill 36 = .ok (.getfield 151, 3) := by decide +kernel
theorem dX8_repayTill_39 : decode cX8_repayTill 39 = .ok (.iload_n 2, 1) := by decide +kernel
theorem dX8_repayTill_40 : decode cX8_repayTill 40 = .ok (.iconst 0, 1) := by decide +kernel
theorem dX8_repayTill_41 : decode cX8_repayTill 41 = .ok (.invokevirtual 71, 3) := by decide +kernel
theorem dX8_repayTill_44 : decode cX8_repayTill 44 = .ok (.istore_n 3, 1) := by decide +kernel
theorem dX8_repayTill_45 : decode cX8_repayTill 45 = .ok (.aload_n 0, 1) := by decide +kernel
theorem dX8_repayTill_46 : decode cX8_repayTill 46 = .ok (.getfield 51, 3) := by decide +kernel
theorem dX8_repayTill_49 : decode cX8_repayTill 49 = .ok (.getfield 151, 3) := by decide +kernel
theorem dX8_repayTill_52 : decode cX8_repayTill 52 = .ok (.iload_n 2, 1) := by decide +kernel
theorem dX8_repayTill_53 : decode cX8_repayTill 53 = .ok (.iconst 1, 1) := by decide +kernel
theorem dX8_repayTill_54 : decode cX8_repayTill 54 = .ok (.invokevirtual 71, 3) := by decide +kernel
theorem dX8_repayTill_57 : decode cX8_repayTill 57 = .ok (.istore 4, 2) := by decide +kernel
theorem dX8_repayTill_59 : decode cX8_repayTill 59 = .ok (.aload_n 0, 1) := by decide +kernel
theorem dX8_repayTill_60 : decode cX8_repayTill 60 = .ok (.getfield 33, 3) := by decide +kernel
theorem dX8_repayTill_63 : decode cX8_repayTill 63 = .ok (.iload_n 2, 1) := by decide +kernel
theorem dX8_repayTill_64 : decode cX8_repayTill 64 = .ok (.iaload, 1) := by decide +kernel
theorem dX8_repayTill_65 : decode cX8_repayTill 65 = .ok (.aload_n 0, 1) := by decide +kernel
theorem dX8_repayTill_66 : decode cX8_repayTill 66 = .ok (.getfield 15, 3) := by decide +kernel
theorem dX8_repayTill_69 : decode cX8_repayTill 69 = .ok (.iload 4, 2) := by decide +kernel
theorem dX8_repayTill_71 : decode cX8_repayTill 71 = .ok (.iaload, 1) := by decide +kernel
theorem dX8_repayTill_72 : decode cX8_repayTill 72 = .ok (.invokestatic 143, 3) := by decide +kernel
theorem dX8_repayTill_75 : decode cX8_repayTill 75 = .ok (.istore 5, 2) := by decide +kernel
theorem dX8_repayTill_77 : decode cX8_repayTill 77 = .ok (.aload_n 0, 1) := by decide +kernel
theorem dX8_repayTill_78 : decode cX8_repayTill 78 = .ok (.getfield 36, 3) := by decide +kernel
theorem dX8_repayTill_81 : decode cX8_repayTill 81 = .ok (.iload_n 2, 1) := by decide +kernel
theorem dX8_repayTill_82 : decode cX8_repayTill 82 = .ok (.iload 5, 2) := by decide +kernel
theorem dX8_repayTill_84 : decode cX8_repayTill 84 = .ok (.aload_n 0, 1) := by decide +kernel
theorem dX8_repayTill_85 : decode cX8_repayTill 85 = .ok (.iload_n 3, 1) := by decide +kernel
theorem dX8_repayTill_86 : decode cX8_repayTill 86 = .ok (.invokevirtual 139, 3) := by decide +kernel
theorem dX8_repayTill_89 : decode cX8_repayTill 89 = .ok (.invokestatic 143, 3) := by decide +kernel
theorem dX8_repayTill_92 : decode cX8_repayTill 92 = .ok (.iastore, 1) := by decide +kernel
theorem dX8_repayTill_93 : decode cX8_repayTill 93 = .ok (.aload_n 0, 1) := by decide +kernel
theorem dX8_repayTill_94 : decode cX8_repayTill 94 = .ok (.getfield 15, 3) := by decide +kernel
theorem dX8_repayTill_97 : decode cX8_repayTill 97 = .ok (.iload 4, 2) := by decide +kernel
theorem dX8_repayTill_99 : decode cX8_repayTill 99 = .ok (.dup2, 1) := by decide +kernel
theorem dX8_repayTill_100 : decode cX8_repayTill 100 = .ok (.iaload, 1) := by decide +kernel
theorem dX8_repayTill_101 : decode cX8_repayTill 101 = .ok (.aload_n 0, 1) := by decide +kernel
theorem dX8_repayTill_102 : decode cX8_repayTill 102 = .ok (.getfield 36, 3) := by decide +kernel
theorem dX8_repayTill_105 : decode cX8_repayTill 105 = .ok (.iload_n 2, 1) := by decide +kernel
theorem dX8_repayTill_106 : decode cX8_repayTill 106 = .ok (.iaload, 1) := by decide +kernel
theorem dX8_repayTill_107 : decode cX8_repayTill 107 = .ok (.isub, 1) := by decide +kernel
theorem dX8_repayTill_108 : decode cX8_repayTill 108 = .ok (.iastore, 1) := by decide +kernel
theorem dX8_repayTill_109 : decode cX8_repayTill 109 = .ok (.aload_n 0, 1) := by decide +kernel
theorem dX8_repayTill_110 : decode cX8_repayTill 110 = .ok (.getfield 15, 3) := by decide +kernel
theorem dX8_repayTill_113 : decode cX8_repayTill 113 = .ok (.iload_n 3, 1) := by decide +kernel
theorem dX8_repayTill_114 : decode cX8_repayTill 114 = .ok (.dup2, 1) := by decide +kernel
theorem dX8_repayTill_115 : decode cX8_repayTill 115 = .ok (.iaload, 1) := by decide +kernel
theorem dX8_repayTill_116 : decode cX8_repayTill 116 = .ok (.aload_n 0, 1) := by decide +kernel
theorem dX8_repayTill_117 : decode cX8_repayTill 117 = .ok (.getfield 36, 3) := by decide +kernel
theorem dX8_repayTill_120 : decode cX8_repayTill 120 = .ok (.iload_n 2, 1) := by decide +kernel
theorem dX8_repayTill_121 : decode cX8_repayTill 121 = .ok (.iaload, 1) := by decide +kernel
theorem dX8_repayTill_122 : decode cX8_repayTill 122 = .ok (.iadd, 1) := by decide +kernel
theorem dX8_repayTill_123 : decode cX8_repayTill 123 = .ok (.iastore, 1) := by decide +kernel
theorem dX8_repayTill_124 : decode cX8_repayTill 124 = .ok (.aload_n 0, 1) := by decide +kernel
theorem dX8_repayTill_125 : decode cX8_repayTill 125 = .ok (.getfield 36, 3) := by decide +kernel
theorem dX8_repayTill_128 : decode cX8_repayTill 128 = .ok (.iload_n 2, 1) := by decide +kernel
theorem dX8_repayTill_129 : decode cX8_repayTill 129 = .ok (.iaload, 1) := by decide +kernel
theorem dX8_repayTill_130 : decode cX8_repayTill 130 = .ok (.aload_n 0, 1) := by decide +kernel
theorem dX8_repayTill_131 : decode cX8_repayTill 131 = .ok (.getfield 33, 3) := by decide +kernel
theorem dX8_repayTill_134 : decode cX8_repayTill 134 = .ok (.iload_n 2, 1) := by decide +kernel
theorem dX8_repayTill_135 : decode cX8_repayTill 135 = .ok (.iaload, 1) := by decide +kernel
theorem dX8_repayTill_136 : decode cX8_repayTill 136 = .ok (.if_icmp .ge 8, 3) := by decide +kernel
theorem dX8_repayTill_139 : decode cX8_repayTill 139 = .ok (.aload_n 0, 1) := by decide +kernel
theorem dX8_repayTill_140 : decode cX8_repayTill 140 = .ok (.iload_n 1, 1) := by decide +kernel
theorem dX8_repayTill_141 : decode cX8_repayTill 141 = .ok (.invokevirtual 154, 3) := by decide +kernel
theorem dX8_repayTill_144 : decode cX8_repayTill 144 = .ok (.iinc 2 1, 3) := by decide +kernel
theorem dX8_repayTill_147 : decode cX8_repayTill 147 = .ok (.goto (-145), 3) := by decide +kernel
theorem dX8_repayTill_150 : decode cX8_repayTill 150 = .ok (.return_, 1) := by decide +kernel
theorem dX8_giveBack_0 : decode cX8_giveBack 0 = .ok (.iconst 0, 1) := by decide +kernel
theorem dX8_giveBack_1 : decode cX8_giveBack 1 = .ok (.istore_n 2, 1) := by decide +kernel
theorem dX8_giveBack_2 : decode cX8_giveBack 2 = .ok (.iload_n 2, 1) := by decide +kernel
theorem dX8_giveBack_3 : decode cX8_giveBack 3 = .ok (.aload_n 0, 1) := by decide +kernel
theorem dX8_giveBack_4 : decode cX8_giveBack 4 = .ok (.getfield 51, 3) := by decide +kernel
theorem dX8_giveBack_7 : decode cX8_giveBack 7 = .ok (.getfield 67, 3) := by decide +kernel
theorem dX8_giveBack_10 : decode cX8_giveBack 10 = .ok (.getfield 136, 3) := by decide +kernel
theorem dX8_giveBack_13 : decode cX8_giveBack 13 = .ok (.if_icmp .ge 77, 3) := by decide +kernel
theorem dX8_giveBack_16 : decode cX8_giveBack 16 = .ok (.aload_n 0, 1) := by decide +kernel
theorem dX8_giveBack_17 : decode cX8_giveBack 17 = .ok (.getfield 9, 3) := by decide +kernel
theorem dX8_giveBack_20 : decode cX8_giveBack 20 = .ok (.iload_n 2, 1) := by decide +kernel
theorem dX8_giveBack_21 : decode cX8_giveBack 21 = .ok (.iaload, 1) := by decide +kernel
theorem dX8_giveBack_22 : decode cX8_giveBack 22 = .ok (.istore_n 3, 1) := by decide +kernel
theorem dX8_giveBack_23 : decode cX8_giveBack 23 = .ok (.iload_n 3, 1) := by decide +kernel
theorem dX8_giveBack_24 : decode cX8_giveBack 24 = .ok (.iconst (-1), 1) := by decide +kernel
theorem dX8_giveBack_25 : decode cX8_giveBack 25 = .ok (.if_icmp .eq 59, 3) := by decide +kernel
theorem dX8_giveBack_28 : decode cX8_giveBack 28 = .ok (.aload_n 0, 1) := by decide +kernel
theorem dX8_giveBack_29 : decode cX8_giveBack 29 = .ok (.getfield 27, 3) := by decide +kernel
theorem dX8_giveBack_32 : decode cX8_giveBack 32 = .ok (.iload_n 2, 1) := by decide +kernel
theorem dX8_giveBack_33 : decode cX8_giveBack 33 = .ok (.aload_n 0, 1) := by decide +kernel
theorem dX8_giveBack_34 : decode cX8_giveBack 34 = .ok (.getfield 24, 3) := by decide +kernel
theorem dX8_giveBack_37 : decode cX8_giveBack 37 = .ok (.iload_n 2, 1) := by decide +kernel
theorem dX8_giveBack_38 : decode cX8_giveBack 38 = .ok (.iaload, 1) := by decide +kernel
theorem dX8_giveBack_39 : decode cX8_giveBack 39 = .ok (.aload_n 0, 1) := by decide +kernel
theorem dX8_giveBack_40 : decode cX8_giveBack 40 = .ok (.getfield 15, 3) := by decide +kernel
theorem dX8_giveBack_43 : decode cX8_giveBack 43 = .ok (.iload_n 3, 1) := by decide +kernel
theorem dX8_giveBack_44 : decode cX8_giveBack 44 = .ok (.iaload, 1) := by decide +kernel
theorem dX8_giveBack_45 : decode cX8_giveBack 45 = .ok (.invokestatic 143, 3) := by decide +kernel
theorem dX8_giveBack_48 : decode cX8_giveBack 48 = .ok (.iastore, 1) := by decide +kernel
theorem dX8_giveBack_49 : decode cX8_giveBack 49 = .ok (.aload_n 0, 1) := by decide +kernel
theorem dX8_giveBack_50 : decode cX8_giveBack 50 = .ok (.getfield 15, 3) := by decide +kernel
