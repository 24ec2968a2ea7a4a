theorem dX0_init_0 : decode cX0_init 0 = .ok (.aload_n 0, 1) := by decide +kernel
theorem dX0_init_1 : decode cX0_init 1 = .ok (.invokespecial 3, 3) := by decide +kernel
theorem dX0_init_4 : decode cX0_init 4 = .ok (.aload_n 0, 1) := by decide +kernel
theorem dX0_init_5 : decode cX0_init 5 = .ok (.new 9, 3) := by decide +kernel
theorem dX0_init_8 : decode cX0_init 8 = .ok (.dup, 1) := by decide +kernel
theorem dX0_init_9 : decode cX0_init 9 = .ok (.invokespecial 11, 3) := by decide +kernel
theorem dX0_init_12 : decode cX0_init 12 = .ok (.putfield 12, 3) := by decide +kernel
theorem dX0_init_15 : decode cX0_init 15 = .ok (.aload_n 0, 1) := by decide +kernel
theorem dX0_init_16 : decode cX0_init 16 = .ok (.new 9, 3) := by decide +kernel
theorem dX0_init_19 : decode cX0_init 19 = .ok (.dup, 1) := by decide +kernel
theorem dX0_init_20 : decode cX0_init 20 = .ok (.invokespecial 11, 3) := by decide +kernel
theorem dX0_init_23 : decode cX0_init 23 = .ok (.putfield 18, 3) := by decide +kernel
theorem dX0_init_26 : decode cX0_init 26 = .ok (.aload_n 0, 1) := by decide +kernel
theorem dX0_init_27 : decode cX0_init 27 = .ok (.new 9, 3) := by decide +kernel
theorem dX0_init_30 : decode cX0_init 30 = .ok (.dup, 1) := by decide +kernel
theorem dX0_init_31 : decode cX0_init 31 = .ok (.invokespecial 11, 3) := by decide +kernel
theorem dX0_init_34 : decode cX0_init 34 = .ok (.putfield 21, 3) := by decide +kernel
theorem dX0_init_37 : decode cX0_init 37 = .ok (.aload_n 0, 1) := by decide +kernel
theorem dX0_init_38 : decode cX0_init 38 = .ok (.bipush 6, 2) := by decide +kernel
theorem dX0_init_40 : decode cX0_init 40 = .ok (.newarray .int, 2) := by decide +kernel
theorem dX0_init_42 : decode cX0_init 42 = .ok (.putfield 24, 3) := by decide +kernel
theorem dX0_init_45 : decode cX0_init 45 = .ok (.aload_n 0, 1) := by decide +kernel
theorem dX0_init_46 : decode cX0_init 46 = .ok (.bipush 8, 2) := by decide +kernel
theorem dX0_init_48 : decode cX0_init 48 = .ok (.newarray .int, 2) := by decide +kernel
theorem dX0_init_50 : decode cX0_init 50 = .ok (.putfield 28, 3) := by decide +kernel
theorem dX0_init_53 : decode cX0_init 53 = .ok (.aload_n 0, 1) := by decide +kernel
theorem dX0_init_54 : decode cX0_init 54 = .ok (.aload_n 1, 1) := by decide +kernel
theorem dX0_init_55 : decode cX0_init 55 = .ok (.putfield 31, 3) := by decide +kernel
theorem dX0_init_58 : decode cX0_init 58 = .ok (.aload_n 0, 1) := by decide +kernel
theorem dX0_init_59 : decode cX0_init 59 = .ok (.aload_n 2, 1) := by decide +kernel
theorem dX0_init_60 : decode cX0_init 60 = .ok (.putfield 35, 3) := by decide +kernel
theorem dX0_init_63 : decode cX0_init 63 = .ok (.return_, 1) := by decide +kernel
theorem dX0_reckon_0 : decode cX0_reckon 0 = .ok (.aload_n 0, 1) := by decide +kernel
theorem dX0_reckon_1 : decode cX0_reckon 1 = .ok (.getfield 12, 3) := by decide +kernel
theorem dX0_reckon_4 : decode cX0_reckon 4 = .ok (.invokevirtual 39, 3) := by decide +kernel
theorem dX0_reckon_7 : decode cX0_reckon 7 = .ok (.iconst 0, 1) := by decide +kernel
theorem dX0_reckon_8 : decode cX0_reckon 8 = .ok (.istore_n 1, 1) := by decide +kernel
theorem dX0_reckon_9 : decode cX0_reckon 9 = .ok (.iload_n 1, 1) := by decide +kernel
theorem dX0_reckon_10 : decode cX0_reckon 10 = .ok (.aload_n 0, 1) := by decide +kernel
theorem dX0_reckon_11 : decode cX0_reckon 11 = .ok (.getfield 31, 3) := by decide +kernel
theorem dX0_reckon_14 : decode cX0_reckon 14 = .ok (.getfield 42, 3) := by decide +kernel
theorem dX0_reckon_17 : decode cX0_reckon 17 = .ok (.getfield 48, 3) := by decide +kernel
theorem dX0_reckon_20 : decode cX0_reckon 20 = .ok (.if_icmp .ge 59, 3) := by decide +kernel
theorem dX0_reckon_23 : decode cX0_reckon 23 = .ok (.aload_n 0, 1) := by decide +kernel
theorem dX0_reckon_24 : decode cX0_reckon 24 = .ok (.getfield 12, 3) := by decide +kernel
theorem dX0_reckon_27 : decode cX0_reckon 27 = .ok (.aload_n 0, 1) := by decide +kernel
theorem dX0_reckon_28 : decode cX0_reckon 28 = .ok (.getfield 31, 3) := by decide +kernel
theorem dX0_reckon_31 : decode cX0_reckon 31 = .ok (.getfield 42, 3) := by decide +kernel
theorem dX0_reckon_34 : decode cX0_reckon 34 = .ok (.iload_n 1, 1) := by decide +kernel
theorem dX0_reckon_35 : decode cX0_reckon 35 = .ok (.iconst 1, 1) := by decide +kernel
theorem dX0_reckon_36 : decode cX0_reckon 36 = .ok (.invokevirtual 54, 3) := by decide +kernel
theorem dX0_reckon_39 : decode cX0_reckon 39 = .ok (.aload_n 0, 1) := by decide +kernel
theorem dX0_reckon_40 : decode cX0_reckon 40 = .ok (.getfield 31, 3) := by decide +kernel
theorem dX0_reckon_43 : decode cX0_reckon 43 = .ok (.getfield 42, 3) := by decide +kernel
theorem dX0_reckon_46 : decode cX0_reckon 46 = .ok (.iload_n 1, 1) := by decide +kernel
theorem dX0_reckon_47 : decode cX0_reckon 47 = .ok (.iconst 0, 1) := by decide +kernel
theorem dX0_reckon_48 : decode cX0_reckon 48 = .ok (.invokevirtual 54, 3) := by decide +kernel
theorem dX0_reckon_51 : decode cX0_reckon 51 = .ok (.aload_n 0, 1) := by decide +kernel
theorem dX0_reckon_52 : decode cX0_reckon 52 = .ok (.getfield 35, 3) := by decide +kernel
theorem dX0_reckon_55 : decode cX0_reckon 55 = .ok (.getfield 58, 3) := by decide +kernel
theorem dX0_reckon_58 : decode cX0_reckon 58 = .ok (.iload_n 1, 1) := by decide +kernel
theorem dX0_reckon_59 : decode cX0_reckon 59 = .ok (.iaload, 1) := by decide +kernel
theorem dX0_reckon_60 : decode cX0_reckon 60 = .ok (.aload_n 0, 1) := by decide +kernel
theorem dX0_reckon_61 : decode cX0_reckon 61 = .ok (.getfield 35, 3) := by decide +kernel
theorem dX0_reckon_64 : decode cX0_reckon 64 = .ok (.getfield 63, 3) := by decide +kernel
theorem dX0_reckon_67 : decode cX0_reckon 67 = .ok (.iload_n 1, 1) := by decide +kernel
theorem dX0_reckon_68 : decode cX0_reckon 68 = .ok (.iaload, 1) := by decide +kernel
theorem dX0_reckon_69 : decode cX0_reckon 69 = .ok (.isub, 1) := by decide +kernel
theorem dX0_reckon_70 : decode cX0_reckon 70 = .ok (.invokevirtual 66, 3) := by decide +kernel
theorem dX0_reckon_73 : decode cX0_reckon 73 = .ok (.iinc 1 1, 3) := by decide +kernel
theorem dX0_reckon_76 : decode cX0_reckon 76 = .ok (.goto (-67), 3) := by decide +kernel
theorem dX0_reckon_79 : decode cX0_reckon 79 = .ok (.return_, 1) := by decide +kernel
theorem dX0_clearRings_0 : decode cX0_clearRings 0 = .ok (.aload_n 0, 1) := by decide +kernel
theorem dX0_clearRings_1 : decode cX0_clearRings 1 = .ok (.getfield 18, 3) := by decide +kernel
theorem dX0_clearRings_4 : decode cX0_clearRings 4 = .ok (.aload_n 0, 1) := by decide +kernel
theorem dX0_clearRings_5 : decode cX0_clearRings 5 = .ok (.getfield 12, 3) := by decide +kernel
theorem dX0_clearRings_8 : decode cX0_clearRings 8 = .ok (.invokevirtual 70, 3) := by decide +kernel
theorem dX0_clearRings_11 : decode cX0_clearRings 11 = .ok (.aload_n 0, 1) := by decide +kernel
theorem dX0_clearRings_12 : decode cX0_clearRings 12 = .ok (.iconst 0, 1) := by decide +kernel
theorem dX0_clearRings_13 : decode cX0_clearRings 13 = .ok (.putfield 74, 3) := by decide +kernel
theorem dX0_clearRings_16 : decode cX0_clearRings 16 = .ok (.aload_n 0, 1) := by decide +kernel
theorem dX0_clearRings_17 : decode cX0_clearRings 17 = .ok (.iconst 0, 1) := by decide +kernel
theorem dX0_clearRings_18 : decode cX0_clearRings 18 = .ok (.putfield 77, 3) := by decide +kernel
theorem dX0_clearRings_21 : decode cX0_clearRings 21 = .ok (.iconst 0, 1) := by decide +kernel
theorem dX0_clearRings_22 : decode cX0_clearRings 22 = .ok (.istore_n 1, 1) := by decide +kernel
theorem dX0_clearRings_23 : decode cX0_clearRings 23 = .ok (.iload_n 1, 1) := by decide +kernel
theorem dX0_clearRings_24 : decode cX0_clearRings 24 = .ok (.bipush 8, 2) := by decide +kernel
theorem dX0_clearRings_26 : decode cX0_clearRings 26 = .ok (.if_icmp .ge 37, 3) := by decide +kernel
theorem dX0_clearRings_29 : decode cX0_clearRings 29 = .ok (.aload_n 0, 1) := by decide +kernel
theorem dX0_clearRings_30 : decode cX0_clearRings 30 = .ok (.invokevirtual 80, 3) := by decide +kernel
theorem dX0_clearRings_33 : decode cX0_clearRings 33 = .ok (.istore_n 2, 1) := by decide +kernel
theorem dX0_clearRings_34 : decode cX0_clearRings 34 = .ok (.iload_n 2, 1) := by decide +kernel
theorem dX0_clearRings_35 : decode cX0_clearRings 35 = .ok (.ifCond .ne 4, 3) := by decide +kernel
theorem dX0_clearRings_38 : decode cX0_clearRings 38 = .ok (.return_, 1) := by decide +kernel
theorem dX0_clearRings_39 : decode cX0_clearRings 39 = .ok (.aload_n 0, 1) := by decide +kernel
theorem dX0_clearRings_40 : decode cX0_clearRings 40 = .ok (.getfield 28, 3) := by decide +kernel
theorem dX0_clearRings_43 : decode cX0_clearRings 43 = .ok (.iload_n 1, 1) := by decide +kernel
theorem dX0_clearRings_44 : decode cX0_clearRings 44 = .ok (.aload_n 0, 1) := by decide +kernel
theorem dX0_clearRings_45 : decode cX0_clearRings 45 = .ok (.iload_n 2, 1) := by decide +kernel
theorem dX0_clearRings_46 : decode cX0_clearRings 46 = .ok (.invokevirtual 84, 3) := by decide +kernel
theorem dX0_clearRings_49 : decode cX0_clearRings 49 = .ok (.iastore, 1) := by decide +kernel
theorem dX0_clearRings_50 : decode cX0_clearRings 50 = .ok (.aload_n 0, 1) := by decide +kernel
theorem dX0_clearRings_51 : decode cX0_clearRings 51 = .ok (.iload_n 1, 1) := by decide +kernel
theorem dX0_clearRings_52 : decode cX0_clearRings 52 = .ok (.iconst 1, 1) := by decide +kernel
theorem dX0_clearRings_53 : decode cX0_clearRings 53 = .ok (.iadd, 1) := by decide +kernel
theorem dX0_clearRings_54 : decode cX0_clearRings 54 = .ok (.putfield 74, 3) := by decide +kernel
theorem dX0_clearRings_57 : decode cX0_clearRings 57 = .ok (.iinc 1 1, 3) := by decide +kernel
theorem dX0_clearRings_60 : decode cX0_clearRings 60 = .ok (.goto (-37), 3) := by decide +kernel
theorem dX0_clearRings_63 : decode cX0_clearRings 63 = .ok (.return_, 1) := by decide +kernel
theorem dX0_bitsOf_0 : decode cX0_bitsOf 0 = .ok (.iload_n 1, 1) := by decide +kernel
theorem dX0_bitsOf_1 : decode cX0_bitsOf 1 = .ok (.ifCond .lt 25, 3) := by decide +kernel
theorem dX0_bitsOf_4 : decode cX0_bitsOf 4 = .ok (.iload_n 1, 1) := by decide +kernel
theorem dX0_bitsOf_5 : decode cX0_bitsOf 5 = .ok (.aload_n 0, 1) := by decide +kernel
theorem dX0_bitsOf_6 : decode cX0_bitsOf 6 = .ok (.getfield 74, 3) := by decide +kernel
theorem dX0_bitsOf_9 : decode cX0_bitsOf 9 = .ok (.bipush 8, 2) := by decide +kernel
theorem dX0_bitsOf_11 : decode cX0_bitsOf 11 = .ok (.invokestatic 88, 3) := by decide +kernel
theorem dX0_bitsOf_14 : decode cX0_bitsOf 14 = .ok (.if_icmp .ge 12, 3) := by decide +kernel
theorem dX0_bitsOf_17 : decode cX0_bitsOf 17 = .ok (.aload_n 0, 1) := by decide +kernel
theorem dX0_bitsOf_18 : decode cX0_bitsOf 18 = .ok (.getfield 28, 3) := by decide +kernel
theorem dX0_bitsOf_21 : decode cX0_bitsOf 21 = .ok (.iload_n 1, 1) := by decide +kernel
theorem dX0_bitsOf_22 : decode cX0_bitsOf 22 = .ok (.iaload, 1) := by decide +kernel
theorem dX0_bitsOf_23 : decode cX0_bitsOf 23 = .ok (.goto 4, 3) := by decide +kernel
theorem dX0_bitsOf_26 : decode cX0_bitsOf 26 = .ok (.iconst (-1), 1) := by decide +kernel
theorem dX0_bitsOf_27 : decode cX0_bitsOf 27 = .ok (.ireturn, 1) := by decide +kernel
theorem dX0_findRing_0 : decode cX0_findRing 0 = .ok (.aload_n 0, 1) := by decide +kernel
theorem dX0_findRing_1 : decode cX0_findRing 1 = .ok (.getfield 31, 3) := by decide +kernel
theorem dX0_findRing_4 : decode cX0_findRing 4 = .ok (.getfield 93, 3) := by decide +kernel
theorem dX0_findRing_7 : decode cX0_findRing 7 = .ok (.getfield 48, 3) := by decide +kernel
theorem dX0_findRing_10 : decode cX0_findRing 10 = .ok (.istore_n 1, 1) := by decide +kernel
theorem dX0_findRing_11 : decode cX0_findRing 11 = .ok (.iconst 2, 1) := by decide +kernel
theorem dX0_findRing_12 : decode cX0_findRing 12 = .ok (.istore_n 2, 1) := by decide +kernel
theorem dX0_findRing_13 : decode cX0_findRing 13 = .ok (.iload_n 2, 1) := by decide +kernel
theorem dX0_findRing_14 : decode cX0_findRing 14 = .ok (.iload_n 1, 1) := by decide +kernel
theorem dX0_findRing_15 : decode cX0_findRing 15 = .ok (.if_icmp .gt 48, 3) := by decide +kernel
theorem dX0_findRing_18 : decode cX0_findRing 18 = .ok (.iconst 0, 1) := by decide +kernel
theorem dX0_findRing_19 : decode cX0_findRing 19 = .ok (.istore_n 3, 1) := by decide +kernel
theorem dX0_findRing_20 : decode cX0_findRing 20 = .ok (.iload_n 3, 1) := by decide +kernel
theorem dX0_findRing_21 : decode cX0_findRing 21 = .ok (.iload_n 1, 1) := by decide +kernel
theorem dX0_findRing_22 : decode cX0_findRing 22 = .ok (.if_icmp .ge 35, 3) := by decide +kernel
theorem dX0_findRing_25 : decode cX0_findRing 25 = .ok (.aload_n 0, 1) := by decide +kernel
theorem dX0_findRing_26 : decode cX0_findRing 26 = .ok (.getfield 24, 3) := by decide +kernel
theorem dX0_findRing_29 : decode cX0_findRing 29 = .ok (.iconst 0, 1) := by decide +kernel
theorem dX0_findRing_30 : decode cX0_findRing 30 = .ok (.iload_n 3, 1) := by decide +kernel
theorem dX0_findRing_31 : decode cX0_findRing 31 = .ok (.iastore, 1) := by decide +kernel
theorem dX0_findRing_32 : decode cX0_findRing 32 = .ok (.aload_n 0, 1) := by decide +kernel
theorem dX0_findRing_33 : decode cX0_findRing 33 = .ok (.getfield 18, 3) := by decide +kernel
theorem dX0_findRing_36 : decode cX0_findRing 36 = .ok (.aload_n 0, 1) := by decide +kernel
theorem dX0_findRing_37 : decode cX0_findRing 37 = .ok (.getfield 24, 3) := by decide +kernel
theorem dX0_findRing_40 : decode cX0_findRing 40 = .ok (.iconst 1, 1) := by decide +kernel
theorem dX0_findRing_41 : decode cX0_findRing 41 = .ok (.iload_n 2, 1) := by decide +kernel
theorem dX0_findRing_42 : decode cX0_findRing 42 = .ok (.iload_n 1, 1) := by decide +kernel
theorem dX0_findRing_43 : decode cX0_findRing 43 = .ok (.invokestatic 96, 3) := by decide +kernel
theorem dX0_findRing_46 : decode cX0_findRing 46 = .ok (.ifCond .eq 5, 3) := by decide +kernel
theorem dX0_findRing_49 : decode cX0_findRing 49 = .ok (.iload_n 2, 1) := by decide +kernel
theorem dX0_findRing_50 : decode cX0_findRing 50 = .ok (.ireturn, 1) := by decide +kernel
theorem dX0_findRing_51 : decode cX0_findRing 51 = .ok (.iinc 3 1, 3) := by decide +kernel
theorem dX0_findRing_54 : decode cX0_findRing 54 = .ok (.goto (-34), 3) := by decide +kernel
theorem dX0_findRing_57 : decode cX0_findRing 57 = .ok (.iinc 2 1, 3) := by decide +kernel
theorem dX0_findRing_60 : decode cX0_findRing 60 = .ok (.goto (-47), 3) := by decide +kernel
theorem dX0_findRing_63 : decode cX0_findRing 63 = .ok (.iconst 0, 1) := by decide +kernel
theorem dX0_findRing_64 : decode cX0_findRing 64 = .ok (.ireturn, 1) := by decide +kernel
theorem dX0_closes_0 : decode cX0_closes 0 = .ok (.iload_n 2, 1) := by decide +kernel
theorem dX0_closes_1 : decode cX0_closes 1 = .ok (.iconst 1, 1) := by decide +kernel
theorem dX0_closes_2 : decode cX0_closes 2 = .ok (.if_icmp .lt 9, 3) := by decide +kernel
theorem dX0_closes_5 : decode cX0_closes 5 = .ok (.iload_n 2, 1) := by decide +kernel
theorem dX0_closes_6 : decode cX0_closes 6 = .ok (.aload_n 1, 1) := by decide +kernel
theorem dX0_closes_7 : decode cX0_closes 7 = .ok (.arraylength, 1) := by decide +kernel
theorem dX0_closes_8 : decode cX0_closes 8 = .ok (.if_icmp .le 5, 3) := by decide +kernel
theorem dX0_closes_11 : decode cX0_closes 11 = .ok (.iconst 0, 1) := by decide +kernel
theorem dX0_closes_12 : decode cX0_closes 12 = .ok (.ireturn, 1) := by decide +kernel
theorem dX0_closes_13 : decode cX0_closes 13 = .ok (.aload_n 1, 1) := by decide +kernel
theorem dX0_closes_14 : decode cX0_closes 14 = .ok (.iload_n 2, 1) := by decide +kernel
theorem dX0_closes_15 : decode cX0_closes 15 = .ok (.iconst 1, 1) := by decide +kernel
theorem dX0_closes_16 : decode cX0_closes 16 = .ok (.isub, 1) := by decide +kernel
theorem dX0_closes_17 : decode cX0_closes 17 = .ok (.iaload, 1) := by decide +kernel
theorem dX0_closes_18 : decode cX0_closes 18 = .ok (.istore 5, 2) := by decide +kernel
theorem dX0_closes_20 : decode cX0_closes 20 = .ok (.iload_n 2, 1) := by decide +kernel
theorem dX0_closes_21 : decode cX0_closes 21 = .ok (.iload_n 3, 1) := by decide +kernel
theorem dX0_closes_22 : decode cX0_closes 22 = .ok (.if_icmp .lt 21, 3) := by decide +kernel
theorem dX0_closes_25 : decode cX0_closes 25 = .ok (.aload_n 0, 1) := by decide +kernel
theorem dX0_closes_26 : decode cX0_closes 26 = .ok (.iload 5, 2) := by decide +kernel
theorem dX0_closes_28 : decode cX0_closes 28 = .ok (.aload_n 1, 1) := by decide +kernel
theorem dX0_closes_29 : decode cX0_closes 29 = .ok (.iconst 0, 1) := by decide +kernel
theorem dX0_closes_30 : decode cX0_closes 30 = .ok (.iaload, 1) := by decide +kernel
theorem dX0_closes_31 : decode cX0_closes 31 = .ok (.invokevirtual 100, 3) := by decide +kernel
theorem dX0_closes_34 : decode cX0_closes 34 = .ok (.ifCond .le 7, 3) := by decide +kernel
theorem dX0_closes_37 : decode cX0_closes 37 = .ok (.iconst 1, 1) := by decide +kernel
theorem dX0_closes_38 : decode cX0_closes 38 = .ok (.goto 4, 3) := by decide +kernel
theorem dX0_closes_41 : decode cX0_closes 41 = .ok (.iconst 0, 1) := by decide +kernel
theorem dX0_closes_42 : decode cX0_closes 42 = .ok (.ireturn, 1) := by decide +kernel
theorem dX0_closes_43 : decode cX0_closes 43 = .ok (.aload_n 1, 1) := by decide +kernel
theorem dX0_closes_44 : decode cX0_closes 44 = .ok (.iconst 0, 1) := by decide +kernel
theorem dX0_closes_45 : decode cX0_closes 45 = .ok (.iaload, 1) := by decide +kernel
theorem dX0_closes_46 : decode cX0_closes 46 = .ok (.iconst 1, 1) := by decide +kernel
theorem dX0_closes_47 : decode cX0_closes 47 = .ok (.iadd, 1) := by decide +kernel
theorem dX0_closes_48 : decode cX0_closes 48 = .ok (.istore 6, 2) := by decide +kernel
theorem dX0_closes_50 : decode cX0_closes 50 = .ok (.iload 6, 2) := by decide +kernel
theorem dX0_closes_52 : decode cX0_closes 52 = .ok (.iload 4, 2) := by decide +kernel
theorem dX0_closes_54 : decode cX0_closes 54 = .ok (.if_icmp .ge 57, 3) := by decide +kernel
theorem dX0_closes_57 : decode cX0_closes 57 = .ok (.iload_n 2, 1) := by decide +kernel
theorem dX0_closes_58 : decode cX0_closes 58 = .ok (.aload_n 1, 1) := by decide +kernel
theorem dX0_closes_59 : decode cX0_closes 59 = .ok (.arraylength, 1) := by decide +kernel
theorem dX0_closes_60 : decode cX0_closes 60 = .ok (.if_icmp .ge 51, 3) := by decide +kernel
theorem dX0_closes_63 : decode cX0_closes 63 = .ok (.aload_n 0, 1) := by decide +kernel
theorem dX0_closes_64 : decode cX0_closes 64 = .ok (.iload 5, 2) := by decide +kernel
theorem dX0_closes_66 : decode cX0_closes 66 = .ok (.iload 6, 2) := by decide +kernel
theorem dX0_closes_68 : decode cX0_closes 68 = .ok (.invokevirtual 100, 3) := by decide +kernel
theorem dX0_closes_71 : decode cX0_closes 71 = .ok (.ifCond .le 34, 3) := by decide +kernel
theorem dX0_closes_74 : decode cX0_closes 74 = .ok (.aload_n 1, 1) := by decide +kernel
theorem dX0_closes_75 : decode cX0_closes 75 = .ok (.iload_n 2, 1) := by decide +kernel
theorem dX0_closes_76 : decode cX0_closes 76 = .ok (.iload 6, 2) := by decide +kernel
theorem dX0_closes_78 : decode cX0_closes 78 = .ok (.invokestatic 101, 3) := by decide +kernel
theorem dX0_closes_81 : decode cX0_closes 81 = .ok (.ifCond .ne 24, 3) := by decide +kernel
theorem dX0_closes_84 : decode cX0_closes 84 = .ok (.aload_n 1, 1) := by decide +kernel
theorem dX0_closes_85 : decode cX0_closes 85 = .ok (.iload_n 2, 1) := by decide +kernel
theorem dX0_closes_86 : decode cX0_closes 86 = .ok (.iload 6, 2) := by decide +kernel
theorem dX0_closes_88 : decode cX0_closes 88 = .ok (.iastore, 1) := by decide +kernel
theorem dX0_closes_89 : decode cX0_closes 89 = .ok (.aload_n 0, 1) := by decide +kernel
theorem dX0_closes_90 : decode cX0_closes 90 = .ok (.aload_n 1, 1) := by decide +kernel
theorem dX0_closes_91 : decode cX0_closes 91 = .ok (.iload_n 2, 1) := by decide +kernel
theorem dX0_closes_92 : decode cX0_closes 92 = .ok (.iconst 1, 1) := by decide +kernel
theorem dX0_closes_93 : decode cX0_closes 93 = .ok (.iadd, 1) := by decide +kernel
theorem dX0_closes_94 : decode cX0_closes 94 = .ok (.iload_n 3, 1) := by decide +kernel
theorem dX0_closes_95 : decode cX0_closes 95 = .ok (.iload 4, 2) := by decide +kernel
theorem dX0_closes_97 : decode cX0_closes 97 = .ok (.invokestatic 96, 3) := by decide +kernel
theorem dX0_closes_100 : decode cX0_closes 100 = .ok (.ifCond .eq 5, 3) := by decide +kernel
theorem dX0_closes_103 : decode cX0_closes 103 = .ok (.iconst 1, 1) := by decide +kernel
theorem dX0_closes_104 : decode cX0_closes 104 = .ok (.ireturn, 1) := by decide +kernel
theorem dX0_closes_105 : decode cX0_closes 105 = .ok (.iinc 6 1, 3) := by decide +kernel
theorem dX0_closes_108 : decode cX0_closes 108 = .ok (.goto (-58), 3) := by decide +kernel
theorem dX0_closes_111 : decode cX0_closes 111 = .ok (.iconst 0, 1) := by decide +kernel
theorem dX0_closes_112 : decode cX0_closes 112 = .ok (.ireturn, 1) := by decide +kernel
theorem dX0_holds_0 : decode cX0_holds 0 = .ok (.iconst 0, 1) := by decide +kernel
theorem dX0_holds_1 : decode cX0_holds 1 = .ok (.istore_n 3, 1) := by decide +kernel
theorem dX0_holds_2 : decode cX0_holds 2 = .ok (.iload_n 3, 1) := by decide +kernel
theorem dX0_holds_3 : decode cX0_holds 3 = .ok (.iload_n 1, 1) := by decide +kernel
theorem dX0_holds_4 : decode cX0_holds 4 = .ok (.if_icmp .ge 24, 3) := by decide +kernel
theorem dX0_holds_7 : decode cX0_holds 7 = .ok (.iload_n 3, 1) := by decide +kernel
theorem dX0_holds_8 : decode cX0_holds 8 = .ok (.aload_n 0, 1) := by decide +kernel
theorem dX0_holds_9 : decode cX0_holds 9 = .ok (.arraylength, 1) := by decide +kernel
theorem dX0_holds_10 : decode cX0_holds 10 = .ok (.if_icmp .ge 18, 3) := by decide +kernel
theorem dX0_holds_13 : decode cX0_holds 13 = .ok (.aload_n 0, 1) := by decide +kernel
theorem dX0_holds_14 : decode cX0_holds 14 = .ok (.iload_n 3, 1) := by decide +kernel
theorem dX0_holds_15 : decode cX0_holds 15 = .ok (.iaload, 1) := by decide +kernel
theorem dX0_holds_16 : decode cX0_holds 16 = .ok (.iload_n 2, 1) := by decide +kernel
theorem dX0_holds_17 : decode cX0_holds 17 = .ok (.if_icmp .ne 5, 3) := by decide +kernel
theorem dX0_holds_20 : decode cX0_holds 20 = .ok (.iconst 1, 1) := by decide +kernel
theorem dX0_holds_21 : decode cX0_holds 21 = .ok (.ireturn, 1) := by decide +kernel
theorem dX0_holds_22 : decode cX0_holds 22 = .ok (.iinc 3 1, 3) := by decide +kernel
theorem dX0_holds_25 : decode cX0_holds 25 = .ok (.goto (-23), 3) := by decide +kernel
theorem dX0_holds_28 : decode cX0_holds 28 = .ok (.iconst 0, 1) := by decide +kernel
theorem dX0_holds_29 : decode cX0_holds 29 = .ok (.ireturn, 1) := by decide +kernel
theorem dX0_clearRound_0 : decode cX0_clearRound 0 = .ok (.aload_n 0, 1) := by decide +kernel
theorem dX0_clearRound_1 : decode cX0_clearRound 1 = .ok (.getfield 18, 3) := by decide +kernel
theorem dX0_clearRound_4 : decode cX0_clearRound 4 = .ok (.aload_n 0, 1) := by decide +kernel
theorem dX0_clearRound_5 : decode cX0_clearRound 5 = .ok (.iload_n 1, 1) := by decide +kernel
theorem dX0_clearRound_6 : decode cX0_clearRound 6 = .ok (.iconst 1, 1) := by decide +kernel
theorem dX0_clearRound_7 : decode cX0_clearRound 7 = .ok (.isub, 1) := by decide +kernel
theorem dX0_clearRound_8 : decode cX0_clearRound 8 = .ok (.invokevirtual 105, 3) := by decide +kernel
theorem dX0_clearRound_11 : decode cX0_clearRound 11 = .ok (.aload_n 0, 1) := by decide +kernel
theorem dX0_clearRound_12 : decode cX0_clearRound 12 = .ok (.iconst 0, 1) := by decide +kernel
theorem dX0_clearRound_13 : decode cX0_clearRound 13 = .ok (.invokevirtual 105, 3) := by decide +kernel
theorem dX0_clearRound_16 : decode cX0_clearRound 16 = .ok (.invokevirtual 100, 3) := by decide +kernel
theorem dX0_clearRound_19 : decode cX0_clearRound 19 = .ok (.istore_n 2, 1) := by decide +kernel
theorem dX0_clearRound_20 : decode cX0_clearRound 20 = .ok (.iconst 1, 1) := by decide +kernel
theorem dX0_clearRound_21 : decode cX0_clearRound 21 = .ok (.istore_n 3, 1) := by decide +kernel
theorem dX0_clearRound_22 : decode cX0_clearRound 22 = .ok (.iload_n 3, 1) := by decide +kernel
theorem dX0_clearRound_23 : decode cX0_clearRound 23 = .ok (.iload_n 1, 1) := by decide +kernel
theorem dX0_clearRound_24 : decode cX0_clearRound 24 = .ok (.if_icmp .ge 33, 3) := by decide +kernel
theorem dX0_clearRound_27 : decode cX0_clearRound 27 = .ok (.iload_n 2, 1) := by decide +kernel
theorem dX0_clearRound_28 : decode cX0_clearRound 28 = .ok (.aload_n 0, 1) := by decide +kernel
theorem dX0_clearRound_29 : decode cX0_clearRound 29 = .ok (.getfield 18, 3) := by decide +kernel
theorem dX0_clearRound_32 : decode cX0_clearRound 32 = .ok (.aload_n 0, 1) := by decide +kernel
theorem dX0_clearRound_33 : decode cX0_clearRound 33 = .ok (.iload_n 3, 1) := by decide +kernel
theorem dX0_clearRound_34 : decode cX0_clearRound 34 = .ok (.iconst 1, 1) := by decide +kernel
theorem dX0_clearRound_35 : decode cX0_clearRound 35 = .ok (.isub, 1) := by decide +kernel
theorem dX0_clearRound_36 : decode cX0_clearRound 36 = .ok (.invokevirtual 105, 3) := by decide +kernel
theorem dX0_clearRound_39 : decode cX0_clearRound 39 = .ok (.aload_n 0, 1) := by decide +kernel
theorem dX0_clearRound_40 : decode cX0_clearRound 40 = .ok (.iload_n 3, 1) := by decide +kernel
theorem dX0_clearRound_41 : decode cX0_clearRound 41 = .ok (.invokevirtual 105, 3) := by decide +kernel
theorem dX0_clearRound_44 : decode cX0_clearRound 44 = .ok (.invokevirtual 100, 3) := by decide +kernel
theorem dX0_clearRound_47 : decode cX0_clearRound 47 = .ok (.invokestatic 88, 3) := by decide +kernel
theorem dX0_clearRound_50 : decode cX0_clearRound 50 = .ok (.istore_n 2, 1) := by decide +kernel
theorem dX0_clearRound_51 : decode cX0_clearRound 51 = .ok (.iinc 3 1, 3) := by decide +kernel
theorem dX0_clearRound_54 : decode cX0_clearRound 54 = .ok (.goto (-32), 3) := by decide +kernel
theorem dX0_clearRound_57 : decode cX0_clearRound 57 = .ok (.iconst 0, 1) := by decide +kernel
theorem dX0_clearRound_58 : decode cX0_clearRound 58 = .ok (.istore_n 3, 1) := by decide +kernel
theorem dX0_clearRound_59 : decode cX0_clearRound 59 = .ok (.iconst 0, 1) := by decide +kernel
theorem dX0_clearRound_60 : decode cX0_clearRound 60 = .ok (.istore 4, 2) := by decide +kernel
theorem dX0_clearRound_62 : decode cX0_clearRound 62 = .ok (.iload 4, 2) := by decide +kernel
theorem dX0_clearRound_64 : decode cX0_clearRound 64 = .ok (.iload_n 1, 1) := by decide +kernel
theorem dX0_clearRound_65 : decode cX0_clearRound 65 = .ok (.if_icmp .ge 59, 3) := by decide +kernel
theorem dX0_clearRound_68 : decode cX0_clearRound 68 = .ok (.iload 4, 2) := by decide +kernel
theorem dX0_clearRound_70 : decode cX0_clearRound 70 = .ok (.iconst 1, 1) := by decide +kernel
theorem dX0_clearRound_71 : decode cX0_clearRound 71 = .ok (.iadd, 1) := by decide +kernel
theorem dX0_clearRound_72 : decode cX0_clearRound 72 = .ok (.iload_n 1, 1) := by decide +kernel
theorem dX0_clearRound_73 : decode cX0_clearRound 73 = .ok (.if_icmp .ge 10, 3) := by decide +kernel
theorem dX0_clearRound_76 : decode cX0_clearRound 76 = .ok (.iload 4, 2) := by decide +kernel
theorem dX0_clearRound_78 : decode cX0_clearRound 78 = .ok (.iconst 1, 1) := by decide +kernel
theorem dX0_clearRound_79 : decode cX0_clearRound 79 = .ok (.iadd, 1) := by decide +kernel
theorem dX0_clearRound_80 : decode cX0_clearRound 80 = .ok (.goto 4, 3) := by decide +kernel
theorem dX0_clearRound_83 : decode cX0_clearRound 83 = .ok (.iconst 0, 1) := by decide +kernel
theorem dX0_clearRound_84 : decode cX0_clearRound 84 = .ok (.istore 5, 2) := by decide +kernel
theorem dX0_clearRound_86 : decode cX0_clearRound 86 = .ok (.aload_n 0, 1) := by decide +kernel
theorem dX0_clearRound_87 : decode cX0_clearRound 87 = .ok (.getfield 18, 3) := by decide +kernel
theorem dX0_clearRound_90 : decode cX0_clearRound 90 = .ok (.aload_n 0, 1) := by decide +kernel
theorem dX0_clearRound_91 : decode cX0_clearRound 91 = .ok (.iload 4, 2) := by decide +kernel
theorem dX0_clearRound_93 : decode cX0_clearRound 93 = .ok (.invokevirtual 105, 3) := by decide +kernel
theorem dX0_clearRound_96 : decode cX0_clearRound 96 = .ok (.aload_n 0, 1) := by decide +kernel
theorem dX0_clearRound_97 : decode cX0_clearRound 97 = .ok (.iload 5, 2) := by decide +kernel
theorem dX0_clearRound_99 : decode cX0_clearRound 99 = .ok (.invokevirtual 105, 3) := by decide +kernel
theorem dX0_clearRound_102 : decode cX0_clearRound 102 = .ok (.iload_n 2, 1) := by decide +kernel
theorem dX0_clearRound_103 : decode cX0_clearRound 103 = .ok (.ineg, 1) := by decide +kernel
theorem dX0_clearRound_104 : decode cX0_clearRound 104 = .ok (.invokevirtual 66, 3) := by decide +kernel
theorem dX0_clearRound_107 : decode cX0_clearRound 107 = .ok (.iload_n 3, 1) := by decide +kernel
theorem dX0_clearRound_108 : decode cX0_clearRound 108 = .ok (.iconst 1, 1) := by decide +kernel
theorem dX0_clearRound_109 : decode cX0_clearRound 109 = .ok (.aload_n 0, 1) := by decide +kernel
theorem dX0_clearRound_110 : decode cX0_clearRound 110 = .ok (.iload 4, 2) := by decide +kernel
theorem dX0_clearRound_112 : decode cX0_clearRound 112 = .ok (.invokevirtual 105, 3) := by decide +kernel
theorem dX0_clearRound_115 : decode cX0_clearRound 115 = .ok (.ishl, 1) := by decide +kernel
theorem dX0_clearRound_116 : decode cX0_clearRound 116 = .ok (.ior, 1) := by decide +kernel
theorem dX0_clearRound_117 : decode cX0_clearRound 117 = .ok (.istore_n 3, 1) := by decide +kernel
theorem dX0_clearRound_118 : decode cX0_clearRound 118 = .ok (.iinc 4 1, 3) := by decide +kernel
theorem dX0_clearRound_121 : decode cX0_clearRound 121 = .ok (.goto (-59), 3) := by decide +kernel
theorem dX0_clearRound_124 : decode cX0_clearRound 124 = .ok (.aload_n 0, 1) := by decide +kernel
theorem dX0_clearRound_125 : decode cX0_clearRound 125 = .ok (.dup, 1) := by decide +kernel
theorem dX0_clearRound_126 : decode cX0_clearRound 126 = .ok (.getfield 77, 3) := by decide +kernel
theorem dX0_clearRound_129 : decode cX0_clearRound 129 = .ok (.iload_n 2, 1) := by decide +kernel
theorem dX0_clearRound_130 : decode cX0_clearRound 130 = .ok (.iload_n 1, 1) := by decide +kernel
theorem dX0_clearRound_131 : decode cX0_clearRound 131 = .ok (.imul, 1) := by decide +kernel
theorem dX0_clearRound_132 : decode cX0_clearRound 132 = .ok (.iadd, 1) := by decide +kernel
theorem dX0_clearRound_133 : decode cX0_clearRound 133 = .ok (.putfield 77, 3) := by decide +kernel
theorem dX0_clearRound_136 : decode cX0_clearRound 136 = .ok (.iload_n 3, 1) := by decide +kernel
theorem dX0_clearRound_137 : decode cX0_clearRound 137 = .ok (.ireturn, 1) := by decide +kernel
theorem dX0_inRound_0 : decode cX0_inRound 0 = .ok (.iload_n 1, 1) := by decide +kernel
theorem dX0_inRound_1 : decode cX0_inRound 1 = .ok (.ifCond .lt 18, 3) := by decide +kernel
theorem dX0_inRound_4 : decode cX0_inRound 4 = .ok (.iload_n 1, 1) := by decide +kernel
theorem dX0_inRound_5 : decode cX0_inRound 5 = .ok (.bipush 6, 2) := by decide +kernel
theorem dX0_inRound_7 : decode cX0_inRound 7 = .ok (.if_icmp .ge 12, 3) := by decide +kernel
theorem dX0_inRound_10 : decode cX0_inRound 10 = .ok (.aload_n 0, 1) := by decide +kernel
theorem dX0_inRound_11 : decode cX0_inRound 11 = .ok (.getfield 24, 3) := by decide +kernel
theorem dX0_inRound_14 : decode cX0_inRound 14 = .ok (.iload_n 1, 1) := by decide +kernel
theorem dX0_inRound_15 : decode cX0_inRound 15 = .ok (.iaload, 1) := by decide +kernel
theorem dX0_inRound_16 : decode cX0_inRound 16 = .ok (.goto 4, 3) := by decide +kernel
theorem dX0_inRound_19 : decode cX0_inRound 19 = .ok (.iconst 0, 1) := by decide +kernel
theorem dX0_inRound_20 : decode cX0_inRound 20 = .ok (.ireturn, 1) := by decide +kernel
theorem dX0_strike_0 : decode cX0_strike 0 = .ok (.aload_n 0, 1) := by decide +kernel
theorem dX0_strike_1 : decode cX0_strike 1 = .ok (.getfield 21, 3) := by decide +kernel
theorem dX0_strike_4 : decode cX0_strike 4 = .ok (.invokevirtual 39, 3) := by decide +kernel
theorem dX0_strike_7 : decode cX0_strike 7 = .ok (.iconst 0, 1) := by decide +kernel
theorem dX0_strike_8 : decode cX0_strike 8 = .ok (.istore_n 2, 1) := by decide +kernel
theorem dX0_strike_9 : decode cX0_strike 9 = .ok (.iload_n 2, 1) := by decide +kernel
theorem dX0_strike_10 : decode cX0_strike 10 = .ok (.aload_n 0, 1) := by decide +kernel
theorem dX0_strike_11 : decode cX0_strike 11 = .ok (.getfield 31, 3) := by decide +kernel
theorem dX0_strike_14 : decode cX0_strike 14 = .ok (.getfield 93, 3) := by decide +kernel
theorem dX0_strike_17 : decode cX0_strike 17 = .ok (.getfield 48, 3) := by decide +kernel
theorem dX0_strike_20 : decode cX0_strike 20 = .ok (.if_icmp .ge 28, 3) := by decide +kernel
theorem dX0_strike_23 : decode cX0_strike 23 = .ok (.iload_n 1, 1) := by decide +kernel
theorem dX0_strike_24 : decode cX0_strike 24 = .ok (.iconst 2, 1) := by decide +kernel
theorem dX0_strike_25 : decode cX0_strike 25 = .ok (.if_icmp .ne 11, 3) := by decide +kernel
theorem dX0_strike_28 : decode cX0_strike 28 = .ok (.aload_n 0, 1) := by decide +kernel
theorem dX0_strike_29 : decode cX0_strike 29 = .ok (.iload_n 2, 1) := by decide +kernel
theorem dX0_strike_30 : decode cX0_strike 30 = .ok (.invokevirtual 108, 3) := by decide +kernel
theorem dX0_strike_33 : decode cX0_strike 33 = .ok (.goto 9, 3) := by decide +kernel
theorem dX0_strike_36 : decode cX0_strike 36 = .ok (.aload_n 0, 1) := by decide +kernel
theorem dX0_strike_37 : decode cX0_strike 37 = .ok (.iload_n 2, 1) := by decide +kernel
theorem dX0_strike_38 : decode cX0_strike 38 = .ok (.iload_n 1, 1) := by decide +kernel
theorem dX0_strike_39 : decode cX0_strike 39 = .ok (.invokevirtual 112, 3) := by decide +kernel
theorem dX0_strike_42 : decode cX0_strike 42 = .ok (.iinc 2 1, 3) := by decide +kernel
theorem dX0_strike_45 : decode cX0_strike 45 = .ok (.goto (-36), 3) := by decide +kernel
theorem dX0_strike_48 : decode cX0_strike 48 = .ok (.return_, 1) := by decide +kernel
theorem dX0_payParts_0 : decode cX0_payParts 0 = .ok (.lconst 0, 1) := by decide +kernel
theorem dX0_payParts_1 : decode cX0_payParts 1 = .ok (.lstore_n 2, 1) := by decide +kernel
theorem dX0_payParts_2 : decode cX0_payParts 2 = .ok (.iconst 0, 1) := by decide +kernel
theorem dX0_payParts_3 : decode cX0_payParts 3 = .ok (.istore 4, 2) := by decide +kernel
theorem dX0_payParts_5 : decode cX0_payParts 5 = .ok (.iload 4, 2) := by decide +kernel
theorem dX0_payParts_7 : decode cX0_payParts 7 = .ok (.aload_n 0, 1) := by decide +kernel
theorem dX0_payParts_8 : decode cX0_payParts 8 = .ok (.getfield 31, 3) := by decide +kernel
theorem dX0_payParts_11 : decode cX0_payParts 11 = .ok (.getfield 93, 3) := by decide +kernel
theorem dX0_payParts_14 : decode cX0_payParts 14 = .ok (.getfield 48, 3) := by decide +kernel
theorem dX0_payParts_17 : decode cX0_payParts 17 = .ok (.if_icmp .ge 23, 3) := by decide +kernel
theorem dX0_payParts_20 : decode cX0_payParts 20 = .ok (.lload_n 2, 1) := by decide +kernel
theorem dX0_payParts_21 : decode cX0_payParts 21 = .ok (.aload_n 0, 1) := by decide +kernel
theorem dX0_payParts_22 : decode cX0_payParts 22 = .ok (.getfield 12, 3) := by decide +kernel
theorem dX0_payParts_25 : decode cX0_payParts 25 = .ok (.iload_n 1, 1) := by decide +kernel
theorem dX0_payParts_26 : decode cX0_payParts 26 = .ok (.iload 4, 2) := by decide +kernel
theorem dX0_payParts_28 : decode cX0_payParts 28 = .ok (.invokevirtual 100, 3) := by decide +kernel
theorem dX0_payParts_31 : decode cX0_payParts 31 = .ok (.i2l, 1) := by decide +kernel
theorem dX0_payParts_32 : decode cX0_payParts 32 = .ok (.ladd, 1) := by decide +kernel
theorem dX0_payParts_33 : decode cX0_payParts 33 = .ok (.lstore_n 2, 1) := by decide +kernel
theorem dX0_payParts_34 : decode cX0_payParts 34 = .ok (.iinc 4 1, 3) := by decide +kernel
theorem dX0_payParts_37 : decode cX0_payParts 37 = .ok (.goto (-32), 3) := by decide +kernel
theorem dX0_payParts_40 : decode cX0_payParts 40 = .ok (.aload_n 0, 1) := by decide +kernel
theorem dX0_payParts_41 : decode cX0_payParts 41 = .ok (.getfield 35, 3) := by decide +kernel
theorem dX0_payParts_44 : decode cX0_payParts 44 = .ok (.iload_n 1, 1) := by decide +kernel
theorem dX0_payParts_45 : decode cX0_payParts 45 = .ok (.invokevirtual 116, 3) := by decide +kernel
theorem dX0_payParts_48 : decode cX0_payParts 48 = .ok (.i2l, 1) := by decide +kernel
theorem dX0_payParts_49 : decode cX0_payParts 49 = .ok (.lstore 4, 2) := by decide +kernel
theorem dX0_payParts_51 : decode cX0_payParts 51 = .ok (.iconst 0, 1) := by decide +kernel
theorem dX0_payParts_52 : decode cX0_payParts 52 = .ok (.istore 6, 2) := by decide +kernel
theorem dX0_payParts_54 : decode cX0_payParts 54 = .ok (.iload 6, 2) := by decide +kernel
theorem dX0_payParts_56 : decode cX0_payParts 56 = .ok (.aload_n 0, 1) := by decide +kernel
theorem dX0_payParts_57 : decode cX0_payParts 57 = .ok (.getfield 31, 3) := by decide +kernel
theorem dX0_payParts_60 : decode cX0_payParts 60 = .ok (.getfield 93, 3) := by decide +kernel
theorem dX0_payParts_63 : decode cX0_payParts 63 = .ok (.getfield 48, 3) := by decide +kernel
theorem dX0_payParts_66 : decode cX0_payParts 66 = .ok (.if_icmp .ge 56, 3) := by decide +kernel
theorem dX0_payParts_69 : decode cX0_payParts 69 = .ok (.aload_n 0, 1) := by decide +kernel
theorem dX0_payParts_70 : decode cX0_payParts 70 = .ok (.getfield 12, 3) := by decide +kernel
theorem dX0_payParts_73 : decode cX0_payParts 73 = .ok (.iload_n 1, 1) := by decide +kernel
theorem dX0_payParts_74 : decode cX0_payParts 74 = .ok (.iload 6, 2) := by decide +kernel
theorem dX0_payParts_76 : decode cX0_payParts 76 = .ok (.invokevirtual 100, 3) := by decide +kernel
theorem dX0_payParts_79 : decode cX0_payParts 79 = .ok (.istore 7, 2) := by decide +kernel
theorem dX0_payParts_81 : decode cX0_payParts 81 = .ok (.aload_n 0, 1) := by decide +kernel
theorem dX0_payParts_82 : decode cX0_payParts 82 = .ok (.getfield 21, 3) := by decide +kernel
theorem dX0_payParts_85 : decode cX0_payParts 85 = .ok (.iload_n 1, 1) := by decide +kernel
theorem dX0_payParts_86 : decode cX0_payParts 86 = .ok (.iload 6, 2) := by decide +kernel
theorem dX0_payParts_88 : decode cX0_payParts 88 = .ok (.lload 4, 2) := by decide +kernel
theorem dX0_payParts_90 : decode cX0_payParts 90 = .ok (.lload_n 2, 1) := by decide +kernel
theorem dX0_payParts_91 : decode cX0_payParts 91 = .ok (.lcmp, 1) := by decide +kernel
theorem dX0_payParts_92 : decode cX0_payParts 92 = .ok (.ifCond .ge 19, 3) := by decide +kernel
theorem dX0_payParts_95 : decode cX0_payParts 95 = .ok (.iload 7, 2) := by decide +kernel
theorem dX0_payParts_97 : decode cX0_payParts 97 = .ok (.i2l, 1) := by decide +kernel
theorem dX0_payParts_98 : decode cX0_payParts 98 = .ok (.lload 4, 2) := by decide +kernel
theorem dX0_payParts_100 : decode cX0_payParts 100 = .ok (.lmul, 1) := by decide +kernel
theorem dX0_payParts_101 : decode cX0_payParts 101 = .ok (.lconst 1, 1) := by decide +kernel
theorem dX0_payParts_102 : decode cX0_payParts 102 = .ok (.lload_n 2, 1) := by decide +kernel
theorem dX0_payParts_103 : decode cX0_payParts 103 = .ok (.invokestatic 119, 3) := by decide +kernel
theorem dX0_payParts_106 : decode cX0_payParts 106 = .ok (.ldiv, 1) := by decide +kernel
theorem dX0_payParts_107 : decode cX0_payParts 107 = .ok (.l2i, 1) := by decide +kernel
theorem dX0_payParts_108 : decode cX0_payParts 108 = .ok (.goto 5, 3) := by decide +kernel
theorem dX0_payParts_111 : decode cX0_payParts 111 = .ok (.iload 7, 2) := by decide +kernel
theorem dX0_payParts_113 : decode cX0_payParts 113 = .ok (.invokevirtual 123, 3) := by decide +kernel
theorem dX0_payParts_116 : decode cX0_payParts 116 = .ok (.iinc 6 1, 3) := by decide +kernel
theorem dX0_payParts_119 : decode cX0_payParts 119 = .ok (.goto (-65), 3) := by decide +kernel
theorem dX0_payParts_122 : decode cX0_payParts 122 = .ok (.return_, 1) := by decide +kernel
theorem dX0_payInTurn_0 : decode cX0_payInTurn 0 = .ok (.aload_n 0, 1) := by decide +kernel
theorem dX0_payInTurn_1 : decode cX0_payInTurn 1 = .ok (.getfield 35, 3) := by decide +kernel
theorem dX0_payInTurn_4 : decode cX0_payInTurn 4 = .ok (.iload_n 1, 1) := by decide +kernel
theorem dX0_payInTurn_5 : decode cX0_payInTurn 5 = .ok (.invokevirtual 116, 3) := by decide +kernel
theorem dX0_payInTurn_8 : decode cX0_payInTurn 8 = .ok (.istore_n 3, 1) := by decide +kernel
theorem dX0_payInTurn_9 : decode cX0_payInTurn 9 = .ok (.iconst 0, 1) := by decide +kernel
theorem dX0_payInTurn_10 : decode cX0_payInTurn 10 = .ok (.istore 4, 2) := by decide +kernel
theorem dX0_payInTurn_12 : decode cX0_payInTurn 12 = .ok (.iconst 0, 1) := by decide +kernel
theorem dX0_payInTurn_13 : decode cX0_payInTurn 13 = .ok (.istore 5, 2) := by decide +kernel
theorem dX0_payInTurn_15 : decode cX0_payInTurn 15 = .ok (.iload 5, 2) := by decide +kernel
theorem dX0_payInTurn_17 : decode cX0_payInTurn 17 = .ok (.aload_n 0, 1) := by decide +kernel
theorem dX0_payInTurn_18 : decode cX0_payInTurn 18 = .ok (.getfield 31, 3) := by decide +kernel
theorem dX0_payInTurn_21 : decode cX0_payInTurn 21 = .ok (.getfield 93, 3) := by decide +kernel
theorem dX0_payInTurn_24 : decode cX0_payInTurn 24 = .ok (.getfield 48, 3) := by decide +kernel
theorem dX0_payInTurn_27 : decode cX0_payInTurn 27 = .ok (.if_icmp .ge 68, 3) := by decide +kernel
theorem dX0_payInTurn_30 : decode cX0_payInTurn 30 = .ok (.aload_n 0, 1) := by decide +kernel
theorem dX0_payInTurn_31 : decode cX0_payInTurn 31 = .ok (.iload_n 1, 1) := by decide +kernel
theorem dX0_payInTurn_32 : decode cX0_payInTurn 32 = .ok (.iload_n 2, 1) := by decide +kernel
theorem dX0_payInTurn_33 : decode cX0_payInTurn 33 = .ok (.iload 4, 2) := by decide +kernel
theorem dX0_payInTurn_35 : decode cX0_payInTurn 35 = .ok (.invokevirtual 126, 3) := by decide +kernel
theorem dX0_payInTurn_38 : decode cX0_payInTurn 38 = .ok (.istore 6, 2) := by decide +kernel
theorem dX0_payInTurn_40 : decode cX0_payInTurn 40 = .ok (.iload 6, 2) := by decide +kernel
theorem dX0_payInTurn_42 : decode cX0_payInTurn 42 = .ok (.iconst (-1), 1) := by decide +kernel
theorem dX0_payInTurn_43 : decode cX0_payInTurn 43 = .ok (.if_icmp .ne 4, 3) := by decide +kernel
theorem dX0_payInTurn_46 : decode cX0_payInTurn 46 = .ok (.return_, 1) := by decide +kernel
theorem dX0_payInTurn_47 : decode cX0_payInTurn 47 = .ok (.iload_n 3, 1) := by decide +kernel
theorem dX0_payInTurn_48 : decode cX0_payInTurn 48 = .ok (.aload_n 0, 1) := by decide +kernel
theorem dX0_payInTurn_49 : decode cX0_payInTurn 49 = .ok (.getfield 12, 3) := by decide +kernel
theorem dX0_payInTurn_52 : decode cX0_payInTurn 52 = .ok (.iload_n 1, 1) := by decide +kernel
theorem dX0_payInTurn_53 : decode cX0_payInTurn 53 = .ok (.iload 6, 2) := by decide +kernel
theorem dX0_payInTurn_55 : decode cX0_payInTurn 55 = .ok (.invokevirtual 100, 3) := by decide +kernel
theorem dX0_payInTurn_58 : decode cX0_payInTurn 58 = .ok (.invokestatic 88, 3) := by decide +kernel
theorem dX0_payInTurn_61 : decode cX0_payInTurn 61 = .ok (.istore 7, 2) := by decide +kernel
theorem dX0_payInTurn_63 : decode cX0_payInTurn 63 = .ok (.aload_n 0, 1) := by decide +kernel
theorem dX0_payInTurn_64 : decode cX0_payInTurn 64 = .ok (.getfield 21, 3) := by decide +kernel
theorem dX0_payInTurn_67 : decode cX0_payInTurn 67 = .ok (.iload_n 1, 1) := by decide +kernel
theorem dX0_payInTurn_68 : decode cX0_payInTurn 68 = .ok (.iload 6, 2) := by decide +kernel
theorem dX0_payInTurn_70 : decode cX0_payInTurn 70 = .ok (.iload 7, 2) := by decide +kernel
theorem dX0_payInTurn_72 : decode cX0_payInTurn 72 = .ok (.invokevirtual 123, 3) := by decide +kernel
theorem dX0_payInTurn_75 : decode cX0_payInTurn 75 = .ok (.iload_n 3, 1) := by decide +kernel
theorem dX0_payInTurn_76 : decode cX0_payInTurn 76 = .ok (.iload 7, 2) := by decide +kernel
theorem dX0_payInTurn_78 : decode cX0_payInTurn 78 = .ok (.isub, 1) := by decide +kernel
theorem dX0_payInTurn_79 : decode cX0_payInTurn 79 = .ok (.istore_n 3, 1) := by decide +kernel
theorem dX0_payInTurn_80 : decode cX0_payInTurn 80 = .ok (.iload 4, 2) := by decide +kernel
theorem dX0_payInTurn_82 : decode cX0_payInTurn 82 = .ok (.iconst 1, 1) := by decide +kernel
theorem dX0_payInTurn_83 : decode cX0_payInTurn 83 = .ok (.iload 6, 2) := by decide +kernel
theorem dX0_payInTurn_85 : decode cX0_payInTurn 85 = .ok (.ishl, 1) := by decide +kernel
theorem dX0_payInTurn_86 : decode cX0_payInTurn 86 = .ok (.ior, 1) := by decide +kernel
theorem dX0_payInTurn_87 : decode cX0_payInTurn 87 = .ok (.istore 4, 2) := by decide +kernel
theorem dX0_payInTurn_89 : decode cX0_payInTurn 89 = .ok (.iinc 5 1, 3) := by decide +kernel
theorem dX0_payInTurn_92 : decode cX0_payInTurn 92 = .ok (.goto (-77), 3) := by decide +kernel
theorem dX0_payInTurn_95 : decode cX0_payInTurn 95 = .ok (.return_, 1) := by decide +kernel
theorem dX0_nextToPay_0 : decode cX0_nextToPay 0 = .ok (.iconst (-1), 1) := by decide +kernel
theorem dX0_nextToPay_1 : decode cX0_nextToPay 1 = .ok (.istore 4, 2) := by decide +kernel
theorem dX0_nextToPay_3 : decode cX0_nextToPay 3 = .ok (.iconst 0, 1) := by decide +kernel
theorem dX0_nextToPay_4 : decode cX0_nextToPay 4 = .ok (.istore 5, 2) := by decide +kernel
theorem dX0_nextToPay_6 : decode cX0_nextToPay 6 = .ok (.iload 5, 2) := by decide +kernel
theorem dX0_nextToPay_8 : decode cX0_nextToPay 8 = .ok (.aload_n 0, 1) := by decide +kernel
theorem dX0_nextToPay_9 : decode cX0_nextToPay 9 = .ok (.getfield 31, 3) := by decide +kernel
theorem dX0_nextToPay_12 : decode cX0_nextToPay 12 = .ok (.getfield 93, 3) := by decide +kernel
theorem dX0_nextToPay_15 : decode cX0_nextToPay 15 = .ok (.getfield 48, 3) := by decide +kernel
theorem dX0_nextToPay_18 : decode cX0_nextToPay 18 = .ok (.if_icmp .ge 65, 3) := by decide +kernel
theorem dX0_nextToPay_21 : decode cX0_nextToPay 21 = .ok (.aload_n 0, 1) := by decide +kernel
theorem dX0_nextToPay_22 : decode cX0_nextToPay 22 = .ok (.getfield 12, 3) := by decide +kernel
theorem dX0_nextToPay_25 : decode cX0_nextToPay 25 = .ok (.iload_n 1, 1) := by decide +kernel
theorem dX0_nextToPay_26 : decode cX0_nextToPay 26 = .ok (.iload 5, 2) := by decide +kernel
theorem dX0_nextToPay_28 : decode cX0_nextToPay 28 = .ok (.invokevirtual 100, 3) := by decide +kernel
theorem dX0_nextToPay_31 : decode cX0_nextToPay 31 = .ok (.istore 6, 2) := by decide +kernel
theorem dX0_nextToPay_33 : decode cX0_nextToPay 33 = .ok (.iload 6, 2) := by decide +kernel
theorem dX0_nextToPay_35 : decode cX0_nextToPay 35 = .ok (.ifCond .le 42, 3) := by decide +kernel
theorem dX0_nextToPay_38 : decode cX0_nextToPay 38 = .ok (.iload_n 3, 1) := by decide +kernel
theorem dX0_nextToPay_39 : decode cX0_nextToPay 39 = .ok (.iload 5, 2) := by decide +kernel
theorem dX0_nextToPay_41 : decode cX0_nextToPay 41 = .ok (.ishr, 1) := by decide +kernel
theorem dX0_nextToPay_42 : decode cX0_nextToPay 42 = .ok (.iconst 1, 1) := by decide +kernel
theorem dX0_nextToPay_43 : decode cX0_nextToPay 43 = .ok (.iand, 1) := by decide +kernel
theorem dX0_nextToPay_44 : decode cX0_nextToPay 44 = .ok (.ifCond .ne 33, 3) := by decide +kernel
theorem dX0_nextToPay_47 : decode cX0_nextToPay 47 = .ok (.iload 4, 2) := by decide +kernel
theorem dX0_nextToPay_49 : decode cX0_nextToPay 49 = .ok (.iconst (-1), 1) := by decide +kernel
theorem dX0_nextToPay_50 : decode cX0_nextToPay 50 = .ok (.if_icmp .eq 23, 3) := by decide +kernel
theorem dX0_nextToPay_53 : decode cX0_nextToPay 53 = .ok (.iload_n 2, 1) := by decide +kernel
theorem dX0_nextToPay_54 : decode cX0_nextToPay 54 = .ok (.iconst 1, 1) := by decide +kernel
theorem dX0_nextToPay_55 : decode cX0_nextToPay 55 = .ok (.if_icmp .ne 22, 3) := by decide +kernel
theorem dX0_nextToPay_58 : decode cX0_nextToPay 58 = .ok (.iload 6, 2) := by decide +kernel
theorem dX0_nextToPay_60 : decode cX0_nextToPay 60 = .ok (.aload_n 0, 1) := by decide +kernel
theorem dX0_nextToPay_61 : decode cX0_nextToPay 61 = .ok (.getfield 12, 3) := by decide +kernel
theorem dX0_nextToPay_64 : decode cX0_nextToPay 64 = .ok (.iload_n 1, 1) := by decide +kernel
theorem dX0_nextToPay_65 : decode cX0_nextToPay 65 = .ok (.iload 4, 2) := by decide +kernel
theorem dX0_nextToPay_67 : decode cX0_nextToPay 67 = .ok (.invokevirtual 100, 3) := by decide +kernel
theorem dX0_nextToPay_70 : decode cX0_nextToPay 70 = .ok (.if_icmp .ge 7, 3) := by decide +kernel
theorem dX0_nextToPay_73 : decode cX0_nextToPay 73 = .ok (.iload 5, 2) := by decide +kernel
theorem dX0_nextToPay_75 : decode cX0_nextToPay 75 = .ok (.istore 4, 2) := by decide +kernel
theorem dX0_nextToPay_77 : decode cX0_nextToPay 77 = .ok (.iinc 5 1, 3) := by decide +kernel
theorem dX0_nextToPay_80 : decode cX0_nextToPay 80 = .ok (.goto (-74), 3) := by decide +kernel
theorem dX0_nextToPay_83 : decode cX0_nextToPay 83 = .ok (.iload 4, 2) := by decide +kernel
theorem dX0_nextToPay_85 : decode cX0_nextToPay 85 = .ok (.ireturn, 1) := by decide +kernel
theorem dX0_ruined_0 : decode cX0_ruined 0 = .ok (.iconst 0, 1) := by decide +kernel
theorem dX0_ruined_1 : decode cX0_ruined 1 = .ok (.istore_n 1, 1) := by decide +kernel
theorem dX0_ruined_2 : decode cX0_ruined 2 = .ok (.iconst 0, 1) := by decide +kernel
theorem dX0_ruined_3 : decode cX0_ruined 3 = .ok (.istore_n 2, 1) := by decide +kernel
theorem dX0_ruined_4 : decode cX0_ruined 4 = .ok (.iload_n 2, 1) := by decide +kernel
theorem dX0_ruined_5 : decode cX0_ruined 5 = .ok (.aload_n 0, 1) := by decide +kernel
theorem dX0_ruined_6 : decode cX0_ruined 6 = .ok (.getfield 31, 3) := by decide +kernel
theorem dX0_ruined_9 : decode cX0_ruined 9 = .ok (.getfield 93, 3) := by decide +kernel
theorem dX0_ruined_12 : decode cX0_ruined 12 = .ok (.getfield 48, 3) := by decide +kernel
theorem dX0_ruined_15 : decode cX0_ruined 15 = .ok (.if_icmp .ge 80, 3) := by decide +kernel
theorem dX0_ruined_18 : decode cX0_ruined 18 = .ok (.iconst 0, 1) := by decide +kernel
theorem dX0_ruined_19 : decode cX0_ruined 19 = .ok (.istore_n 3, 1) := by decide +kernel
theorem dX0_ruined_20 : decode cX0_ruined 20 = .ok (.iconst 0, 1) := by decide +kernel
theorem dX0_ruined_21 : decode cX0_ruined 21 = .ok (.istore 4, 2) := by decide +kernel
theorem dX0_ruined_23 : decode cX0_ruined 23 = .ok (.iconst 0, 1) := by decide +kernel
theorem dX0_ruined_24 : decode cX0_ruined 24 = .ok (.istore 5, 2) := by decide +kernel
theorem dX0_ruined_26 : decode cX0_ruined 26 = .ok (.iload 5, 2) := by decide +kernel
theorem dX0_ruined_28 : decode cX0_ruined 28 = .ok (.aload_n 0, 1) := by decide +kernel
theorem dX0_ruined_29 : decode cX0_ruined 29 = .ok (.getfield 31, 3) := by decide +kernel
theorem dX0_ruined_32 : decode cX0_ruined 32 = .ok (.getfield 93, 3) := by decide +kernel
theorem dX0_ruined_35 : decode cX0_ruined 35 = .ok (.getfield 48, 3) := by decide +kernel
theorem dX0_ruined_38 : decode cX0_ruined 38 = .ok (.if_icmp .ge 37, 3) := by decide +kernel
theorem dX0_ruined_41 : decode cX0_ruined 41 = .ok (.iload_n 3, 1) := by decide +kernel
theorem dX0_ruined_42 : decode cX0_ruined 42 = .ok (.aload_n 0, 1) := by decide +kernel
theorem dX0_ruined_43 : decode cX0_ruined 43 = .ok (.getfield 12, 3) := by decide +kernel
theorem dX0_ruined_46 : decode cX0_ruined 46 = .ok (.iload 5, 2) := by decide +kernel
theorem dX0_ruined_48 : decode cX0_ruined 48 = .ok (.iload_n 2, 1) := by decide +kernel
theorem dX0_ruined_49 : decode cX0_ruined 49 = .ok (.invokevirtual 100, 3) := by decide +kernel
theorem dX0_ruined_52 : decode cX0_ruined 52 = .ok (.iadd, 1) := by decide +kernel
theorem dX0_ruined_53 : decode cX0_ruined 53 = .ok (.istore_n 3, 1) := by decide +kernel
theorem dX0_ruined_54 : decode cX0_ruined 54 = .ok (.iload 4, 2) := by decide +kernel
theorem dX0_ruined_56 : decode cX0_ruined 56 = .ok (.aload_n 0, 1) := by decide +kernel
theorem dX0_ruined_57 : decode cX0_ruined 57 = .ok (.getfield 21, 3) := by decide +kernel
theorem dX0_ruined_60 : decode cX0_ruined 60 = .ok (.iload 5, 2) := by decide +kernel
theorem dX0_ruined_62 : decode cX0_ruined 62 = .ok (.iload_n 2, 1) := by decide +kernel
theorem dX0_ruined_63 : decode cX0_ruined 63 = .ok (.invokevirtual 100, 3) := by decide +kernel
theorem dX0_ruined_66 : decode cX0_ruined 66 = .ok (.iadd, 1) := by decide +kernel
theorem dX0_ruined_67 : decode cX0_ruined 67 = .ok (.istore 4, 2) := by decide +kernel
theorem dX0_ruined_69 : decode cX0_ruined 69 = .ok (.iinc 5 1, 3) := by decide +kernel
theorem dX0_ruined_72 : decode cX0_ruined 72 = .ok (.goto (-46), 3) := by decide +kernel
theorem dX0_ruined_75 : decode cX0_ruined 75 = .ok (.iconst 2, 1) := by decide +kernel
theorem dX0_ruined_76 : decode cX0_ruined 76 = .ok (.iload 4, 2) := by decide +kernel
theorem dX0_ruined_78 : decode cX0_ruined 78 = .ok (.imul, 1) := by decide +kernel
theorem dX0_ruined_79 : decode cX0_ruined 79 = .ok (.iload_n 3, 1) := by decide +kernel
theorem dX0_ruined_80 : decode cX0_ruined 80 = .ok (.if_icmp .ge 9, 3) := by decide +kernel
theorem dX0_ruined_83 : decode cX0_ruined 83 = .ok (.iload_n 1, 1) := by decide +kernel
theorem dX0_ruined_84 : decode cX0_ruined 84 = .ok (.iconst 1, 1) := by decide +kernel
theorem dX0_ruined_85 : decode cX0_ruined 85 = .ok (.iload_n 2, 1) := by decide +kernel
theorem dX0_ruined_86 : decode cX0_ruined 86 = .ok (.ishl, 1) := by decide +kernel
theorem dX0_ruined_87 : decode cX0_ruined 87 = .ok (.ior, 1) := by decide +kernel
theorem dX0_ruined_88 : decode cX0_ruined 88 = .ok (.istore_n 1, 1) := by decide +kernel
theorem dX0_ruined_89 : decode cX0_ruined 89 = .ok (.iinc 2 1, 3) := by decide +kernel
theorem dX0_ruined_92 : decode cX0_ruined 92 = .ok (.goto (-88), 3) := by decide +kernel
theorem dX0_ruined_95 : decode cX0_ruined 95 = .ok (.iload_n 1, 1) := by decide +kernel
theorem dX0_ruined_96 : decode cX0_ruined 96 = .ok (.ireturn, 1) := by decide +kernel
theorem dX1_init_0 : decode cX1_init 0 = .ok (.aload_n 0, 1) := by decide +kernel
theorem dX1_init_1 : decode cX1_init 1 = .ok (.invokespecial 3, 3) := by decide +kernel
theorem dX1_init_4 : decode cX1_init 4 = .ok (.aload_n 0, 1) := by decide +kernel
theorem dX1_init_5 : decode cX1_init 5 = .ok (.sipush 343, 3) := by decide +kernel
theorem dX1_init_8 : decode cX1_init 8 = .ok (.newarray .int, 2) := by decide +kernel
theorem dX1_init_10 : decode cX1_init 10 = .ok (.putfield 11, 3) := by decide +kernel
theorem dX1_init_13 : decode cX1_init 13 = .ok (.aload_n 0, 1) := by decide +kernel
theorem dX1_init_14 : decode cX1_init 14 = .ok (.sipush 343, 3) := by decide +kernel
theorem dX1_init_17 : decode cX1_init 17 = .ok (.newarray .int, 2) := by decide +kernel
theorem dX1_init_19 : decode cX1_init 19 = .ok (.putfield 15, 3) := by decide +kernel
theorem dX1_init_22 : decode cX1_init 22 = .ok (.aload_n 0, 1) := by decide +kernel
theorem dX1_init_23 : decode cX1_init 23 = .ok (.sipush 343, 3) := by decide +kernel
theorem dX1_init_26 : decode cX1_init 26 = .ok (.newarray .boolean, 2) := by decide +kernel
theorem dX1_init_28 : decode cX1_init 28 = .ok (.putfield 18, 3) := by decide +kernel
theorem dX1_init_31 : decode cX1_init 31 = .ok (.aload_n 0, 1) := by decide +kernel
theorem dX1_init_32 : decode cX1_init 32 = .ok (.aload_n 1, 1) := by decide +kernel
theorem dX1_init_33 : decode cX1_init 33 = .ok (.putfield 22, 3) := by decide +kernel
theorem dX1_init_36 : decode cX1_init 36 = .ok (.aload_n 0, 1) := by decide +kernel
theorem dX1_init_37 : decode cX1_init 37 = .ok (.aload_n 2, 1) := by decide +kernel
theorem dX1_init_38 : decode cX1_init 38 = .ok (.putfield 26, 3) := by decide +kernel
theorem dX1_init_41 : decode cX1_init 41 = .ok (.return_, 1) := by decide +kernel
theorem dX1_forget_0 : decode cX1_forget 0 = .ok (.iconst 0, 1) := by decide +kernel
theorem dX1_forget_1 : decode cX1_forget 1 = .ok (.istore_n 1, 1) := by decide +kernel
theorem dX1_forget_2 : decode cX1_forget 2 = .ok (.iload_n 1, 1) := by decide +kernel
theorem dX1_forget_3 : decode cX1_forget 3 = .ok (.sipush 343, 3) := by decide +kernel
theorem dX1_forget_6 : decode cX1_forget 6 = .ok (.if_icmp .ge 16, 3) := by decide +kernel
theorem dX1_forget_9 : decode cX1_forget 9 = .ok (.aload_n 0, 1) := by decide +kernel
theorem dX1_forget_10 : decode cX1_forget 10 = .ok (.getfield 18, 3) := by decide +kernel
theorem dX1_forget_13 : decode cX1_forget 13 = .ok (.iload_n 1, 1) := by decide +kernel
theorem dX1_forget_14 : decode cX1_forget 14 = .ok (.iconst 0, 1) := by decide +kernel
theorem dX1_forget_15 : decode cX1_forget 15 = .ok (.bastore, 1) := by decide +kernel
theorem dX1_forget_16 : decode cX1_forget 16 = .ok (.iinc 1 1, 3) := by decide +kernel
theorem dX1_forget_19 : decode cX1_forget 19 = .ok (.goto (-17), 3) := by decide +kernel
theorem dX1_forget_22 : decode cX1_forget 22 = .ok (.return_, 1) := by decide +kernel
theorem dX1_total_0 : decode cX1_total 0 = .ok (.iconst 1, 1) := by decide +kernel
theorem dX1_total_1 : decode cX1_total 1 = .ok (.istore_n 1, 1) := by decide +kernel
theorem dX1_total_2 : decode cX1_total 2 = .ok (.iconst 0, 1) := by decide +kernel
theorem dX1_total_3 : decode cX1_total 3 = .ok (.istore_n 2, 1) := by decide +kernel
theorem dX1_total_4 : decode cX1_total 4 = .ok (.iload_n 2, 1) := by decide +kernel
theorem dX1_total_5 : decode cX1_total 5 = .ok (.aload_n 0, 1) := by decide +kernel
theorem dX1_total_6 : decode cX1_total 6 = .ok (.getfield 22, 3) := by decide +kernel
theorem dX1_total_9 : decode cX1_total 9 = .ok (.getfield 30, 3) := by decide +kernel
theorem dX1_total_12 : decode cX1_total 12 = .ok (.getfield 36, 3) := by decide +kernel
theorem dX1_total_15 : decode cX1_total 15 = .ok (.if_icmp .ge 16, 3) := by decide +kernel
theorem dX1_total_18 : decode cX1_total 18 = .ok (.iload_n 1, 1) := by decide +kernel
theorem dX1_total_19 : decode cX1_total 19 = .ok (.aload_n 0, 1) := by decide +kernel
theorem dX1_total_20 : decode cX1_total 20 = .ok (.invokevirtual 42, 3) := by decide +kernel
theorem dX1_total_23 : decode cX1_total 23 = .ok (.imul, 1) := by decide +kernel
theorem dX1_total_24 : decode cX1_total 24 = .ok (.istore_n 1, 1) := by decide +kernel
theorem dX1_total_25 : decode cX1_total 25 = .ok (.iinc 2 1, 3) := by decide +kernel
theorem dX1_total_28 : decode cX1_total 28 = .ok (.goto (-24), 3) := by decide +kernel
theorem dX1_total_31 : decode cX1_total 31 = .ok (.iload_n 1, 1) := by decide +kernel
theorem dX1_total_32 : decode cX1_total 32 = .ok (.ireturn, 1) := by decide +kernel
theorem dX1_choices_0 : decode cX1_choices 0 = .ok (.iconst 1, 1) := by decide +kernel
theorem dX1_choices_1 : decode cX1_choices 1 = .ok (.aload_n 0, 1) := by decide +kernel
theorem dX1_choices_2 : decode cX1_choices 2 = .ok (.getfield 22, 3) := by decide +kernel
theorem dX1_choices_5 : decode cX1_choices 5 = .ok (.getfield 46, 3) := by decide +kernel
theorem dX1_choices_8 : decode cX1_choices 8 = .ok (.getfield 36, 3) := by decide +kernel
theorem dX1_choices_11 : decode cX1_choices 11 = .ok (.iconst 1, 1) := by decide +kernel
theorem dX1_choices_12 : decode cX1_choices 12 = .ok (.iadd, 1) := by decide +kernel
theorem dX1_choices_13 : decode cX1_choices 13 = .ok (.invokestatic 49, 3) := by decide +kernel
theorem dX1_choices_16 : decode cX1_choices 16 = .ok (.ireturn, 1) := by decide +kernel
theorem dX1_takerIn_0 : decode cX1_takerIn 0 = .ok (.aload_n 0, 1) := by decide +kernel
theorem dX1_takerIn_1 : decode cX1_takerIn 1 = .ok (.invokevirtual 42, 3) := by decide +kernel
theorem dX1_takerIn_4 : decode cX1_takerIn 4 = .ok (.istore_n 3, 1) := by decide +kernel
theorem dX1_takerIn_5 : decode cX1_takerIn 5 = .ok (.iload_n 1, 1) := by decide +kernel
theorem dX1_takerIn_6 : decode cX1_takerIn 6 = .ok (.istore 4, 2) := by decide +kernel
theorem dX1_takerIn_8 : decode cX1_takerIn 8 = .ok (.aload_n 0, 1) := by decide +kernel
theorem dX1_takerIn_9 : decode cX1_takerIn 9 = .ok (.getfield 22, 3) := by decide +kernel
theorem dX1_takerIn_12 : decode cX1_takerIn 12 = .ok (.getfield 30, 3) := by decide +kernel
theorem dX1_takerIn_15 : decode cX1_takerIn 15 = .ok (.getfield 36, 3) := by decide +kernel
theorem dX1_takerIn_18 : decode cX1_takerIn 18 = .ok (.iconst 1, 1) := by decide +kernel
theorem dX1_takerIn_19 : decode cX1_takerIn 19 = .ok (.isub, 1) := by decide +kernel
theorem dX1_takerIn_20 : decode cX1_takerIn 20 = .ok (.istore 5, 2) := by decide +kernel
theorem dX1_takerIn_22 : decode cX1_takerIn 22 = .ok (.iload 5, 2) := by decide +kernel
theorem dX1_takerIn_24 : decode cX1_takerIn 24 = .ok (.iload_n 2, 1) := by decide +kernel
theorem dX1_takerIn_25 : decode cX1_takerIn 25 = .ok (.if_icmp .le 15, 3) := by decide +kernel
theorem dX1_takerIn_28 : decode cX1_takerIn 28 = .ok (.iload 4, 2) := by decide +kernel
theorem dX1_takerIn_30 : decode cX1_takerIn 30 = .ok (.iload_n 3, 1) := by decide +kernel
theorem dX1_takerIn_31 : decode cX1_takerIn 31 = .ok (.idiv, 1) := by decide +kernel
theorem dX1_takerIn_32 : decode cX1_takerIn 32 = .ok (.istore 4, 2) := by decide +kernel
theorem dX1_takerIn_34 : decode cX1_takerIn 34 = .ok (.iinc 5 (-1), 3) := by decide +kernel
theorem dX1_takerIn_37 : decode cX1_takerIn 37 = .ok (.goto (-15), 3) := by decide +kernel
theorem dX1_takerIn_40 : decode cX1_takerIn 40 = .ok (.iload 4, 2) := by decide +kernel
theorem dX1_takerIn_42 : decode cX1_takerIn 42 = .ok (.iload_n 3, 1) := by decide +kernel
theorem dX1_takerIn_43 : decode cX1_takerIn 43 = .ok (.irem, 1) := by decide +kernel
theorem dX1_takerIn_44 : decode cX1_takerIn 44 = .ok (.iconst 1, 1) := by decide +kernel
theorem dX1_takerIn_45 : decode cX1_takerIn 45 = .ok (.isub, 1) := by decide +kernel
theorem dX1_takerIn_46 : decode cX1_takerIn 46 = .ok (.ireturn, 1) := by decide +kernel
theorem dX1_codeNow_0 : decode cX1_codeNow 0 = .ok (.iconst 0, 1) := by decide +kernel
theorem dX1_codeNow_1 : decode cX1_codeNow 1 = .ok (.istore_n 1, 1) := by decide +kernel
theorem dX1_codeNow_2 : decode cX1_codeNow 2 = .ok (.iconst 0, 1) := by decide +kernel
theorem dX1_codeNow_3 : decode cX1_codeNow 3 = .ok (.istore_n 2, 1) := by decide +kernel
theorem dX1_codeNow_4 : decode cX1_codeNow 4 = .ok (.iload_n 2, 1) := by decide +kernel
theorem dX1_codeNow_5 : decode cX1_codeNow 5 = .ok (.aload_n 0, 1) := by decide +kernel
theorem dX1_codeNow_6 : decode cX1_codeNow 6 = .ok (.getfield 22, 3) := by decide +kernel
theorem dX1_codeNow_9 : decode cX1_codeNow 9 = .ok (.getfield 30, 3) := by decide +kernel
theorem dX1_codeNow_12 : decode cX1_codeNow 12 = .ok (.getfield 36, 3) := by decide +kernel
theorem dX1_codeNow_15 : decode cX1_codeNow 15 = .ok (.if_icmp .ge 31, 3) := by decide +kernel
theorem dX1_codeNow_18 : decode cX1_codeNow 18 = .ok (.iload_n 1, 1) := by decide +kernel
theorem dX1_codeNow_19 : decode cX1_codeNow 19 = .ok (.aload_n 0, 1) := by decide +kernel
theorem dX1_codeNow_20 : decode cX1_codeNow 20 = .ok (.invokevirtual 42, 3) := by decide +kernel
theorem dX1_codeNow_23 : decode cX1_codeNow 23 = .ok (.imul, 1) := by decide +kernel
theorem dX1_codeNow_24 : decode cX1_codeNow 24 = .ok (.aload_n 0, 1) := by decide +kernel
theorem dX1_codeNow_25 : decode cX1_codeNow 25 = .ok (.getfield 22, 3) := by decide +kernel
theorem dX1_codeNow_28 : decode cX1_codeNow 28 = .ok (.getfield 30, 3) := by decide +kernel
theorem dX1_codeNow_31 : decode cX1_codeNow 31 = .ok (.iload_n 2, 1) := by decide +kernel
theorem dX1_codeNow_32 : decode cX1_codeNow 32 = .ok (.iconst 3, 1) := by decide +kernel
theorem dX1_codeNow_33 : decode cX1_codeNow 33 = .ok (.invokevirtual 55, 3) := by decide +kernel
theorem dX1_codeNow_36 : decode cX1_codeNow 36 = .ok (.iadd, 1) := by decide +kernel
theorem dX1_codeNow_37 : decode cX1_codeNow 37 = .ok (.iconst 1, 1) := by decide +kernel
theorem dX1_codeNow_38 : decode cX1_codeNow 38 = .ok (.iadd, 1) := by decide +kernel
theorem dX1_codeNow_39 : decode cX1_codeNow 39 = .ok (.istore_n 1, 1) := by decide +kernel
theorem dX1_codeNow_40 : decode cX1_codeNow 40 = .ok (.iinc 2 1, 3) := by decide +kernel
theorem dX1_codeNow_43 : decode cX1_codeNow 43 = .ok (.goto (-39), 3) := by decide +kernel
theorem dX1_codeNow_46 : decode cX1_codeNow 46 = .ok (.iload_n 1, 1) := by decide +kernel
theorem dX1_codeNow_47 : decode cX1_codeNow 47 = .ok (.ireturn, 1) := by decide +kernel
theorem dX1_onlyComing_0 : decode cX1_onlyComing 0 = .ok (.iconst 0, 1) := by decide +kernel
theorem dX1_onlyComing_1 : decode cX1_onlyComing 1 = .ok (.istore_n 3, 1) := by decide +kernel
theorem dX1_onlyComing_2 : decode cX1_onlyComing 2 = .ok (.iconst 0, 1) := by decide +kernel
theorem dX1_onlyComing_3 : decode cX1_onlyComing 3 = .ok (.istore 4, 2) := by decide +kernel
theorem dX1_onlyComing_5 : decode cX1_onlyComing 5 = .ok (.iload 4, 2) := by decide +kernel
theorem dX1_onlyComing_7 : decode cX1_onlyComing 7 = .ok (.aload_n 0, 1) := by decide +kernel
theorem dX1_onlyComing_8 : decode cX1_onlyComing 8 = .ok (.getfield 22, 3) := by decide +kernel
theorem dX1_onlyComing_11 : decode cX1_onlyComing 11 = .ok (.getfield 30, 3) := by decide +kernel
theorem dX1_onlyComing_14 : decode cX1_onlyComing 14 = .ok (.getfield 36, 3) := by decide +kernel
theorem dX1_onlyComing_17 : decode cX1_onlyComing 17 = .ok (.if_icmp .ge 44, 3) := by decide +kernel
theorem dX1_onlyComing_20 : decode cX1_onlyComing 20 = .ok (.iload_n 2, 1) := by decide +kernel
theorem dX1_onlyComing_21 : decode cX1_onlyComing 21 = .ok (.iload 4, 2) := by decide +kernel
theorem dX1_onlyComing_23 : decode cX1_onlyComing 23 = .ok (.ishr, 1) := by decide +kernel
theorem dX1_onlyComing_24 : decode cX1_onlyComing 24 = .ok (.iconst 1, 1) := by decide +kernel
theorem dX1_onlyComing_25 : decode cX1_onlyComing 25 = .ok (.iand, 1) := by decide +kernel
theorem dX1_onlyComing_26 : decode cX1_onlyComing 26 = .ok (.iconst 1, 1) := by decide +kernel
theorem dX1_onlyComing_27 : decode cX1_onlyComing 27 = .ok (.if_icmp .ne 15, 3) := by decide +kernel
theorem dX1_onlyComing_30 : decode cX1_onlyComing 30 = .ok (.aload_n 0, 1) := by decide +kernel
theorem dX1_onlyComing_31 : decode cX1_onlyComing 31 = .ok (.iload_n 1, 1) := by decide +kernel
theorem dX1_onlyComing_32 : decode cX1_onlyComing 32 = .ok (.iload 4, 2) := by decide +kernel
theorem dX1_onlyComing_34 : decode cX1_onlyComing 34 = .ok (.invokevirtual 58, 3) := by decide +kernel
theorem dX1_onlyComing_37 : decode cX1_onlyComing 37 = .ok (.iconst 1, 1) := by decide +kernel
theorem dX1_onlyComing_38 : decode cX1_onlyComing 38 = .ok (.iadd, 1) := by decide +kernel
theorem dX1_onlyComing_39 : decode cX1_onlyComing 39 = .ok (.goto 4, 3) := by decide +kernel
theorem dX1_onlyComing_42 : decode cX1_onlyComing 42 = .ok (.iconst 0, 1) := by decide +kernel
theorem dX1_onlyComing_43 : decode cX1_onlyComing 43 = .ok (.istore 5, 2) := by decide +kernel
theorem dX1_onlyComing_45 : decode cX1_onlyComing 45 = .ok (.iload_n 3, 1) := by decide +kernel
theorem dX1_onlyComing_46 : decode cX1_onlyComing 46 = .ok (.aload_n 0, 1) := by decide +kernel
theorem dX1_onlyComing_47 : decode cX1_onlyComing 47 = .ok (.invokevirtual 42, 3) := by decide +kernel
theorem dX1_onlyComing_50 : decode cX1_onlyComing 50 = .ok (.imul, 1) := by decide +kernel
theorem dX1_onlyComing_51 : decode cX1_onlyComing 51 = .ok (.iload 5, 2) := by decide +kernel
theorem dX1_onlyComing_53 : decode cX1_onlyComing 53 = .ok (.iadd, 1) := by decide +kernel
theorem dX1_onlyComing_54 : decode cX1_onlyComing 54 = .ok (.istore_n 3, 1) := by decide +kernel
theorem dX1_onlyComing_55 : decode cX1_onlyComing 55 = .ok (.iinc 4 1, 3) := by decide +kernel
theorem dX1_onlyComing_58 : decode cX1_onlyComing 58 = .ok (.goto (-53), 3) := by decide +kernel
theorem dX1_onlyComing_61 : decode cX1_onlyComing 61 = .ok (.iload_n 3, 1) := by decide +kernel
theorem dX1_onlyComing_62 : decode cX1_onlyComing 62 = .ok (.ireturn, 1) := by decide +kernel
theorem dX1_lead_0 : decode cX1_lead 0 = .ok (.aload_n 0, 1) := by decide +kernel
theorem dX1_lead_1 : decode cX1_lead 1 = .ok (.getfield 26, 3) := by decide +kernel
theorem dX1_lead_4 : decode cX1_lead 4 = .ok (.invokevirtual 61, 3) := by decide +kernel
theorem dX1_lead_7 : decode cX1_lead 7 = .ok (.iconst 0, 1) := by decide +kernel
theorem dX1_lead_8 : decode cX1_lead 8 = .ok (.istore_n 2, 1) := by decide +kernel
theorem dX1_lead_9 : decode cX1_lead 9 = .ok (.iload_n 2, 1) := by decide +kernel
theorem dX1_lead_10 : decode cX1_lead 10 = .ok (.aload_n 0, 1) := by decide +kernel
theorem dX1_lead_11 : decode cX1_lead 11 = .ok (.getfield 22, 3) := by decide +kernel
theorem dX1_lead_14 : decode cX1_lead 14 = .ok (.getfield 30, 3) := by decide +kernel
theorem dX1_lead_17 : decode cX1_lead 17 = .ok (.getfield 36, 3) := by decide +kernel
theorem dX1_lead_20 : decode cX1_lead 20 = .ok (.if_icmp .ge 24, 3) := by decide +kernel
theorem dX1_lead_23 : decode cX1_lead 23 = .ok (.aload_n 0, 1) := by decide +kernel
theorem dX1_lead_24 : decode cX1_lead 24 = .ok (.getfield 26, 3) := by decide +kernel
theorem dX1_lead_27 : decode cX1_lead 27 = .ok (.getfield 66, 3) := by decide +kernel
theorem dX1_lead_30 : decode cX1_lead 30 = .ok (.iload_n 2, 1) := by decide +kernel
theorem dX1_lead_31 : decode cX1_lead 31 = .ok (.aload_n 0, 1) := by decide +kernel
theorem dX1_lead_32 : decode cX1_lead 32 = .ok (.iload_n 1, 1) := by decide +kernel
theorem dX1_lead_33 : decode cX1_lead 33 = .ok (.iload_n 2, 1) := by decide +kernel
theorem dX1_lead_34 : decode cX1_lead 34 = .ok (.invokevirtual 58, 3) := by decide +kernel
theorem dX1_lead_37 : decode cX1_lead 37 = .ok (.iastore, 1) := by decide +kernel
theorem dX1_lead_38 : decode cX1_lead 38 = .ok (.iinc 2 1, 3) := by decide +kernel
theorem dX1_lead_41 : decode cX1_lead 41 = .ok (.goto (-32), 3) := by decide +kernel
theorem dX1_lead_44 : decode cX1_lead 44 = .ok (.return_, 1) := by decide +kernel
theorem dX1_know_0 : decode cX1_know 0 = .ok (.iload_n 1, 1) := by decide +kernel
theorem dX1_know_1 : decode cX1_know 1 = .ok (.invokestatic 69, 3) := by decide +kernel
theorem dX1_know_4 : decode cX1_know 4 = .ok (.ifCond .eq 60, 3) := by decide +kernel
theorem dX1_know_7 : decode cX1_know 7 = .ok (.aload_n 0, 1) := by decide +kernel
theorem dX1_know_8 : decode cX1_know 8 = .ok (.getfield 18, 3) := by decide +kernel
theorem dX1_know_11 : decode cX1_know 11 = .ok (.iload_n 1, 1) := by decide +kernel
theorem dX1_know_12 : decode cX1_know 12 = .ok (.baload, 1) := by decide +kernel
theorem dX1_know_13 : decode cX1_know 13 = .ok (.ifCond .ne 51, 3) := by decide +kernel
theorem dX1_know_16 : decode cX1_know 16 = .ok (.aload_n 0, 1) := by decide +kernel
theorem dX1_know_17 : decode cX1_know 17 = .ok (.iload_n 1, 1) := by decide +kernel
theorem dX1_know_18 : decode cX1_know 18 = .ok (.invokevirtual 73, 3) := by decide +kernel
theorem dX1_know_21 : decode cX1_know 21 = .ok (.aload_n 0, 1) := by decide +kernel
theorem dX1_know_22 : decode cX1_know 22 = .ok (.getfield 26, 3) := by decide +kernel
theorem dX1_know_25 : decode cX1_know 25 = .ok (.invokevirtual 77, 3) := by decide +kernel
theorem dX1_know_28 : decode cX1_know 28 = .ok (.aload_n 0, 1) := by decide +kernel
theorem dX1_know_29 : decode cX1_know 29 = .ok (.getfield 11, 3) := by decide +kernel
theorem dX1_know_32 : decode cX1_know 32 = .ok (.iload_n 1, 1) := by decide +kernel
theorem dX1_know_33 : decode cX1_know 33 = .ok (.aload_n 0, 1) := by decide +kernel
theorem dX1_know_34 : decode cX1_know 34 = .ok (.getfield 26, 3) := by decide +kernel
theorem dX1_know_37 : decode cX1_know 37 = .ok (.getfield 80, 3) := by decide +kernel
theorem dX1_know_40 : decode cX1_know 40 = .ok (.invokestatic 83, 3) := by decide +kernel
theorem dX1_know_43 : decode cX1_know 43 = .ok (.iastore, 1) := by decide +kernel
theorem dX1_know_44 : decode cX1_know 44 = .ok (.aload_n 0, 1) := by decide +kernel
theorem dX1_know_45 : decode cX1_know 45 = .ok (.getfield 15, 3) := by decide +kernel
theorem dX1_know_48 : decode cX1_know 48 = .ok (.iload_n 1, 1) := by decide +kernel
theorem dX1_know_49 : decode cX1_know 49 = .ok (.aload_n 0, 1) := by decide +kernel
theorem dX1_know_50 : decode cX1_know 50 = .ok (.getfield 26, 3) := by decide +kernel
theorem dX1_know_53 : decode cX1_know 53 = .ok (.invokevirtual 87, 3) := by decide +kernel
theorem dX1_know_56 : decode cX1_know 56 = .ok (.iastore, 1) := by decide +kernel
theorem dX1_know_57 : decode cX1_know 57 = .ok (.aload_n 0, 1) := by decide +kernel
theorem dX1_know_58 : decode cX1_know 58 = .ok (.getfield 18, 3) := by decide +kernel
theorem dX1_know_61 : decode cX1_know 61 = .ok (.iload_n 1, 1) := by decide +kernel
theorem dX1_know_62 : decode cX1_know 62 = .ok (.iconst 1, 1) := by decide +kernel
theorem dX1_know_63 : decode cX1_know 63 = .ok (.bastore, 1) := by decide +kernel
theorem dX1_know_64 : decode cX1_know 64 = .ok (.return_, 1) := by decide +kernel
theorem dX1_knowAll_0 : decode cX1_knowAll 0 = .ok (.aload_n 0, 1) := by decide +kernel
theorem dX1_knowAll_1 : decode cX1_knowAll 1 = .ok (.invokevirtual 90, 3) := by decide +kernel
theorem dX1_knowAll_4 : decode cX1_knowAll 4 = .ok (.istore_n 1, 1) := by decide +kernel
theorem dX1_knowAll_5 : decode cX1_knowAll 5 = .ok (.iconst 0, 1) := by decide +kernel
theorem dX1_knowAll_6 : decode cX1_knowAll 6 = .ok (.istore_n 2, 1) := by decide +kernel
theorem dX1_knowAll_7 : decode cX1_knowAll 7 = .ok (.iload_n 2, 1) := by decide +kernel
theorem dX1_knowAll_8 : decode cX1_knowAll 8 = .ok (.iload_n 1, 1) := by decide +kernel
theorem dX1_knowAll_9 : decode cX1_knowAll 9 = .ok (.if_icmp .ge 14, 3) := by decide +kernel
theorem dX1_knowAll_12 : decode cX1_knowAll 12 = .ok (.aload_n 0, 1) := by decide +kernel
theorem dX1_knowAll_13 : decode cX1_knowAll 13 = .ok (.iload_n 2, 1) := by decide +kernel
theorem dX1_knowAll_14 : decode cX1_knowAll 14 = .ok (.invokevirtual 93, 3) := by decide +kernel
theorem dX1_knowAll_17 : decode cX1_knowAll 17 = .ok (.iinc 2 1, 3) := by decide +kernel
theorem dX1_knowAll_20 : decode cX1_knowAll 20 = .ok (.goto (-13), 3) := by decide +kernel
theorem dX1_knowAll_23 : decode cX1_knowAll 23 = .ok (.return_, 1) := by decide +kernel
theorem dX1_knowWays_0 : decode cX1_knowWays 0 = .ok (.iconst 1, 1) := by decide +kernel
theorem dX1_knowWays_1 : decode cX1_knowWays 1 = .ok (.aload_n 0, 1) := by decide +kernel
theorem dX1_knowWays_2 : decode cX1_knowWays 2 = .ok (.getfield 22, 3) := by decide +kernel
theorem dX1_knowWays_5 : decode cX1_knowWays 5 = .ok (.getfield 30, 3) := by decide +kernel
theorem dX1_knowWays_8 : decode cX1_knowWays 8 = .ok (.getfield 36, 3) := by decide +kernel
theorem dX1_knowWays_11 : decode cX1_knowWays 11 = .ok (.ishl, 1) := by decide +kernel
theorem dX1_knowWays_12 : decode cX1_knowWays 12 = .ok (.istore_n 2, 1) := by decide +kernel
theorem dX1_knowWays_13 : decode cX1_knowWays 13 = .ok (.iconst 0, 1) := by decide +kernel
theorem dX1_knowWays_14 : decode cX1_knowWays 14 = .ok (.istore_n 3, 1) := by decide +kernel
theorem dX1_knowWays_15 : decode cX1_knowWays 15 = .ok (.iload_n 3, 1) := by decide +kernel
theorem dX1_knowWays_16 : decode cX1_knowWays 16 = .ok (.iload_n 2, 1) := by decide +kernel
theorem dX1_knowWays_17 : decode cX1_knowWays 17 = .ok (.if_icmp .ge 19, 3) := by decide +kernel
theorem dX1_knowWays_20 : decode cX1_knowWays 20 = .ok (.aload_n 0, 1) := by decide +kernel
theorem dX1_knowWays_21 : decode cX1_knowWays 21 = .ok (.aload_n 0, 1) := by decide +kernel
theorem dX1_knowWays_22 : decode cX1_knowWays 22 = .ok (.iload_n 1, 1) := by decide +kernel
theorem dX1_knowWays_23 : decode cX1_knowWays 23 = .ok (.iload_n 3, 1) := by decide +kernel
theorem dX1_knowWays_24 : decode cX1_knowWays 24 = .ok (.invokevirtual 96, 3) := by decide +kernel
theorem dX1_knowWays_27 : decode cX1_knowWays 27 = .ok (.invokevirtual 93, 3) := by decide +kernel
theorem dX1_knowWays_30 : decode cX1_knowWays 30 = .ok (.iinc 3 1, 3) := by decide +kernel
theorem dX1_knowWays_33 : decode cX1_knowWays 33 = .ok (.goto (-18), 3) := by decide +kernel
theorem dX1_knowWays_36 : decode cX1_knowWays 36 = .ok (.return_, 1) := by decide +kernel
theorem dX1_isCode_0 : decode cX1_isCode 0 = .ok (.iload_n 0, 1) := by decide +kernel
theorem dX1_isCode_1 : decode cX1_isCode 1 = .ok (.ifCond .lt 14, 3) := by decide +kernel
theorem dX1_isCode_4 : decode cX1_isCode 4 = .ok (.iload_n 0, 1) := by decide +kernel
theorem dX1_isCode_5 : decode cX1_isCode 5 = .ok (.sipush 343, 3) := by decide +kernel
theorem dX1_isCode_8 : decode cX1_isCode 8 = .ok (.if_icmp .ge 7, 3) := by decide +kernel
theorem dX1_isCode_11 : decode cX1_isCode 11 = .ok (.iconst 1, 1) := by decide +kernel
theorem dX1_isCode_12 : decode cX1_isCode 12 = .ok (.goto 4, 3) := by decide +kernel
theorem dX1_isCode_15 : decode cX1_isCode 15 = .ok (.iconst 0, 1) := by decide +kernel
theorem dX1_isCode_16 : decode cX1_isCode 16 = .ok (.ireturn, 1) := by decide +kernel
theorem dX1_broughtBy_0 : decode cX1_broughtBy 0 = .ok (.iload_n 1, 1) := by decide +kernel
theorem dX1_broughtBy_1 : decode cX1_broughtBy 1 = .ok (.invokestatic 69, 3) := by decide +kernel
theorem dX1_broughtBy_4 : decode cX1_broughtBy 4 = .ok (.ifCond .eq 12, 3) := by decide +kernel
theorem dX1_broughtBy_7 : decode cX1_broughtBy 7 = .ok (.aload_n 0, 1) := by decide +kernel
theorem dX1_broughtBy_8 : decode cX1_broughtBy 8 = .ok (.getfield 11, 3) := by decide +kernel
theorem dX1_broughtBy_11 : decode cX1_broughtBy 11 = .ok (.iload_n 1, 1) := by decide +kernel
theorem dX1_broughtBy_12 : decode cX1_broughtBy 12 = .ok (.iaload, 1) := by decide +kernel
theorem dX1_broughtBy_13 : decode cX1_broughtBy 13 = .ok (.goto 4, 3) := by decide +kernel
theorem dX1_broughtBy_16 : decode cX1_broughtBy 16 = .ok (.iconst 0, 1) := by decide +kernel
theorem dX1_broughtBy_17 : decode cX1_broughtBy 17 = .ok (.ireturn, 1) := by decide +kernel
theorem dX1_shortBy_0 : decode cX1_shortBy 0 = .ok (.iload_n 1, 1) := by decide +kernel
theorem dX1_shortBy_1 : decode cX1_shortBy 1 = .ok (.invokestatic 69, 3) := by decide +kernel
theorem dX1_shortBy_4 : decode cX1_shortBy 4 = .ok (.ifCond .eq 12, 3) := by decide +kernel
theorem dX1_shortBy_7 : decode cX1_shortBy 7 = .ok (.aload_n 0, 1) := by decide +kernel
theorem dX1_shortBy_8 : decode cX1_shortBy 8 = .ok (.getfield 15, 3) := by decide +kernel
theorem dX1_shortBy_11 : decode cX1_shortBy 11 = .ok (.iload_n 1, 1) := by decide +kernel
theorem dX1_shortBy_12 : decode cX1_shortBy 12 = .ok (.iaload, 1) := by decide +kernel
theorem dX1_shortBy_13 : decode cX1_shortBy 13 = .ok (.goto 4, 3) := by decide +kernel
theorem dX1_shortBy_16 : decode cX1_shortBy 16 = .ok (.iconst 0, 1) := by decide +kernel
theorem dX1_shortBy_17 : decode cX1_shortBy 17 = .ok (.ireturn, 1) := by decide +kernel
theorem dX1_safeCodes_0 : decode cX1_safeCodes 0 = .ok (.iconst 0, 1) := by decide +kernel
theorem dX1_safeCodes_1 : decode cX1_safeCodes 1 = .ok (.istore_n 1, 1) := by decide +kernel
theorem dX1_safeCodes_2 : decode cX1_safeCodes 2 = .ok (.aload_n 0, 1) := by decide +kernel
theorem dX1_safeCodes_3 : decode cX1_safeCodes 3 = .ok (.invokevirtual 90, 3) := by decide +kernel
theorem dX1_safeCodes_6 : decode cX1_safeCodes 6 = .ok (.istore_n 2, 1) := by decide +kernel
theorem dX1_safeCodes_7 : decode cX1_safeCodes 7 = .ok (.iconst 0, 1) := by decide +kernel
theorem dX1_safeCodes_8 : decode cX1_safeCodes 8 = .ok (.istore_n 3, 1) := by decide +kernel
theorem dX1_safeCodes_9 : decode cX1_safeCodes 9 = .ok (.iload_n 3, 1) := by decide +kernel
theorem dX1_safeCodes_10 : decode cX1_safeCodes 10 = .ok (.iload_n 2, 1) := by decide +kernel
theorem dX1_safeCodes_11 : decode cX1_safeCodes 11 = .ok (.if_icmp .ge 20, 3) := by decide +kernel
theorem dX1_safeCodes_14 : decode cX1_safeCodes 14 = .ok (.aload_n 0, 1) := by decide +kernel
theorem dX1_safeCodes_15 : decode cX1_safeCodes 15 = .ok (.iload_n 3, 1) := by decide +kernel
theorem dX1_safeCodes_16 : decode cX1_safeCodes 16 = .ok (.invokevirtual 99, 3) := by decide +kernel
theorem dX1_safeCodes_19 : decode cX1_safeCodes 19 = .ok (.ifCond .ne 6, 3) := by decide +kernel
theorem dX1_safeCodes_22 : decode cX1_safeCodes 22 = .ok (.iinc 1 1, 3) := by decide +kernel
theorem dX1_safeCodes_25 : decode cX1_safeCodes 25 = .ok (.iinc 3 1, 3) := by decide +kernel
theorem dX1_safeCodes_28 : decode cX1_safeCodes 28 = .ok (.goto (-19), 3) := by decide +kernel
theorem dX1_safeCodes_31 : decode cX1_safeCodes 31 = .ok (.iload_n 1, 1) := by decide +kernel
theorem dX1_safeCodes_32 : decode cX1_safeCodes 32 = .ok (.ireturn, 1) := by decide +kernel
theorem dX1_bestCode_0 : decode cX1_bestCode 0 = .ok (.iconst (-1), 1) := by decide +kernel
theorem dX1_bestCode_1 : decode cX1_bestCode 1 = .ok (.istore_n 1, 1) := by decide +kernel
theorem dX1_bestCode_2 : decode cX1_bestCode 2 = .ok (.aload_n 0, 1) := by decide +kernel
theorem dX1_bestCode_3 : decode cX1_bestCode 3 = .ok (.invokevirtual 90, 3) := by decide +kernel
theorem dX1_bestCode_6 : decode cX1_bestCode 6 = .ok (.istore_n 2, 1) := by decide +kernel
theorem dX1_bestCode_7 : decode cX1_bestCode 7 = .ok (.iconst 0, 1) := by decide +kernel
theorem dX1_bestCode_8 : decode cX1_bestCode 8 = .ok (.istore_n 3, 1) := by decide +kernel
theorem dX1_bestCode_9 : decode cX1_bestCode 9 = .ok (.iload_n 3, 1) := by decide +kernel
theorem dX1_bestCode_10 : decode cX1_bestCode 10 = .ok (.iload_n 2, 1) := by decide +kernel
theorem dX1_bestCode_11 : decode cX1_bestCode 11 = .ok (.if_icmp .ge 37, 3) := by decide +kernel
theorem dX1_bestCode_14 : decode cX1_bestCode 14 = .ok (.aload_n 0, 1) := by decide +kernel
theorem dX1_bestCode_15 : decode cX1_bestCode 15 = .ok (.iload_n 3, 1) := by decide +kernel
theorem dX1_bestCode_16 : decode cX1_bestCode 16 = .ok (.invokevirtual 99, 3) := by decide +kernel
theorem dX1_bestCode_19 : decode cX1_bestCode 19 = .ok (.ifCond .ne 23, 3) := by decide +kernel
theorem dX1_bestCode_22 : decode cX1_bestCode 22 = .ok (.iload_n 1, 1) := by decide +kernel
theorem dX1_bestCode_23 : decode cX1_bestCode 23 = .ok (.iconst (-1), 1) := by decide +kernel
theorem dX1_bestCode_24 : decode cX1_bestCode 24 = .ok (.if_icmp .eq 16, 3) := by decide +kernel
theorem dX1_bestCode_27 : decode cX1_bestCode 27 = .ok (.aload_n 0, 1) := by decide +kernel
theorem dX1_bestCode_28 : decode cX1_bestCode 28 = .ok (.iload_n 3, 1) := by decide +kernel
theorem dX1_bestCode_29 : decode cX1_bestCode 29 = .ok (.invokevirtual 103, 3) := by decide +kernel
theorem dX1_bestCode_32 : decode cX1_bestCode 32 = .ok (.aload_n 0, 1) := by decide +kernel
theorem dX1_bestCode_33 : decode cX1_bestCode 33 = .ok (.iload_n 1, 1) := by decide +kernel
theorem dX1_bestCode_34 : decode cX1_bestCode 34 = .ok (.invokevirtual 103, 3) := by decide +kernel
theorem dX1_bestCode_37 : decode cX1_bestCode 37 = .ok (.if_icmp .le 5, 3) := by decide +kernel
theorem dX1_bestCode_40 : decode cX1_bestCode 40 = .ok (.iload_n 3, 1) := by decide +kernel
theorem dX1_bestCode_41 : decode cX1_bestCode 41 = .ok (.istore_n 1, 1) := by decide +kernel
theorem dX1_bestCode_42 : decode cX1_bestCode 42 = .ok (.iinc 3 1, 3) := by decide +kernel
theorem dX1_bestCode_45 : decode cX1_bestCode 45 = .ok (.goto (-36), 3) := by decide +kernel
theorem dX1_bestCode_48 : decode cX1_bestCode 48 = .ok (.iload_n 1, 1) := by decide +kernel
theorem dX1_bestCode_49 : decode cX1_bestCode 49 = .ok (.ireturn, 1) := by decide +kernel
theorem dX1_wiseCode_0 : decode cX1_wiseCode 0 = .ok (.iconst 0, 1) := by decide +kernel
theorem dX1_wiseCode_1 : decode cX1_wiseCode 1 = .ok (.istore_n 1, 1) := by decide +kernel
theorem dX1_wiseCode_2 : decode cX1_wiseCode 2 = .ok (.aload_n 0, 1) := by decide +kernel
theorem dX1_wiseCode_3 : decode cX1_wiseCode 3 = .ok (.iconst 0, 1) := by decide +kernel
theorem dX1_wiseCode_4 : decode cX1_wiseCode 4 = .ok (.invokevirtual 106, 3) := by decide +kernel
theorem dX1_wiseCode_7 : decode cX1_wiseCode 7 = .ok (.lstore_n 2, 1) := by decide +kernel
theorem dX1_wiseCode_8 : decode cX1_wiseCode 8 = .ok (.aload_n 0, 1) := by decide +kernel
theorem dX1_wiseCode_9 : decode cX1_wiseCode 9 = .ok (.invokevirtual 90, 3) := by decide +kernel
theorem dX1_wiseCode_12 : decode cX1_wiseCode 12 = .ok (.istore 4, 2) := by decide +kernel
theorem dX1_wiseCode_14 : decode cX1_wiseCode 14 = .ok (.iconst 1, 1) := by decide +kernel
theorem dX1_wiseCode_15 : decode cX1_wiseCode 15 = .ok (.istore 5, 2) := by decide +kernel
theorem dX1_wiseCode_17 : decode cX1_wiseCode 17 = .ok (.iload 5, 2) := by decide +kernel
theorem dX1_wiseCode_19 : decode cX1_wiseCode 19 = .ok (.iload 4, 2) := by decide +kernel
theorem dX1_wiseCode_21 : decode cX1_wiseCode 21 = .ok (.if_icmp .ge 30, 3) := by decide +kernel
theorem dX1_wiseCode_24 : decode cX1_wiseCode 24 = .ok (.aload_n 0, 1) := by decide +kernel
theorem dX1_wiseCode_25 : decode cX1_wiseCode 25 = .ok (.iload 5, 2) := by decide +kernel
theorem dX1_wiseCode_27 : decode cX1_wiseCode 27 = .ok (.invokevirtual 106, 3) := by decide +kernel
theorem dX1_wiseCode_30 : decode cX1_wiseCode 30 = .ok (.lstore 6, 2) := by decide +kernel
theorem dX1_wiseCode_32 : decode cX1_wiseCode 32 = .ok (.lload 6, 2) := by decide +kernel
theorem dX1_wiseCode_34 : decode cX1_wiseCode 34 = .ok (.lload_n 2, 1) := by decide +kernel
theorem dX1_wiseCode_35 : decode cX1_wiseCode 35 = .ok (.lcmp, 1) := by decide +kernel
theorem dX1_wiseCode_36 : decode cX1_wiseCode 36 = .ok (.ifCond .le 9, 3) := by decide +kernel
theorem dX1_wiseCode_39 : decode cX1_wiseCode 39 = .ok (.lload 6, 2) := by decide +kernel
theorem dX1_wiseCode_41 : decode cX1_wiseCode 41 = .ok (.lstore_n 2, 1) := by decide +kernel
theorem dX1_wiseCode_42 : decode cX1_wiseCode 42 = .ok (.iload 5, 2) := by decide +kernel
theorem dX1_wiseCode_44 : decode cX1_wiseCode 44 = .ok (.istore_n 1, 1) := by decide +kernel
theorem dX1_wiseCode_45 : decode cX1_wiseCode 45 = .ok (.iinc 5 1, 3) := by decide +kernel
theorem dX1_wiseCode_48 : decode cX1_wiseCode 48 = .ok (.goto (-31), 3) := by decide +kernel
theorem dX1_wiseCode_51 : decode cX1_wiseCode 51 = .ok (.iload_n 1, 1) := by decide +kernel
theorem dX1_wiseCode_52 : decode cX1_wiseCode 52 = .ok (.ireturn, 1) := by decide +kernel
theorem dX1_hopeAbove_0 : decode cX1_hopeAbove 0 = .ok (.lconst 0, 1) := by decide +kernel
theorem dX1_hopeAbove_1 : decode cX1_hopeAbove 1 = .ok (.lstore_n 2, 1) := by decide +kernel
theorem dX1_hopeAbove_2 : decode cX1_hopeAbove 2 = .ok (.iconst 1, 1) := by decide +kernel
theorem dX1_hopeAbove_3 : decode cX1_hopeAbove 3 = .ok (.aload_n 0, 1) := by decide +kernel
theorem dX1_hopeAbove_4 : decode cX1_hopeAbove 4 = .ok (.getfield 22, 3) := by decide +kernel
theorem dX1_hopeAbove_7 : decode cX1_hopeAbove 7 = .ok (.getfield 30, 3) := by decide +kernel
theorem dX1_hopeAbove_10 : decode cX1_hopeAbove 10 = .ok (.getfield 36, 3) := by decide +kernel
theorem dX1_hopeAbove_13 : decode cX1_hopeAbove 13 = .ok (.ishl, 1) := by decide +kernel
theorem dX1_hopeAbove_14 : decode cX1_hopeAbove 14 = .ok (.istore 4, 2) := by decide +kernel
theorem dX1_hopeAbove_16 : decode cX1_hopeAbove 16 = .ok (.iconst 0, 1) := by decide +kernel
theorem dX1_hopeAbove_17 : decode cX1_hopeAbove 17 = .ok (.istore 5, 2) := by decide +kernel
theorem dX1_hopeAbove_19 : decode cX1_hopeAbove 19 = .ok (.iload 5, 2) := by decide +kernel
theorem dX1_hopeAbove_21 : decode cX1_hopeAbove 21 = .ok (.iload 4, 2) := by decide +kernel
theorem dX1_hopeAbove_23 : decode cX1_hopeAbove 23 = .ok (.if_icmp .ge 42, 3) := by decide +kernel
theorem dX1_hopeAbove_26 : decode cX1_hopeAbove 26 = .ok (.aload_n 0, 1) := by decide +kernel
theorem dX1_hopeAbove_27 : decode cX1_hopeAbove 27 = .ok (.iload_n 1, 1) := by decide +kernel
theorem dX1_hopeAbove_28 : decode cX1_hopeAbove 28 = .ok (.iload 5, 2) := by decide +kernel
theorem dX1_hopeAbove_30 : decode cX1_hopeAbove 30 = .ok (.invokevirtual 96, 3) := by decide +kernel
theorem dX1_hopeAbove_33 : decode cX1_hopeAbove 33 = .ok (.istore 6, 2) := by decide +kernel
theorem dX1_hopeAbove_35 : decode cX1_hopeAbove 35 = .ok (.lload_n 2, 1) := by decide +kernel
theorem dX1_hopeAbove_36 : decode cX1_hopeAbove 36 = .ok (.aload_n 0, 1) := by decide +kernel
theorem dX1_hopeAbove_37 : decode cX1_hopeAbove 37 = .ok (.iload 5, 2) := by decide +kernel
theorem dX1_hopeAbove_39 : decode cX1_hopeAbove 39 = .ok (.invokevirtual 110, 3) := by decide +kernel
theorem dX1_hopeAbove_42 : decode cX1_hopeAbove 42 = .ok (.aload_n 0, 1) := by decide +kernel
theorem dX1_hopeAbove_43 : decode cX1_hopeAbove 43 = .ok (.iload 6, 2) := by decide +kernel
theorem dX1_hopeAbove_45 : decode cX1_hopeAbove 45 = .ok (.invokevirtual 103, 3) := by decide +kernel
theorem dX1_hopeAbove_48 : decode cX1_hopeAbove 48 = .ok (.aload_n 0, 1) := by decide +kernel
theorem dX1_hopeAbove_49 : decode cX1_hopeAbove 49 = .ok (.iload 6, 2) := by decide +kernel
theorem dX1_hopeAbove_51 : decode cX1_hopeAbove 51 = .ok (.invokevirtual 99, 3) := by decide +kernel
theorem dX1_hopeAbove_54 : decode cX1_hopeAbove 54 = .ok (.isub, 1) := by decide +kernel
theorem dX1_hopeAbove_55 : decode cX1_hopeAbove 55 = .ok (.i2l, 1) := by decide +kernel
theorem dX1_hopeAbove_56 : decode cX1_hopeAbove 56 = .ok (.lmul, 1) := by decide +kernel
theorem dX1_hopeAbove_57 : decode cX1_hopeAbove 57 = .ok (.ladd, 1) := by decide +kernel
theorem dX1_hopeAbove_58 : decode cX1_hopeAbove 58 = .ok (.lstore_n 2, 1) := by decide +kernel
theorem dX1_hopeAbove_59 : decode cX1_hopeAbove 59 = .ok (.iinc 5 1, 3) := by decide +kernel
theorem dX1_hopeAbove_62 : decode cX1_hopeAbove 62 = .ok (.goto (-43), 3) := by decide +kernel
theorem dX1_hopeAbove_65 : decode cX1_hopeAbove 65 = .ok (.lload_n 2, 1) := by decide +kernel
theorem dX1_hopeAbove_66 : decode cX1_hopeAbove 66 = .ok (.lreturn, 1) := by decide +kernel
theorem dX1_hopeBelow_0 : decode cX1_hopeBelow 0 = .ok (.lconst 1, 1) := by decide +kernel
theorem dX1_hopeBelow_1 : decode cX1_hopeBelow 1 = .ok (.lstore_n 1, 1) := by decide +kernel
theorem dX1_hopeBelow_2 : decode cX1_hopeBelow 2 = .ok (.iconst 0, 1) := by decide +kernel
theorem dX1_hopeBelow_3 : decode cX1_hopeBelow 3 = .ok (.istore_n 3, 1) := by decide +kernel
theorem dX1_hopeBelow_4 : decode cX1_hopeBelow 4 = .ok (.iload_n 3, 1) := by decide +kernel
theorem dX1_hopeBelow_5 : decode cX1_hopeBelow 5 = .ok (.aload_n 0, 1) := by decide +kernel
theorem dX1_hopeBelow_6 : decode cX1_hopeBelow 6 = .ok (.getfield 22, 3) := by decide +kernel
theorem dX1_hopeBelow_9 : decode cX1_hopeBelow 9 = .ok (.getfield 30, 3) := by decide +kernel
theorem dX1_hopeBelow_12 : decode cX1_hopeBelow 12 = .ok (.getfield 36, 3) := by decide +kernel
theorem dX1_hopeBelow_15 : decode cX1_hopeBelow 15 = .ok (.if_icmp .ge 15, 3) := by decide +kernel
theorem dX1_hopeBelow_18 : decode cX1_hopeBelow 18 = .ok (.lload_n 1, 1) := by decide +kernel
theorem dX1_hopeBelow_19 : decode cX1_hopeBelow 19 = .ok (.ldc2_w 113, 3) := by decide +kernel
theorem dX1_hopeBelow_22 : decode cX1_hopeBelow 22 = .ok (.lmul, 1) := by decide +kernel
theorem dX1_hopeBelow_23 : decode cX1_hopeBelow 23 = .ok (.lstore_n 1, 1) := by decide +kernel
theorem dX1_hopeBelow_24 : decode cX1_hopeBelow 24 = .ok (.iinc 3 1, 3) := by decide +kernel
theorem dX1_hopeBelow_27 : decode cX1_hopeBelow 27 = .ok (.goto (-23), 3) := by decide +kernel
theorem dX1_hopeBelow_30 : decode cX1_hopeBelow 30 = .ok (.lload_n 1, 1) := by decide +kernel
theorem dX1_hopeBelow_31 : decode cX1_hopeBelow 31 = .ok (.lreturn, 1) := by decide +kernel
theorem dX1_chance_0 : decode cX1_chance 0 = .ok (.lconst 1, 1) := by decide +kernel
theorem dX1_chance_1 : decode cX1_chance 1 = .ok (.lstore_n 2, 1) := by decide +kernel
theorem dX1_chance_2 : decode cX1_chance 2 = .ok (.iconst 0, 1) := by decide +kernel
theorem dX1_chance_3 : decode cX1_chance 3 = .ok (.istore 4, 2) := by decide +kernel
theorem dX1_chance_5 : decode cX1_chance 5 = .ok (.iload 4, 2) := by decide +kernel
theorem dX1_chance_7 : decode cX1_chance 7 = .ok (.aload_n 0, 1) := by decide +kernel
theorem dX1_chance_8 : decode cX1_chance 8 = .ok (.getfield 22, 3) := by decide +kernel
theorem dX1_chance_11 : decode cX1_chance 11 = .ok (.getfield 30, 3) := by decide +kernel
theorem dX1_chance_14 : decode cX1_chance 14 = .ok (.getfield 36, 3) := by decide +kernel
theorem dX1_chance_17 : decode cX1_chance 17 = .ok (.if_icmp .ge 49, 3) := by decide +kernel
theorem dX1_chance_20 : decode cX1_chance 20 = .ok (.aload_n 0, 1) := by decide +kernel
theorem dX1_chance_21 : decode cX1_chance 21 = .ok (.getfield 22, 3) := by decide +kernel
theorem dX1_chance_24 : decode cX1_chance 24 = .ok (.getfield 30, 3) := by decide +kernel
theorem dX1_chance_27 : decode cX1_chance 27 = .ok (.iload 4, 2) := by decide +kernel
theorem dX1_chance_29 : decode cX1_chance 29 = .ok (.iconst 2, 1) := by decide +kernel
theorem dX1_chance_30 : decode cX1_chance 30 = .ok (.invokevirtual 55, 3) := by decide +kernel
theorem dX1_chance_33 : decode cX1_chance 33 = .ok (.istore 5, 2) := by decide +kernel
theorem dX1_chance_35 : decode cX1_chance 35 = .ok (.lload_n 2, 1) := by decide +kernel
theorem dX1_chance_36 : decode cX1_chance 36 = .ok (.iload_n 1, 1) := by decide +kernel
theorem dX1_chance_37 : decode cX1_chance 37 = .ok (.iload 4, 2) := by decide +kernel
theorem dX1_chance_39 : decode cX1_chance 39 = .ok (.ishr, 1) := by decide +kernel
theorem dX1_chance_40 : decode cX1_chance 40 = .ok (.iconst 1, 1) := by decide +kernel
theorem dX1_chance_41 : decode cX1_chance 41 = .ok (.iand, 1) := by decide +kernel
theorem dX1_chance_42 : decode cX1_chance 42 = .ok (.iconst 1, 1) := by decide +kernel
theorem dX1_chance_43 : decode cX1_chance 43 = .ok (.if_icmp .ne 9, 3) := by decide +kernel
theorem dX1_chance_46 : decode cX1_chance 46 = .ok (.iload 5, 2) := by decide +kernel
theorem dX1_chance_48 : decode cX1_chance 48 = .ok (.i2l, 1) := by decide +kernel
theorem dX1_chance_49 : decode cX1_chance 49 = .ok (.goto 9, 3) := by decide +kernel
theorem dX1_chance_52 : decode cX1_chance 52 = .ok (.bipush 100, 2) := by decide +kernel
theorem dX1_chance_54 : decode cX1_chance 54 = .ok (.iload 5, 2) := by decide +kernel
theorem dX1_chance_56 : decode cX1_chance 56 = .ok (.isub, 1) := by decide +kernel
theorem dX1_chance_57 : decode cX1_chance 57 = .ok (.i2l, 1) := by decide +kernel
theorem dX1_chance_58 : decode cX1_chance 58 = .ok (.lmul, 1) := by decide +kernel
theorem dX1_chance_59 : decode cX1_chance 59 = .ok (.lstore_n 2, 1) := by decide +kernel
theorem dX1_chance_60 : decode cX1_chance 60 = .ok (.iinc 4 1, 3) := by decide +kernel
theorem dX1_chance_63 : decode cX1_chance 63 = .ok (.goto (-58), 3) := by decide +kernel
theorem dX1_chance_66 : decode cX1_chance 66 = .ok (.lload_n 2, 1) := by decide +kernel
theorem dX1_chance_67 : decode cX1_chance 67 = .ok (.lreturn, 1) := by decide +kernel
theorem dX11_init_0 : decode cX11_init 0 = .ok (.aload_n 0, 1) := by decide +kernel
theorem dX11_init_1 : decode cX11_init 1 = .ok (.invokespecial 3, 3) := by decide +kernel
theorem dX11_init_4 : decode cX11_init 4 = .ok (.aload_n 0, 1) := by decide +kernel
theorem dX11_init_5 : decode cX11_init 5 = .ok (.bipush 36, 2) := by decide +kernel
theorem dX11_init_7 : decode cX11_init 7 = .ok (.newarray .int, 2) := by decide +kernel
theorem dX11_init_9 : decode cX11_init 9 = .ok (.putfield 9, 3) := by decide +kernel
theorem dX11_init_12 : decode cX11_init 12 = .ok (.return_, 1) := by decide +kernel
theorem dX11_has_0 : decode cX11_has 0 = .ok (.iload_n 0, 1) := by decide +kernel
theorem dX11_has_1 : decode cX11_has 1 = .ok (.ifCond .lt 23, 3) := by decide +kernel
theorem dX11_has_4 : decode cX11_has 4 = .ok (.iload_n 0, 1) := by decide +kernel
theorem dX11_has_5 : decode cX11_has 5 = .ok (.bipush 6, 2) := by decide +kernel
theorem dX11_has_7 : decode cX11_has 7 = .ok (.if_icmp .ge 17, 3) := by decide +kernel
theorem dX11_has_10 : decode cX11_has 10 = .ok (.iload_n 1, 1) := by decide +kernel
theorem dX11_has_11 : decode cX11_has 11 = .ok (.ifCond .lt 13, 3) := by decide +kernel
theorem dX11_has_14 : decode cX11_has 14 = .ok (.iload_n 1, 1) := by decide +kernel
theorem dX11_has_15 : decode cX11_has 15 = .ok (.bipush 6, 2) := by decide +kernel
theorem dX11_has_17 : decode cX11_has 17 = .ok (.if_icmp .ge 7, 3) := by decide +kernel
theorem dX11_has_20 : decode cX11_has 20 = .ok (.iconst 1, 1) := by decide +kernel
theorem dX11_has_21 : decode cX11_has 21 = .ok (.goto 4, 3) := by decide +kernel
theorem dX11_has_24 : decode cX11_has 24 = .ok (.iconst 0, 1) := by decide +kernel
theorem dX11_has_25 : decode cX11_has 25 = .ok (.ireturn, 1) := by decide +kernel
theorem dX11_at_0 : decode cX11_at 0 = .ok (.iload_n 1, 1) := by decide +kernel
theorem dX11_at_1 : decode cX11_at 1 = .ok (.iload_n 2, 1) := by decide +kernel
theorem dX11_at_2 : decode cX11_at 2 = .ok (.invokestatic 15, 3) := by decide +kernel
theorem dX11_at_5 : decode cX11_at 5 = .ok (.ifCond .eq 17, 3) := by decide +kernel
theorem dX11_at_8 : decode cX11_at 8 = .ok (.aload_n 0, 1) := by decide +kernel
theorem dX11_at_9 : decode cX11_at 9 = .ok (.getfield 9, 3) := by decide +kernel
theorem dX11_at_12 : decode cX11_at 12 = .ok (.iload_n 1, 1) := by decide +kernel
theorem dX11_at_13 : decode cX11_at 13 = .ok (.bipush 6, 2) := by decide +kernel
theorem dX11_at_15 : decode cX11_at 15 = .ok (.imul, 1) := by decide +kernel
theorem dX11_at_16 : decode cX11_at 16 = .ok (.iload_n 2, 1) := by decide +kernel
theorem dX11_at_17 : decode cX11_at 17 = .ok (.iadd, 1) := by decide +kernel
theorem dX11_at_18 : decode cX11_at 18 = .ok (.iaload, 1) := by decide +kernel
theorem dX11_at_19 : decode cX11_at 19 = .ok (.goto 4, 3) := by decide +kernel
theorem dX11_at_22 : decode cX11_at 22 = .ok (.iconst 0, 1) := by decide +kernel
theorem dX11_at_23 : decode cX11_at 23 = .ok (.ireturn, 1) := by decide +kernel
theorem dX11_put_0 : decode cX11_put 0 = .ok (.iload_n 1, 1) := by decide +kernel
theorem dX11_put_1 : decode cX11_put 1 = .ok (.iload_n 2, 1) := by decide +kernel
theorem dX11_put_2 : decode cX11_put 2 = .ok (.invokestatic 15, 3) := by decide +kernel
theorem dX11_put_5 : decode cX11_put 5 = .ok (.ifCond .eq 15, 3) := by decide +kernel
theorem dX11_put_8 : decode cX11_put 8 = .ok (.aload_n 0, 1) := by decide +kernel
theorem dX11_put_9 : decode cX11_put 9 = .ok (.getfield 9, 3) := by decide +kernel
theorem dX11_put_12 : decode cX11_put 12 = .ok (.iload_n 1, 1) := by decide +kernel
theorem dX11_put_13 : decode cX11_put 13 = .ok (.bipush 6, 2) := by decide +kernel
theorem dX11_put_15 : decode cX11_put 15 = .ok (.imul, 1) := by decide +kernel
theorem dX11_put_16 : decode cX11_put 16 = .ok (.iload_n 2, 1) := by decide +kernel
theorem dX11_put_17 : decode cX11_put 17 = .ok (.iadd, 1) := by decide +kernel
theorem dX11_put_18 : decode cX11_put 18 = .ok (.iload_n 3, 1) := by decide +kernel
theorem dX11_put_19 : decode cX11_put 19 = .ok (.iastore, 1) := by decide +kernel
theorem dX11_put_20 : decode cX11_put 20 = .ok (.return_, 1) := by decide +kernel
theorem dX11_add_0 : decode cX11_add 0 = .ok (.aload_n 0, 1) := by decide +kernel
theorem dX11_add_1 : decode cX11_add 1 = .ok (.iload_n 1, 1) := by decide +kernel
theorem dX11_add_2 : decode cX11_add 2 = .ok (.iload_n 2, 1) := by decide +kernel
theorem dX11_add_3 : decode cX11_add 3 = .ok (.aload_n 0, 1) := by decide +kernel
theorem dX11_add_4 : decode cX11_add 4 = .ok (.iload_n 1, 1) := by decide +kernel
theorem dX11_add_5 : decode cX11_add 5 = .ok (.iload_n 2, 1) := by decide +kernel
theorem dX11_add_6 : decode cX11_add 6 = .ok (.invokevirtual 19, 3) := by decide +kernel
theorem dX11_add_9 : decode cX11_add 9 = .ok (.iload_n 3, 1) := by decide +kernel
theorem dX11_add_10 : decode cX11_add 10 = .ok (.iadd, 1) := by decide +kernel
theorem dX11_add_11 : decode cX11_add 11 = .ok (.invokevirtual 23, 3) := by decide +kernel
theorem dX11_add_14 : decode cX11_add 14 = .ok (.return_, 1) := by decide +kernel
theorem dX11_inAll_0 : decode cX11_inAll 0 = .ok (.aload_n 0, 1) := by decide +kernel
theorem dX11_inAll_1 : decode cX11_inAll 1 = .ok (.getfield 9, 3) := by decide +kernel
theorem dX11_inAll_4 : decode cX11_inAll 4 = .ok (.invokestatic 27, 3) := by decide +kernel
theorem dX11_inAll_7 : decode cX11_inAll 7 = .ok (.ireturn, 1) := by decide +kernel
theorem dX11_clear_0 : decode cX11_clear 0 = .ok (.aload_n 0, 1) := by decide +kernel
theorem dX11_clear_1 : decode cX11_clear 1 = .ok (.getfield 9, 3) := by decide +kernel
theorem dX11_clear_4 : decode cX11_clear 4 = .ok (.iconst 0, 1) := by decide +kernel
theorem dX11_clear_5 : decode cX11_clear 5 = .ok (.invokestatic 31, 3) := by decide +kernel
theorem dX11_clear_8 : decode cX11_clear 8 = .ok (.return_, 1) := by decide +kernel
theorem dX11_copy_0 : decode cX11_copy 0 = .ok (.aload_n 1, 1) := by decide +kernel
theorem dX11_copy_1 : decode cX11_copy 1 = .ok (.getfield 9, 3) := by decide +kernel
theorem dX11_copy_4 : decode cX11_copy 4 = .ok (.iconst 0, 1) := by decide +kernel
theorem dX11_copy_5 : decode cX11_copy 5 = .ok (.aload_n 0, 1) := by decide +kernel
theorem dX11_copy_6 : decode cX11_copy 6 = .ok (.getfield 9, 3) := by decide +kernel
theorem dX11_copy_9 : decode cX11_copy 9 = .ok (.iconst 0, 1) := by decide +kernel
theorem dX11_copy_10 : decode cX11_copy 10 = .ok (.aload_n 0, 1) := by decide +kernel
theorem dX11_copy_11 : decode cX11_copy 11 = .ok (.getfield 9, 3) := by decide +kernel
theorem dX11_copy_14 : decode cX11_copy 14 = .ok (.arraylength, 1) := by decide +kernel
theorem dX11_copy_15 : decode cX11_copy 15 = .ok (.invokestatic 37, 3) := by decide +kernel
theorem dX11_copy_18 : decode cX11_copy 18 = .ok (.return_, 1) := by decide +kernel
theorem dX2_init_0 : decode cX2_init 0 = .ok (.aload_n 0, 1) := by decide +kernel
theorem dX2_init_1 : decode cX2_init 1 = .ok (.invokespecial 3, 3) := by decide +kernel
theorem dX2_init_4 : decode cX2_init 4 = .ok (.aload_n 0, 1) := by decide +kernel
theorem dX2_init_5 : decode cX2_init 5 = .ok (.new 9, 3) := by decide +kernel
theorem dX2_init_8 : decode cX2_init 8 = .ok (.dup, 1) := by decide +kernel
theorem dX2_init_9 : decode cX2_init 9 = .ok (.bipush 6, 2) := by decide +kernel
theorem dX2_init_11 : decode cX2_init 11 = .ok (.iconst 5, 1) := by decide +kernel
theorem dX2_init_12 : decode cX2_init 12 = .ok (.invokespecial 11, 3) := by decide +kernel
theorem dX2_init_15 : decode cX2_init 15 = .ok (.putfield 14, 3) := by decide +kernel
theorem dX2_init_18 : decode cX2_init 18 = .ok (.aload_n 0, 1) := by decide +kernel
theorem dX2_init_19 : decode cX2_init 19 = .ok (.new 9, 3) := by decide +kernel
theorem dX2_init_22 : decode cX2_init 22 = .ok (.dup, 1) := by decide +kernel
theorem dX2_init_23 : decode cX2_init 23 = .ok (.bipush 8, 2) := by decide +kernel
theorem dX2_init_25 : decode cX2_init 25 = .ok (.iconst 5, 1) := by decide +kernel
theorem dX2_init_26 : decode cX2_init 26 = .ok (.invokespecial 11, 3) := by decide +kernel
theorem dX2_init_29 : decode cX2_init 29 = .ok (.putfield 20, 3) := by decide +kernel
theorem dX2_init_32 : decode cX2_init 32 = .ok (.aload_n 0, 1) := by decide +kernel
theorem dX2_init_33 : decode cX2_init 33 = .ok (.new 9, 3) := by decide +kernel
theorem dX2_init_36 : decode cX2_init 36 = .ok (.dup, 1) := by decide +kernel
theorem dX2_init_37 : decode cX2_init 37 = .ok (.iconst 3, 1) := by decide +kernel
theorem dX2_init_38 : decode cX2_init 38 = .ok (.iconst 4, 1) := by decide +kernel
theorem dX2_init_39 : decode cX2_init 39 = .ok (.invokespecial 11, 3) := by decide +kernel
theorem dX2_init_42 : decode cX2_init 42 = .ok (.putfield 23, 3) := by decide +kernel
theorem dX2_init_45 : decode cX2_init 45 = .ok (.aload_n 0, 1) := by decide +kernel
theorem dX2_init_46 : decode cX2_init 46 = .ok (.new 9, 3) := by decide +kernel
theorem dX2_init_49 : decode cX2_init 49 = .ok (.dup, 1) := by decide +kernel
theorem dX2_init_50 : decode cX2_init 50 = .ok (.bipush 8, 2) := by decide +kernel
theorem dX2_init_52 : decode cX2_init 52 = .ok (.iconst 5, 1) := by decide +kernel
theorem dX2_init_53 : decode cX2_init 53 = .ok (.invokespecial 11, 3) := by decide +kernel
theorem dX2_init_56 : decode cX2_init 56 = .ok (.putfield 26, 3) := by decide +kernel
theorem dX2_init_59 : decode cX2_init 59 = .ok (.aload_n 0, 1) := by decide +kernel
theorem dX2_init_60 : decode cX2_init 60 = .ok (.bipush 30, 2) := by decide +kernel
theorem dX2_init_62 : decode cX2_init 62 = .ok (.newarray .int, 2) := by decide +kernel
theorem dX2_init_64 : decode cX2_init 64 = .ok (.putfield 29, 3) := by decide +kernel
theorem dX2_init_67 : decode cX2_init 67 = .ok (.return_, 1) := by decide +kernel
theorem dX2_clear_0 : decode cX2_clear 0 = .ok (.aload_n 0, 1) := by decide +kernel
theorem dX2_clear_1 : decode cX2_clear 1 = .ok (.getfield 14, 3) := by decide +kernel
theorem dX2_clear_4 : decode cX2_clear 4 = .ok (.iconst 0, 1) := by decide +kernel
theorem dX2_clear_5 : decode cX2_clear 5 = .ok (.putfield 33, 3) := by decide +kernel
theorem dX2_clear_8 : decode cX2_clear 8 = .ok (.aload_n 0, 1) := by decide +kernel
theorem dX2_clear_9 : decode cX2_clear 9 = .ok (.getfield 20, 3) := by decide +kernel
theorem dX2_clear_12 : decode cX2_clear 12 = .ok (.iconst 0, 1) := by decide +kernel
theorem dX2_clear_13 : decode cX2_clear 13 = .ok (.putfield 33, 3) := by decide +kernel
theorem dX2_clear_16 : decode cX2_clear 16 = .ok (.aload_n 0, 1) := by decide +kernel
theorem dX2_clear_17 : decode cX2_clear 17 = .ok (.getfield 23, 3) := by decide +kernel
theorem dX2_clear_20 : decode cX2_clear 20 = .ok (.iconst 0, 1) := by decide +kernel
theorem dX2_clear_21 : decode cX2_clear 21 = .ok (.putfield 33, 3) := by decide +kernel
theorem dX2_clear_24 : decode cX2_clear 24 = .ok (.aload_n 0, 1) := by decide +kernel
theorem dX2_clear_25 : decode cX2_clear 25 = .ok (.getfield 26, 3) := by decide +kernel
theorem dX2_clear_28 : decode cX2_clear 28 = .ok (.iconst 0, 1) := by decide +kernel
theorem dX2_clear_29 : decode cX2_clear 29 = .ok (.putfield 33, 3) := by decide +kernel
theorem dX2_clear_32 : decode cX2_clear 32 = .ok (.aload_n 0, 1) := by decide +kernel
theorem dX2_clear_33 : decode cX2_clear 33 = .ok (.getfield 29, 3) := by decide +kernel
theorem dX2_clear_36 : decode cX2_clear 36 = .ok (.iconst 0, 1) := by decide +kernel
theorem dX2_clear_37 : decode cX2_clear 37 = .ok (.invokestatic 37, 3) := by decide +kernel
theorem dX2_clear_40 : decode cX2_clear 40 = .ok (.aload_n 0, 1) := by decide +kernel
theorem dX2_clear_41 : decode cX2_clear 41 = .ok (.iconst 0, 1) := by decide +kernel
theorem dX2_clear_42 : decode cX2_clear 42 = .ok (.putfield 43, 3) := by decide +kernel
theorem dX2_clear_45 : decode cX2_clear 45 = .ok (.aload_n 0, 1) := by decide +kernel
theorem dX2_clear_46 : decode cX2_clear 46 = .ok (.iconst 0, 1) := by decide +kernel
theorem dX2_clear_47 : decode cX2_clear 47 = .ok (.putfield 46, 3) := by decide +kernel
theorem dX2_clear_50 : decode cX2_clear 50 = .ok (.aload_n 0, 1) := by decide +kernel
theorem dX2_clear_51 : decode cX2_clear 51 = .ok (.iconst 0, 1) := by decide +kernel
theorem dX2_clear_52 : decode cX2_clear 52 = .ok (.putfield 49, 3) := by decide +kernel
theorem dX2_clear_55 : decode cX2_clear 55 = .ok (.aload_n 0, 1) := by decide +kernel
theorem dX2_clear_56 : decode cX2_clear 56 = .ok (.iconst 0, 1) := by decide +kernel
theorem dX2_clear_57 : decode cX2_clear 57 = .ok (.putfield 52, 3) := by decide +kernel
theorem dX2_clear_60 : decode cX2_clear 60 = .ok (.return_, 1) := by decide +kernel
theorem dX2_copy_0 : decode cX2_copy 0 = .ok (.aload_n 0, 1) := by decide +kernel
theorem dX2_copy_1 : decode cX2_copy 1 = .ok (.getfield 14, 3) := by decide +kernel
theorem dX2_copy_4 : decode cX2_copy 4 = .ok (.aload_n 1, 1) := by decide +kernel
theorem dX2_copy_5 : decode cX2_copy 5 = .ok (.getfield 14, 3) := by decide +kernel
theorem dX2_copy_8 : decode cX2_copy 8 = .ok (.invokevirtual 55, 3) := by decide +kernel
theorem dX2_copy_11 : decode cX2_copy 11 = .ok (.aload_n 0, 1) := by decide +kernel
theorem dX2_copy_12 : decode cX2_copy 12 = .ok (.getfield 20, 3) := by decide +kernel
theorem dX2_copy_15 : decode cX2_copy 15 = .ok (.aload_n 1, 1) := by decide +kernel
theorem dX2_copy_16 : decode cX2_copy 16 = .ok (.getfield 20, 3) := by decide +kernel
theorem dX2_copy_19 : decode cX2_copy 19 = .ok (.invokevirtual 55, 3) := by decide +kernel
theorem dX2_copy_22 : decode cX2_copy 22 = .ok (.aload_n 0, 1) := by decide +kernel
theorem dX2_copy_23 : decode cX2_copy 23 = .ok (.getfield 23, 3) := by decide +kernel
theorem dX2_copy_26 : decode cX2_copy 26 = .ok (.aload_n 1, 1) := by decide +kernel
theorem dX2_copy_27 : decode cX2_copy 27 = .ok (.getfield 23, 3) := by decide +kernel
theorem dX2_copy_30 : decode cX2_copy 30 = .ok (.invokevirtual 55, 3) := by decide +kernel
theorem dX2_copy_33 : decode cX2_copy 33 = .ok (.aload_n 0, 1) := by decide +kernel
theorem dX2_copy_34 : decode cX2_copy 34 = .ok (.getfield 26, 3) := by decide +kernel
theorem dX2_copy_37 : decode cX2_copy 37 = .ok (.aload_n 1, 1) := by decide +kernel
theorem dX2_copy_38 : decode cX2_copy 38 = .ok (.getfield 26, 3) := by decide +kernel
theorem dX2_copy_41 : decode cX2_copy 41 = .ok (.invokevirtual 55, 3) := by decide +kernel
theorem dX2_copy_44 : decode cX2_copy 44 = .ok (.aload_n 1, 1) := by decide +kernel
theorem dX2_copy_45 : decode cX2_copy 45 = .ok (.getfield 29, 3) := by decide +kernel
theorem dX2_copy_48 : decode cX2_copy 48 = .ok (.iconst 0, 1) := by decide +kernel
theorem dX2_copy_49 : decode cX2_copy 49 = .ok (.aload_n 0, 1) := by decide +kernel
theorem dX2_copy_50 : decode cX2_copy 50 = .ok (.getfield 29, 3) := by decide +kernel
theorem dX2_copy_53 : decode cX2_copy 53 = .ok (.iconst 0, 1) := by decide +kernel
theorem dX2_copy_54 : decode cX2_copy 54 = .ok (.bipush 30, 2) := by decide +kernel
theorem dX2_copy_56 : decode cX2_copy 56 = .ok (.invokestatic 59, 3) := by decide +kernel
theorem dX2_copy_59 : decode cX2_copy 59 = .ok (.aload_n 0, 1) := by decide +kernel
theorem dX2_copy_60 : decode cX2_copy 60 = .ok (.aload_n 1, 1) := by decide +kernel
theorem dX2_copy_61 : decode cX2_copy 61 = .ok (.getfield 43, 3) := by decide +kernel
theorem dX2_copy_64 : decode cX2_copy 64 = .ok (.putfield 43, 3) := by decide +kernel
theorem dX2_copy_67 : decode cX2_copy 67 = .ok (.aload_n 0, 1) := by decide +kernel
theorem dX2_copy_68 : decode cX2_copy 68 = .ok (.aload_n 1, 1) := by decide +kernel
theorem dX2_copy_69 : decode cX2_copy 69 = .ok (.getfield 46, 3) := by decide +kernel
theorem dX2_copy_72 : decode cX2_copy 72 = .ok (.putfield 46, 3) := by decide +kernel
theorem dX2_copy_75 : decode cX2_copy 75 = .ok (.aload_n 0, 1) := by decide +kernel
theorem dX2_copy_76 : decode cX2_copy 76 = .ok (.aload_n 1, 1) := by decide +kernel
theorem dX2_copy_77 : decode cX2_copy 77 = .ok (.getfield 49, 3) := by decide +kernel
theorem dX2_copy_80 : decode cX2_copy 80 = .ok (.putfield 49, 3) := by decide +kernel
theorem dX2_copy_83 : decode cX2_copy 83 = .ok (.aload_n 0, 1) := by decide +kernel
theorem dX2_copy_84 : decode cX2_copy 84 = .ok (.aload_n 1, 1) := by decide +kernel
theorem dX2_copy_85 : decode cX2_copy 85 = .ok (.getfield 52, 3) := by decide +kernel
theorem dX2_copy_88 : decode cX2_copy 88 = .ok (.putfield 52, 3) := by decide +kernel
theorem dX2_copy_91 : decode cX2_copy 91 = .ok (.return_, 1) := by decide +kernel
theorem dX2_shines_0 : decode cX2_shines 0 = .ok (.iload_n 1, 1) := by decide +kernel
theorem dX2_shines_1 : decode cX2_shines 1 = .ok (.ifCond .lt 16, 3) := by decide +kernel
theorem dX2_shines_4 : decode cX2_shines 4 = .ok (.iload_n 1, 1) := by decide +kernel
theorem dX2_shines_5 : decode cX2_shines 5 = .ok (.bipush 30, 2) := by decide +kernel
theorem dX2_shines_7 : decode cX2_shines 7 = .ok (.if_icmp .ge 10, 3) := by decide +kernel
theorem dX2_shines_10 : decode cX2_shines 10 = .ok (.aload_n 0, 1) := by decide +kernel
theorem dX2_shines_11 : decode cX2_shines 11 = .ok (.getfield 29, 3) := by decide +kernel
theorem dX2_shines_14 : decode cX2_shines 14 = .ok (.iload_n 1, 1) := by decide +kernel
theorem dX2_shines_15 : decode cX2_shines 15 = .ok (.iload_n 2, 1) := by decide +kernel
theorem dX2_shines_16 : decode cX2_shines 16 = .ok (.iastore, 1) := by decide +kernel
theorem dX2_shines_17 : decode cX2_shines 17 = .ok (.return_, 1) := by decide +kernel
theorem dX2_sunIn_0 : decode cX2_sunIn 0 = .ok (.iload_n 1, 1) := by decide +kernel
theorem dX2_sunIn_1 : decode cX2_sunIn 1 = .ok (.ifCond .lt 18, 3) := by decide +kernel
theorem dX2_sunIn_4 : decode cX2_sunIn 4 = .ok (.iload_n 1, 1) := by decide +kernel
theorem dX2_sunIn_5 : decode cX2_sunIn 5 = .ok (.bipush 30, 2) := by decide +kernel
theorem dX2_sunIn_7 : decode cX2_sunIn 7 = .ok (.if_icmp .ge 12, 3) := by decide +kernel
theorem dX2_sunIn_10 : decode cX2_sunIn 10 = .ok (.aload_n 0, 1) := by decide +kernel
theorem dX2_sunIn_11 : decode cX2_sunIn 11 = .ok (.getfield 29, 3) := by decide +kernel
theorem dX2_sunIn_14 : decode cX2_sunIn 14 = .ok (.iload_n 1, 1) := by decide +kernel
theorem dX2_sunIn_15 : decode cX2_sunIn 15 = .ok (.iaload, 1) := by decide +kernel
theorem dX2_sunIn_16 : decode cX2_sunIn 16 = .ok (.goto 4, 3) := by decide +kernel
theorem dX2_sunIn_19 : decode cX2_sunIn 19 = .ok (.iconst 0, 1) := by decide +kernel
theorem dX2_sunIn_20 : decode cX2_sunIn 20 = .ok (.ireturn, 1) := by decide +kernel
theorem dX3_init_0 : decode cX3_init 0 = .ok (.aload_n 0, 1) := by decide +kernel
theorem dX3_init_1 : decode cX3_init 1 = .ok (.invokespecial 1, 3) := by decide +kernel
theorem dX3_init_4 : decode cX3_init 4 = .ok (.aload_n 0, 1) := by decide +kernel
theorem dX3_init_5 : decode cX3_init 5 = .ok (.iload_n 1, 1) := by decide +kernel
theorem dX3_init_6 : decode cX3_init 6 = .ok (.putfield 7, 3) := by decide +kernel
theorem dX3_init_9 : decode cX3_init 9 = .ok (.aload_n 0, 1) := by decide +kernel
theorem dX3_init_10 : decode cX3_init 10 = .ok (.iload_n 2, 1) := by decide +kernel
theorem dX3_init_11 : decode cX3_init 11 = .ok (.putfield 13, 3) := by decide +kernel
theorem dX3_init_14 : decode cX3_init 14 = .ok (.aload_n 0, 1) := by decide +kernel
theorem dX3_init_15 : decode cX3_init 15 = .ok (.iload_n 1, 1) := by decide +kernel
theorem dX3_init_16 : decode cX3_init 16 = .ok (.iload_n 2, 1) := by decide +kernel
theorem dX3_init_17 : decode cX3_init 17 = .ok (.imul, 1) := by decide +kernel
theorem dX3_init_18 : decode cX3_init 18 = .ok (.newarray .int, 2) := by decide +kernel
theorem dX3_init_20 : decode cX3_init 20 = .ok (.putfield 16, 3) := by decide +kernel
theorem dX3_init_23 : decode cX3_init 23 = .ok (.return_, 1) := by decide +kernel
theorem dX3_isFull_0 : decode cX3_isFull 0 = .ok (.aload_n 0, 1) := by decide +kernel
theorem dX3_isFull_1 : decode cX3_isFull 1 = .ok (.getfield 20, 3) := by decide +kernel
theorem dX3_isFull_4 : decode cX3_isFull 4 = .ok (.aload_n 0, 1) := by decide +kernel
theorem dX3_isFull_5 : decode cX3_isFull 5 = .ok (.getfield 7, 3) := by decide +kernel
theorem dX3_isFull_8 : decode cX3_isFull 8 = .ok (.if_icmp .lt 7, 3) := by decide +kernel
theorem dX3_isFull_11 : decode cX3_isFull 11 = .ok (.iconst 1, 1) := by decide +kernel
theorem dX3_isFull_12 : decode cX3_isFull 12 = .ok (.goto 4, 3) := by decide +kernel
theorem dX3_isFull_15 : decode cX3_isFull 15 = .ok (.iconst 0, 1) := by decide +kernel
theorem dX3_isFull_16 : decode cX3_isFull 16 = .ok (.ireturn, 1) := by decide +kernel
theorem dX3_has_0 : decode cX3_has 0 = .ok (.iload_n 1, 1) := by decide +kernel
theorem dX3_has_1 : decode cX3_has 1 = .ok (.ifCond .lt 15, 3) := by decide +kernel
theorem dX3_has_4 : decode cX3_has 4 = .ok (.iload_n 1, 1) := by decide +kernel
theorem dX3_has_5 : decode cX3_has 5 = .ok (.aload_n 0, 1) := by decide +kernel
theorem dX3_has_6 : decode cX3_has 6 = .ok (.getfield 20, 3) := by decide +kernel
theorem dX3_has_9 : decode cX3_has 9 = .ok (.if_icmp .ge 7, 3) := by decide +kernel
theorem dX3_has_12 : decode cX3_has 12 = .ok (.iconst 1, 1) := by decide +kernel
theorem dX3_has_13 : decode cX3_has 13 = .ok (.goto 4, 3) := by decide +kernel
theorem dX3_has_16 : decode cX3_has 16 = .ok (.iconst 0, 1) := by decide +kernel
theorem dX3_has_17 : decode cX3_has 17 = .ok (.ireturn, 1) := by decide +kernel
theorem dX3_add_0 : decode cX3_add 0 = .ok (.aload_n 0, 1) := by decide +kernel
theorem dX3_add_1 : decode cX3_add 1 = .ok (.invokevirtual 23, 3) := by decide +kernel
theorem dX3_add_4 : decode cX3_add 4 = .ok (.ifCond .ne 49, 3) := by decide +kernel
theorem dX3_add_7 : decode cX3_add 7 = .ok (.aload_n 0, 1) := by decide +kernel
theorem dX3_add_8 : decode cX3_add 8 = .ok (.dup, 1) := by decide +kernel
theorem dX3_add_9 : decode cX3_add 9 = .ok (.getfield 20, 3) := by decide +kernel
theorem dX3_add_12 : decode cX3_add 12 = .ok (.iconst 1, 1) := by decide +kernel
theorem dX3_add_13 : decode cX3_add 13 = .ok (.iadd, 1) := by decide +kernel
theorem dX3_add_14 : decode cX3_add 14 = .ok (.putfield 20, 3) := by decide +kernel
theorem dX3_add_17 : decode cX3_add 17 = .ok (.iconst 0, 1) := by decide +kernel
theorem dX3_add_18 : decode cX3_add 18 = .ok (.istore_n 2, 1) := by decide +kernel
theorem dX3_add_19 : decode cX3_add 19 = .ok (.iload_n 2, 1) := by decide +kernel
theorem dX3_add_20 : decode cX3_add 20 = .ok (.aload_n 0, 1) := by decide +kernel
theorem dX3_add_21 : decode cX3_add 21 = .ok (.getfield 13, 3) := by decide +kernel
theorem dX3_add_24 : decode cX3_add 24 = .ok (.if_icmp .ge 29, 3) := by decide +kernel
theorem dX3_add_27 : decode cX3_add 27 = .ok (.iload_n 2, 1) := by decide +kernel
theorem dX3_add_28 : decode cX3_add 28 = .ok (.aload_n 1, 1) := by decide +kernel
theorem dX3_add_29 : decode cX3_add 29 = .ok (.arraylength, 1) := by decide +kernel
theorem dX3_add_30 : decode cX3_add 30 = .ok (.if_icmp .ge 23, 3) := by decide +kernel
theorem dX3_add_33 : decode cX3_add 33 = .ok (.aload_n 0, 1) := by decide +kernel
theorem dX3_add_34 : decode cX3_add 34 = .ok (.aload_n 0, 1) := by decide +kernel
theorem dX3_add_35 : decode cX3_add 35 = .ok (.getfield 20, 3) := by decide +kernel
theorem dX3_add_38 : decode cX3_add 38 = .ok (.iconst 1, 1) := by decide +kernel
theorem dX3_add_39 : decode cX3_add 39 = .ok (.isub, 1) := by decide +kernel
theorem dX3_add_40 : decode cX3_add 40 = .ok (.iload_n 2, 1) := by decide +kernel
theorem dX3_add_41 : decode cX3_add 41 = .ok (.aload_n 1, 1) := by decide +kernel
theorem dX3_add_42 : decode cX3_add 42 = .ok (.iload_n 2, 1) := by decide +kernel
theorem dX3_add_43 : decode cX3_add 43 = .ok (.iaload, 1) := by decide +kernel
theorem dX3_add_44 : decode cX3_add 44 = .ok (.invokevirtual 27, 3) := by decide +kernel
theorem dX3_add_47 : decode cX3_add 47 = .ok (.iinc 2 1, 3) := by decide +kernel
theorem dX3_add_50 : decode cX3_add 50 = .ok (.goto (-31), 3) := by decide +kernel
theorem dX3_add_53 : decode cX3_add 53 = .ok (.return_, 1) := by decide +kernel
theorem dX3_at_0 : decode cX3_at 0 = .ok (.iload_n 1, 1) := by decide +kernel
theorem dX3_at_1 : decode cX3_at 1 = .ok (.ifCond .lt 39, 3) := by decide +kernel
theorem dX3_at_4 : decode cX3_at 4 = .ok (.iload_n 1, 1) := by decide +kernel
theorem dX3_at_5 : decode cX3_at 5 = .ok (.aload_n 0, 1) := by decide +kernel
theorem dX3_at_6 : decode cX3_at 6 = .ok (.getfield 20, 3) := by decide +kernel
theorem dX3_at_9 : decode cX3_at 9 = .ok (.if_icmp .ge 31, 3) := by decide +kernel
theorem dX3_at_12 : decode cX3_at 12 = .ok (.iload_n 2, 1) := by decide +kernel
theorem dX3_at_13 : decode cX3_at 13 = .ok (.ifCond .lt 27, 3) := by decide +kernel
theorem dX3_at_16 : decode cX3_at 16 = .ok (.iload_n 2, 1) := by decide +kernel
theorem dX3_at_17 : decode cX3_at 17 = .ok (.aload_n 0, 1) := by decide +kernel
theorem dX3_at_18 : decode cX3_at 18 = .ok (.getfield 13, 3) := by decide +kernel
theorem dX3_at_21 : decode cX3_at 21 = .ok (.if_icmp .ge 19, 3) := by decide +kernel
theorem dX3_at_24 : decode cX3_at 24 = .ok (.aload_n 0, 1) := by decide +kernel
theorem dX3_at_25 : decode cX3_at 25 = .ok (.getfield 16, 3) := by decide +kernel
theorem dX3_at_28 : decode cX3_at 28 = .ok (.iload_n 1, 1) := by decide +kernel
theorem dX3_at_29 : decode cX3_at 29 = .ok (.aload_n 0, 1) := by decide +kernel
theorem dX3_at_30 : decode cX3_at 30 = .ok (.getfield 13, 3) := by decide +kernel
theorem dX3_at_33 : decode cX3_at 33 = .ok (.imul, 1) := by decide +kernel
theorem dX3_at_34 : decode cX3_at 34 = .ok (.iload_n 2, 1) := by decide +kernel
theorem dX3_at_35 : decode cX3_at 35 = .ok (.iadd, 1) := by decide +kernel
theorem dX3_at_36 : decode cX3_at 36 = .ok (.iaload, 1) := by decide +kernel
theorem dX3_at_37 : decode cX3_at 37 = .ok (.goto 4, 3) := by decide +kernel
theorem dX3_at_40 : decode cX3_at 40 = .ok (.iconst 0, 1) := by decide +kernel
theorem dX3_at_41 : decode cX3_at 41 = .ok (.ireturn, 1) := by decide +kernel
theorem dX3_put_0 : decode cX3_put 0 = .ok (.iload_n 1, 1) := by decide +kernel
theorem dX3_put_1 : decode cX3_put 1 = .ok (.ifCond .lt 37, 3) := by decide +kernel
theorem dX3_put_4 : decode cX3_put 4 = .ok (.iload_n 1, 1) := by decide +kernel
theorem dX3_put_5 : decode cX3_put 5 = .ok (.aload_n 0, 1) := by decide +kernel
theorem dX3_put_6 : decode cX3_put 6 = .ok (.getfield 20, 3) := by decide +kernel
theorem dX3_put_9 : decode cX3_put 9 = .ok (.if_icmp .ge 29, 3) := by decide +kernel
theorem dX3_put_12 : decode cX3_put 12 = .ok (.iload_n 2, 1) := by decide +kernel
theorem dX3_put_13 : decode cX3_put 13 = .ok (.ifCond .lt 25, 3) := by decide +kernel
theorem dX3_put_16 : decode cX3_put 16 = .ok (.iload_n 2, 1) := by decide +kernel
theorem dX3_put_17 : decode cX3_put 17 = .ok (.aload_n 0, 1) := by decide +kernel
theorem dX3_put_18 : decode cX3_put 18 = .ok (.getfield 13, 3) := by decide +kernel
theorem dX3_put_21 : decode cX3_put 21 = .ok (.if_icmp .ge 17, 3) := by decide +kernel
theorem dX3_put_24 : decode cX3_put 24 = .ok (.aload_n 0, 1) := by decide +kernel
theorem dX3_put_25 : decode cX3_put 25 = .ok (.getfield 16, 3) := by decide +kernel
theorem dX3_put_28 : decode cX3_put 28 = .ok (.iload_n 1, 1) := by decide +kernel
theorem dX3_put_29 : decode cX3_put 29 = .ok (.aload_n 0, 1) := by decide +kernel
theorem dX3_put_30 : decode cX3_put 30 = .ok (.getfield 13, 3) := by decide +kernel
theorem dX3_put_33 : decode cX3_put 33 = .ok (.imul, 1) := by decide +kernel
theorem dX3_put_34 : decode cX3_put 34 = .ok (.iload_n 2, 1) := by decide +kernel
theorem dX3_put_35 : decode cX3_put 35 = .ok (.iadd, 1) := by decide +kernel
theorem dX3_put_36 : decode cX3_put 36 = .ok (.iload_n 3, 1) := by decide +kernel
theorem dX3_put_37 : decode cX3_put 37 = .ok (.iastore, 1) := by decide +kernel
theorem dX3_put_38 : decode cX3_put 38 = .ok (.return_, 1) := by decide +kernel
theorem dX3_copy_0 : decode cX3_copy 0 = .ok (.aload_n 0, 1) := by decide +kernel
theorem dX3_copy_1 : decode cX3_copy 1 = .ok (.aload_n 0, 1) := by decide +kernel
theorem dX3_copy_2 : decode cX3_copy 2 = .ok (.getfield 7, 3) := by decide +kernel
theorem dX3_copy_5 : decode cX3_copy 5 = .ok (.aload_n 1, 1) := by decide +kernel
theorem dX3_copy_6 : decode cX3_copy 6 = .ok (.getfield 20, 3) := by decide +kernel
theorem dX3_copy_9 : decode cX3_copy 9 = .ok (.invokestatic 31, 3) := by decide +kernel
theorem dX3_copy_12 : decode cX3_copy 12 = .ok (.putfield 20, 3) := by decide +kernel
theorem dX3_copy_15 : decode cX3_copy 15 = .ok (.aload_n 1, 1) := by decide +kernel
theorem dX3_copy_16 : decode cX3_copy 16 = .ok (.getfield 16, 3) := by decide +kernel
theorem dX3_copy_19 : decode cX3_copy 19 = .ok (.iconst 0, 1) := by decide +kernel
theorem dX3_copy_20 : decode cX3_copy 20 = .ok (.aload_n 0, 1) := by decide +kernel
theorem dX3_copy_21 : decode cX3_copy 21 = .ok (.getfield 16, 3) := by decide +kernel
theorem dX3_copy_24 : decode cX3_copy 24 = .ok (.iconst 0, 1) := by decide +kernel
theorem dX3_copy_25 : decode cX3_copy 25 = .ok (.aload_n 0, 1) := by decide +kernel
theorem dX3_copy_26 : decode cX3_copy 26 = .ok (.getfield 16, 3) := by decide +kernel
theorem dX3_copy_29 : decode cX3_copy 29 = .ok (.arraylength, 1) := by decide +kernel
theorem dX3_copy_30 : decode cX3_copy 30 = .ok (.aload_n 1, 1) := by decide +kernel
theorem dX3_copy_31 : decode cX3_copy 31 = .ok (.getfield 16, 3) := by decide +kernel
theorem dX3_copy_34 : decode cX3_copy 34 = .ok (.arraylength, 1) := by decide +kernel
theorem dX3_copy_35 : decode cX3_copy 35 = .ok (.invokestatic 31, 3) := by decide +kernel
theorem dX3_copy_38 : decode cX3_copy 38 = .ok (.invokestatic 37, 3) := by decide +kernel
theorem dX3_copy_41 : decode cX3_copy 41 = .ok (.return_, 1) := by decide +kernel
theorem dX4_init_0 : decode cX4_init 0 = .ok (.aload_n 0, 1) := by decide +kernel
theorem dX4_init_1 : decode cX4_init 1 = .ok (.invokespecial 3, 3) := by decide +kernel
theorem dX4_init_4 : decode cX4_init 4 = .ok (.aload_n 0, 1) := by decide +kernel
theorem dX4_init_5 : decode cX4_init 5 = .ok (.iconst 5, 1) := by decide +kernel
theorem dX4_init_6 : decode cX4_init 6 = .ok (.newarray .int, 2) := by decide +kernel
theorem dX4_init_8 : decode cX4_init 8 = .ok (.putfield 11, 3) := by decide +kernel
theorem dX4_init_11 : decode cX4_init 11 = .ok (.aload_n 0, 1) := by decide +kernel
theorem dX4_init_12 : decode cX4_init 12 = .ok (.aload_n 1, 1) := by decide +kernel
theorem dX4_init_13 : decode cX4_init 13 = .ok (.putfield 15, 3) := by decide +kernel
theorem dX4_init_16 : decode cX4_init 16 = .ok (.aload_n 0, 1) := by decide +kernel
theorem dX4_init_17 : decode cX4_init 17 = .ok (.new 19, 3) := by decide +kernel
theorem dX4_init_20 : decode cX4_init 20 = .ok (.dup, 1) := by decide +kernel
theorem dX4_init_21 : decode cX4_init 21 = .ok (.aload_n 1, 1) := by decide +kernel
theorem dX4_init_22 : decode cX4_init 22 = .ok (.invokespecial 21, 3) := by decide +kernel
theorem dX4_init_25 : decode cX4_init 25 = .ok (.putfield 24, 3) := by decide +kernel
theorem dX4_init_28 : decode cX4_init 28 = .ok (.aload_n 0, 1) := by decide +kernel
theorem dX4_init_29 : decode cX4_init 29 = .ok (.iconst (-1), 1) := by decide +kernel
theorem dX4_init_30 : decode cX4_init 30 = .ok (.putfield 28, 3) := by decide +kernel
theorem dX4_init_33 : decode cX4_init 33 = .ok (.return_, 1) := by decide +kernel
theorem dX4_reads_0 : decode cX4_reads 0 = .ok (.aload_n 1, 1) := by decide +kernel
theorem dX4_reads_1 : decode cX4_reads 1 = .ok (.invokevirtual 32, 3) := by decide +kernel
theorem dX4_reads_4 : decode cX4_reads 4 = .ok (.aload_n 0, 1) := by decide +kernel
theorem dX4_reads_5 : decode cX4_reads 5 = .ok (.iconst 0, 1) := by decide +kernel
theorem dX4_reads_6 : decode cX4_reads 6 = .ok (.putfield 37, 3) := by decide +kernel
theorem dX4_reads_9 : decode cX4_reads 9 = .ok (.aload_n 0, 1) := by decide +kernel
theorem dX4_reads_10 : decode cX4_reads 10 = .ok (.iconst (-1), 1) := by decide +kernel
theorem dX4_reads_11 : decode cX4_reads 11 = .ok (.putfield 28, 3) := by decide +kernel
theorem dX4_reads_14 : decode cX4_reads 14 = .ok (.aload_n 0, 1) := by decide +kernel
theorem dX4_reads_15 : decode cX4_reads 15 = .ok (.getfield 24, 3) := by decide +kernel
theorem dX4_reads_18 : decode cX4_reads 18 = .ok (.invokevirtual 40, 3) := by decide +kernel
theorem dX4_reads_21 : decode cX4_reads 21 = .ok (.iconst 0, 1) := by decide +kernel
theorem dX4_reads_22 : decode cX4_reads 22 = .ok (.istore_n 2, 1) := by decide +kernel
theorem dX4_reads_23 : decode cX4_reads 23 = .ok (.iload_n 2, 1) := by decide +kernel
theorem dX4_reads_24 : decode cX4_reads 24 = .ok (.aload_n 0, 1) := by decide +kernel
theorem dX4_reads_25 : decode cX4_reads 25 = .ok (.getfield 15, 3) := by decide +kernel
theorem dX4_reads_28 : decode cX4_reads 28 = .ok (.getfield 43, 3) := by decide +kernel
theorem dX4_reads_31 : decode cX4_reads 31 = .ok (.if_icmp .gt 38, 3) := by decide +kernel
theorem dX4_reads_34 : decode cX4_reads 34 = .ok (.aload_n 0, 1) := by decide +kernel
theorem dX4_reads_35 : decode cX4_reads 35 = .ok (.getfield 24, 3) := by decide +kernel
theorem dX4_reads_38 : decode cX4_reads 38 = .ok (.invokevirtual 48, 3) := by decide +kernel
theorem dX4_reads_41 : decode cX4_reads 41 = .ok (.aload_n 0, 1) := by decide +kernel
theorem dX4_reads_42 : decode cX4_reads 42 = .ok (.getfield 24, 3) := by decide +kernel
theorem dX4_reads_45 : decode cX4_reads 45 = .ok (.getfield 51, 3) := by decide +kernel
theorem dX4_reads_48 : decode cX4_reads 48 = .ok (.ifCond .ne 5, 3) := by decide +kernel
theorem dX4_reads_51 : decode cX4_reads 51 = .ok (.iconst 1, 1) := by decide +kernel
theorem dX4_reads_52 : decode cX4_reads 52 = .ok (.ireturn, 1) := by decide +kernel
theorem dX4_reads_53 : decode cX4_reads 53 = .ok (.aload_n 0, 1) := by decide +kernel
theorem dX4_reads_54 : decode cX4_reads 54 = .ok (.aload_n 1, 1) := by decide +kernel
theorem dX4_reads_55 : decode cX4_reads 55 = .ok (.invokevirtual 54, 3) := by decide +kernel
theorem dX4_reads_58 : decode cX4_reads 58 = .ok (.ifCond .ne 5, 3) := by decide +kernel
theorem dX4_reads_61 : decode cX4_reads 61 = .ok (.iconst 0, 1) := by decide +kernel
theorem dX4_reads_62 : decode cX4_reads 62 = .ok (.ireturn, 1) := by decide +kernel
theorem dX4_reads_63 : decode cX4_reads 63 = .ok (.iinc 2 1, 3) := by decide +kernel
theorem dX4_reads_66 : decode cX4_reads 66 = .ok (.goto (-43), 3) := by decide +kernel
theorem dX4_reads_69 : decode cX4_reads 69 = .ok (.iconst 1, 1) := by decide +kernel
theorem dX4_reads_70 : decode cX4_reads 70 = .ok (.ireturn, 1) := by decide +kernel
theorem dX4_readsLine_0 : decode cX4_readsLine 0 = .ok (.aload_n 0, 1) := by decide +kernel
theorem dX4_readsLine_1 : decode cX4_readsLine 1 = .ok (.invokevirtual 58, 3) := by decide +kernel
theorem dX4_readsLine_4 : decode cX4_readsLine 4 = .ok (.istore_n 2, 1) := by decide +kernel
theorem dX4_readsLine_5 : decode cX4_readsLine 5 = .ok (.iload_n 2, 1) := by decide +kernel
theorem dX4_readsLine_6 : decode cX4_readsLine 6 = .ok (.iconst (-1), 1) := by decide +kernel
theorem dX4_readsLine_7 : decode cX4_readsLine 7 = .ok (.if_icmp .eq 27, 3) := by decide +kernel
theorem dX4_readsLine_10 : decode cX4_readsLine 10 = .ok (.iload_n 2, 1) := by decide +kernel
theorem dX4_readsLine_11 : decode cX4_readsLine 11 = .ok (.ifCond .ne 7, 3) := by decide +kernel
theorem dX4_readsLine_14 : decode cX4_readsLine 14 = .ok (.iconst 1, 1) := by decide +kernel
theorem dX4_readsLine_15 : decode cX4_readsLine 15 = .ok (.goto 4, 3) := by decide +kernel
theorem dX4_readsLine_18 : decode cX4_readsLine 18 = .ok (.iconst 0, 1) := by decide +kernel
theorem dX4_readsLine_19 : decode cX4_readsLine 19 = .ok (.aload_n 1, 1) := by decide +kernel
theorem dX4_readsLine_20 : decode cX4_readsLine 20 = .ok (.getfield 62, 3) := by decide +kernel
theorem dX4_readsLine_23 : decode cX4_readsLine 23 = .ok (.ifCond .ne 7, 3) := by decide +kernel
theorem dX4_readsLine_26 : decode cX4_readsLine 26 = .ok (.iconst 1, 1) := by decide +kernel
theorem dX4_readsLine_27 : decode cX4_readsLine 27 = .ok (.goto 4, 3) := by decide +kernel
theorem dX4_readsLine_30 : decode cX4_readsLine 30 = .ok (.iconst 0, 1) := by decide +kernel
theorem dX4_readsLine_31 : decode cX4_readsLine 31 = .ok (.if_icmp .eq 9, 3) := by decide +kernel
theorem dX4_readsLine_34 : decode cX4_readsLine 34 = .ok (.aload_n 0, 1) := by decide +kernel
theorem dX4_readsLine_35 : decode cX4_readsLine 35 = .ok (.iconst 1, 1) := by decide +kernel
theorem dX4_readsLine_36 : decode cX4_readsLine 36 = .ok (.invokevirtual 65, 3) := by decide +kernel
theorem dX4_readsLine_39 : decode cX4_readsLine 39 = .ok (.ireturn, 1) := by decide +kernel
theorem dX4_readsLine_40 : decode cX4_readsLine 40 = .ok (.aload_n 1, 1) := by decide +kernel
theorem dX4_readsLine_41 : decode cX4_readsLine 41 = .ok (.iload_n 2, 1) := by decide +kernel
theorem dX4_readsLine_42 : decode cX4_readsLine 42 = .ok (.invokestatic 69, 3) := by decide +kernel
theorem dX4_readsLine_45 : decode cX4_readsLine 45 = .ok (.ifCond .eq 9, 3) := by decide +kernel
theorem dX4_readsLine_48 : decode cX4_readsLine 48 = .ok (.aload_n 0, 1) := by decide +kernel
theorem dX4_readsLine_49 : decode cX4_readsLine 49 = .ok (.iconst 3, 1) := by decide +kernel
theorem dX4_readsLine_50 : decode cX4_readsLine 50 = .ok (.invokevirtual 65, 3) := by decide +kernel
theorem dX4_readsLine_53 : decode cX4_readsLine 53 = .ok (.ireturn, 1) := by decide +kernel
theorem dX4_readsLine_54 : decode cX4_readsLine 54 = .ok (.iload_n 2, 1) := by decide +kernel
theorem dX4_readsLine_55 : decode cX4_readsLine 55 = .ok (.invokestatic 73, 3) := by decide +kernel
theorem dX4_readsLine_58 : decode cX4_readsLine 58 = .ok (.astore_n 3, 1) := by decide +kernel
theorem dX4_readsLine_59 : decode cX4_readsLine 59 = .ok (.iconst 0, 1) := by decide +kernel
theorem dX4_readsLine_60 : decode cX4_readsLine 60 = .ok (.istore 4, 2) := by decide +kernel
theorem dX4_readsLine_62 : decode cX4_readsLine 62 = .ok (.iconst 1, 1) := by decide +kernel
theorem dX4_readsLine_63 : decode cX4_readsLine 63 = .ok (.istore 5, 2) := by decide +kernel
theorem dX4_readsLine_65 : decode cX4_readsLine 65 = .ok (.iload 5, 2) := by decide +kernel
theorem dX4_readsLine_67 : decode cX4_readsLine 67 = .ok (.aload_n 3, 1) := by decide +kernel
theorem dX4_readsLine_68 : decode cX4_readsLine 68 = .ok (.invokevirtual 77, 3) := by decide +kernel
theorem dX4_readsLine_71 : decode cX4_readsLine 71 = .ok (.if_icmp .ge 93, 3) := by decide +kernel
theorem dX4_readsLine_74 : decode cX4_readsLine 74 = .ok (.aload_n 3, 1) := by decide +kernel
theorem dX4_readsLine_75 : decode cX4_readsLine 75 = .ok (.iload 5, 2) := by decide +kernel
theorem dX4_readsLine_77 : decode cX4_readsLine 77 = .ok (.iconst 1, 1) := by decide +kernel
theorem dX4_readsLine_78 : decode cX4_readsLine 78 = .ok (.isub, 1) := by decide +kernel
theorem dX4_readsLine_79 : decode cX4_readsLine 79 = .ok (.invokevirtual 81, 3) := by decide +kernel
theorem dX4_readsLine_82 : decode cX4_readsLine 82 = .ok (.bipush 32, 2) := by decide +kernel
theorem dX4_readsLine_84 : decode cX4_readsLine 84 = .ok (.if_icmp .ne 74, 3) := by decide +kernel
theorem dX4_readsLine_87 : decode cX4_readsLine 87 = .ok (.aload_n 0, 1) := by decide +kernel
theorem dX4_readsLine_88 : decode cX4_readsLine 88 = .ok (.getfield 24, 3) := by decide +kernel
theorem dX4_readsLine_91 : decode cX4_readsLine 91 = .ok (.invokevirtual 48, 3) := by decide +kernel
theorem dX4_readsLine_94 : decode cX4_readsLine 94 = .ok (.aload_n 3, 1) := by decide +kernel
theorem dX4_readsLine_95 : decode cX4_readsLine 95 = .ok (.iload 5, 2) := by decide +kernel
theorem dX4_readsLine_97 : decode cX4_readsLine 97 = .ok (.invokevirtual 81, 3) := by decide +kernel
theorem dX4_readsLine_100 : decode cX4_readsLine 100 = .ok (.bipush 78, 2) := by decide +kernel
theorem dX4_readsLine_102 : decode cX4_readsLine 102 = .ok (.if_icmp .ne 7, 3) := by decide +kernel
theorem dX4_readsLine_105 : decode cX4_readsLine 105 = .ok (.iconst 1, 1) := by decide +kernel
theorem dX4_readsLine_106 : decode cX4_readsLine 106 = .ok (.goto 4, 3) := by decide +kernel
theorem dX4_readsLine_109 : decode cX4_readsLine 109 = .ok (.iconst 0, 1) := by decide +kernel
theorem dX4_readsLine_110 : decode cX4_readsLine 110 = .ok (.istore 6, 2) := by decide +kernel
theorem dX4_readsLine_112 : decode cX4_readsLine 112 = .ok (.iload 6, 2) := by decide +kernel
theorem dX4_readsLine_114 : decode cX4_readsLine 114 = .ok (.ifCond .eq 17, 3) := by decide +kernel
theorem dX4_readsLine_117 : decode cX4_readsLine 117 = .ok (.aload_n 0, 1) := by decide +kernel
theorem dX4_readsLine_118 : decode cX4_readsLine 118 = .ok (.aload_n 1, 1) := by decide +kernel
theorem dX4_readsLine_119 : decode cX4_readsLine 119 = .ok (.iload_n 2, 1) := by decide +kernel
theorem dX4_readsLine_120 : decode cX4_readsLine 120 = .ok (.iload 4, 2) := by decide +kernel
theorem dX4_readsLine_122 : decode cX4_readsLine 122 = .ok (.invokevirtual 85, 3) := by decide +kernel
theorem dX4_readsLine_125 : decode cX4_readsLine 125 = .ok (.ifCond .eq 16, 3) := by decide +kernel
theorem dX4_readsLine_128 : decode cX4_readsLine 128 = .ok (.goto 15, 3) := by decide +kernel
theorem dX4_readsLine_131 : decode cX4_readsLine 131 = .ok (.aload_n 0, 1) := by decide +kernel
theorem dX4_readsLine_132 : decode cX4_readsLine 132 = .ok (.aload_n 3, 1) := by decide +kernel
theorem dX4_readsLine_133 : decode cX4_readsLine 133 = .ok (.iload 5, 2) := by decide +kernel
theorem dX4_readsLine_135 : decode cX4_readsLine 135 = .ok (.invokevirtual 89, 3) := by decide +kernel
theorem dX4_readsLine_138 : decode cX4_readsLine 138 = .ok (.ifCond .ne 5, 3) := by decide +kernel
theorem dX4_readsLine_141 : decode cX4_readsLine 141 = .ok (.iconst 0, 1) := by decide +kernel
theorem dX4_readsLine_142 : decode cX4_readsLine 142 = .ok (.ireturn, 1) := by decide +kernel
theorem dX4_readsLine_143 : decode cX4_readsLine 143 = .ok (.iload 4, 2) := by decide +kernel
theorem dX4_readsLine_145 : decode cX4_readsLine 145 = .ok (.iload 6, 2) := by decide +kernel
theorem dX4_readsLine_147 : decode cX4_readsLine 147 = .ok (.ifCond .eq 7, 3) := by decide +kernel
theorem dX4_readsLine_150 : decode cX4_readsLine 150 = .ok (.iconst 1, 1) := by decide +kernel
theorem dX4_readsLine_151 : decode cX4_readsLine 151 = .ok (.goto 4, 3) := by decide +kernel
theorem dX4_readsLine_154 : decode cX4_readsLine 154 = .ok (.iconst 0, 1) := by decide +kernel
theorem dX4_readsLine_155 : decode cX4_readsLine 155 = .ok (.iadd, 1) := by decide +kernel
theorem dX4_readsLine_156 : decode cX4_readsLine 156 = .ok (.istore 4, 2) := by decide +kernel
theorem dX4_readsLine_158 : decode cX4_readsLine 158 = .ok (.iinc 5 1, 3) := by decide +kernel
theorem dX4_readsLine_161 : decode cX4_readsLine 161 = .ok (.goto (-96), 3) := by decide +kernel
theorem dX4_readsLine_164 : decode cX4_readsLine 164 = .ok (.aload_n 0, 1) := by decide +kernel
theorem dX4_readsLine_165 : decode cX4_readsLine 165 = .ok (.getfield 24, 3) := by decide +kernel
theorem dX4_readsLine_168 : decode cX4_readsLine 168 = .ok (.invokevirtual 48, 3) := by decide +kernel
theorem dX4_readsLine_171 : decode cX4_readsLine 171 = .ok (.aload_n 0, 1) := by decide +kernel
theorem dX4_readsLine_172 : decode cX4_readsLine 172 = .ok (.getfield 24, 3) := by decide +kernel
theorem dX4_readsLine_175 : decode cX4_readsLine 175 = .ok (.getfield 51, 3) := by decide +kernel
theorem dX4_readsLine_178 : decode cX4_readsLine 178 = .ok (.iconst 3, 1) := by decide +kernel
theorem dX4_readsLine_179 : decode cX4_readsLine 179 = .ok (.if_icmp .eq 9, 3) := by decide +kernel
theorem dX4_readsLine_182 : decode cX4_readsLine 182 = .ok (.aload_n 0, 1) := by decide +kernel
theorem dX4_readsLine_183 : decode cX4_readsLine 183 = .ok (.iconst 1, 1) := by decide +kernel
theorem dX4_readsLine_184 : decode cX4_readsLine 184 = .ok (.invokevirtual 65, 3) := by decide +kernel
theorem dX4_readsLine_187 : decode cX4_readsLine 187 = .ok (.ireturn, 1) := by decide +kernel
theorem dX4_readsLine_188 : decode cX4_readsLine 188 = .ok (.aload_n 0, 1) := by decide +kernel
theorem dX4_readsLine_189 : decode cX4_readsLine 189 = .ok (.aload_n 1, 1) := by decide +kernel
theorem dX4_readsLine_190 : decode cX4_readsLine 190 = .ok (.iload_n 2, 1) := by decide +kernel
theorem dX4_readsLine_191 : decode cX4_readsLine 191 = .ok (.invokevirtual 93, 3) := by decide +kernel
theorem dX4_readsLine_194 : decode cX4_readsLine 194 = .ok (.iconst 1, 1) := by decide +kernel
theorem dX4_readsLine_195 : decode cX4_readsLine 195 = .ok (.ireturn, 1) := by decide +kernel
theorem dX4_readsWord_0 : decode cX4_readsWord 0 = .ok (.aload_n 0, 1) := by decide +kernel
theorem dX4_readsWord_1 : decode cX4_readsWord 1 = .ok (.getfield 24, 3) := by decide +kernel
theorem dX4_readsWord_4 : decode cX4_readsWord 4 = .ok (.aload_n 1, 1) := by decide +kernel
theorem dX4_readsWord_5 : decode cX4_readsWord 5 = .ok (.iload_n 2, 1) := by decide +kernel
theorem dX4_readsWord_6 : decode cX4_readsWord 6 = .ok (.aload_n 1, 1) := by decide +kernel
theorem dX4_readsWord_7 : decode cX4_readsWord 7 = .ok (.iload_n 2, 1) := by decide +kernel
theorem dX4_readsWord_8 : decode cX4_readsWord 8 = .ok (.invokestatic 97, 3) := by decide +kernel
theorem dX4_readsWord_11 : decode cX4_readsWord 11 = .ok (.invokevirtual 101, 3) := by decide +kernel
theorem dX4_readsWord_14 : decode cX4_readsWord 14 = .ok (.ifCond .ne 11, 3) := by decide +kernel
theorem dX4_readsWord_17 : decode cX4_readsWord 17 = .ok (.aload_n 0, 1) := by decide +kernel
theorem dX4_readsWord_18 : decode cX4_readsWord 18 = .ok (.iconst 1, 1) := by decide +kernel
theorem dX4_readsWord_19 : decode cX4_readsWord 19 = .ok (.invokevirtual 65, 3) := by decide +kernel
theorem dX4_readsWord_22 : decode cX4_readsWord 22 = .ok (.ifCond .eq 7, 3) := by decide +kernel
theorem dX4_readsWord_25 : decode cX4_readsWord 25 = .ok (.iconst 1, 1) := by decide +kernel
theorem dX4_readsWord_26 : decode cX4_readsWord 26 = .ok (.goto 4, 3) := by decide +kernel
theorem dX4_readsWord_29 : decode cX4_readsWord 29 = .ok (.iconst 0, 1) := by decide +kernel
theorem dX4_readsWord_30 : decode cX4_readsWord 30 = .ok (.ireturn, 1) := by decide +kernel
theorem dX4_readsNumber_0 : decode cX4_readsNumber 0 = .ok (.aload_n 0, 1) := by decide +kernel
theorem dX4_readsNumber_1 : decode cX4_readsNumber 1 = .ok (.getfield 24, 3) := by decide +kernel
theorem dX4_readsNumber_4 : decode cX4_readsNumber 4 = .ok (.getfield 51, 3) := by decide +kernel
theorem dX4_readsNumber_7 : decode cX4_readsNumber 7 = .ok (.iconst 2, 1) := by decide +kernel
theorem dX4_readsNumber_8 : decode cX4_readsNumber 8 = .ok (.if_icmp .ne 12, 3) := by decide +kernel
theorem dX4_readsNumber_11 : decode cX4_readsNumber 11 = .ok (.iload_n 3, 1) := by decide +kernel
theorem dX4_readsNumber_12 : decode cX4_readsNumber 12 = .ok (.ifCond .lt 8, 3) := by decide +kernel
theorem dX4_readsNumber_15 : decode cX4_readsNumber 15 = .ok (.iload_n 3, 1) := by decide +kernel
theorem dX4_readsNumber_16 : decode cX4_readsNumber 16 = .ok (.iconst 5, 1) := by decide +kernel
theorem dX4_readsNumber_17 : decode cX4_readsNumber 17 = .ok (.if_icmp .lt 9, 3) := by decide +kernel
theorem dX4_readsNumber_20 : decode cX4_readsNumber 20 = .ok (.aload_n 0, 1) := by decide +kernel
theorem dX4_readsNumber_21 : decode cX4_readsNumber 21 = .ok (.iconst 1, 1) := by decide +kernel
theorem dX4_readsNumber_22 : decode cX4_readsNumber 22 = .ok (.invokevirtual 65, 3) := by decide +kernel
theorem dX4_readsNumber_25 : decode cX4_readsNumber 25 = .ok (.ireturn, 1) := by decide +kernel
theorem dX4_readsNumber_26 : decode cX4_readsNumber 26 = .ok (.aload_n 0, 1) := by decide +kernel
theorem dX4_readsNumber_27 : decode cX4_readsNumber 27 = .ok (.getfield 24, 3) := by decide +kernel
theorem dX4_readsNumber_30 : decode cX4_readsNumber 30 = .ok (.getfield 105, 3) := by decide +kernel
theorem dX4_readsNumber_33 : decode cX4_readsNumber 33 = .ok (.istore 4, 2) := by decide +kernel
theorem dX4_readsNumber_35 : decode cX4_readsNumber 35 = .ok (.iload 4, 2) := by decide +kernel
theorem dX4_readsNumber_37 : decode cX4_readsNumber 37 = .ok (.aload_n 0, 1) := by decide +kernel
theorem dX4_readsNumber_38 : decode cX4_readsNumber 38 = .ok (.iload_n 2, 1) := by decide +kernel
theorem dX4_readsNumber_39 : decode cX4_readsNumber 39 = .ok (.iload_n 3, 1) := by decide +kernel
theorem dX4_readsNumber_40 : decode cX4_readsNumber 40 = .ok (.invokevirtual 108, 3) := by decide +kernel
theorem dX4_readsNumber_43 : decode cX4_readsNumber 43 = .ok (.if_icmp .lt 15, 3) := by decide +kernel
theorem dX4_readsNumber_46 : decode cX4_readsNumber 46 = .ok (.iload 4, 2) := by decide +kernel
theorem dX4_readsNumber_48 : decode cX4_readsNumber 48 = .ok (.aload_n 0, 1) := by decide +kernel
theorem dX4_readsNumber_49 : decode cX4_readsNumber 49 = .ok (.aload_n 1, 1) := by decide +kernel
theorem dX4_readsNumber_50 : decode cX4_readsNumber 50 = .ok (.iload_n 2, 1) := by decide +kernel
theorem dX4_readsNumber_51 : decode cX4_readsNumber 51 = .ok (.iload_n 3, 1) := by decide +kernel
theorem dX4_readsNumber_52 : decode cX4_readsNumber 52 = .ok (.invokevirtual 112, 3) := by decide +kernel
theorem dX4_readsNumber_55 : decode cX4_readsNumber 55 = .ok (.if_icmp .le 9, 3) := by decide +kernel
theorem dX4_readsNumber_58 : decode cX4_readsNumber 58 = .ok (.aload_n 0, 1) := by decide +kernel
theorem dX4_readsNumber_59 : decode cX4_readsNumber 59 = .ok (.iconst 2, 1) := by decide +kernel
theorem dX4_readsNumber_60 : decode cX4_readsNumber 60 = .ok (.invokevirtual 65, 3) := by decide +kernel
theorem dX4_readsNumber_63 : decode cX4_readsNumber 63 = .ok (.ireturn, 1) := by decide +kernel
theorem dX4_readsNumber_64 : decode cX4_readsNumber 64 = .ok (.iload_n 2, 1) := by decide +kernel
theorem dX4_readsNumber_65 : decode cX4_readsNumber 65 = .ok (.iconst 5, 1) := by decide +kernel
theorem dX4_readsNumber_66 : decode cX4_readsNumber 66 = .ok (.if_icmp .ne 25, 3) := by decide +kernel
theorem dX4_readsNumber_69 : decode cX4_readsNumber 69 = .ok (.iload_n 3, 1) := by decide +kernel
theorem dX4_readsNumber_70 : decode cX4_readsNumber 70 = .ok (.iconst 1, 1) := by decide +kernel
theorem dX4_readsNumber_71 : decode cX4_readsNumber 71 = .ok (.if_icmp .ne 20, 3) := by decide +kernel
theorem dX4_readsNumber_74 : decode cX4_readsNumber 74 = .ok (.iload 4, 2) := by decide +kernel
theorem dX4_readsNumber_76 : decode cX4_readsNumber 76 = .ok (.aload_n 0, 1) := by decide +kernel
theorem dX4_readsNumber_77 : decode cX4_readsNumber 77 = .ok (.getfield 11, 3) := by decide +kernel
theorem dX4_readsNumber_80 : decode cX4_readsNumber 80 = .ok (.iconst 0, 1) := by decide +kernel
theorem dX4_readsNumber_81 : decode cX4_readsNumber 81 = .ok (.iaload, 1) := by decide +kernel
theorem dX4_readsNumber_82 : decode cX4_readsNumber 82 = .ok (.if_icmp .ne 9, 3) := by decide +kernel
theorem dX4_readsNumber_85 : decode cX4_readsNumber 85 = .ok (.aload_n 0, 1) := by decide +kernel
theorem dX4_readsNumber_86 : decode cX4_readsNumber 86 = .ok (.iconst 2, 1) := by decide +kernel
theorem dX4_readsNumber_87 : decode cX4_readsNumber 87 = .ok (.invokevirtual 65, 3) := by decide +kernel
theorem dX4_readsNumber_90 : decode cX4_readsNumber 90 = .ok (.ireturn, 1) := by decide +kernel
theorem dX4_readsNumber_91 : decode cX4_readsNumber 91 = .ok (.aload_n 0, 1) := by decide +kernel
theorem dX4_readsNumber_92 : decode cX4_readsNumber 92 = .ok (.getfield 11, 3) := by decide +kernel
theorem dX4_readsNumber_95 : decode cX4_readsNumber 95 = .ok (.iload_n 3, 1) := by decide +kernel
theorem dX4_readsNumber_96 : decode cX4_readsNumber 96 = .ok (.iload 4, 2) := by decide +kernel
theorem dX4_readsNumber_98 : decode cX4_readsNumber 98 = .ok (.iastore, 1) := by decide +kernel
theorem dX4_readsNumber_99 : decode cX4_readsNumber 99 = .ok (.iconst 1, 1) := by decide +kernel
theorem dX4_readsNumber_100 : decode cX4_readsNumber 100 = .ok (.ireturn, 1) := by decide +kernel
theorem dX4_fails_0 : decode cX4_fails 0 = .ok (.aload_n 0, 1) := by decide +kernel
theorem dX4_fails_1 : decode cX4_fails 1 = .ok (.iload_n 1, 1) := by decide +kernel
theorem dX4_fails_2 : decode cX4_fails 2 = .ok (.putfield 37, 3) := by decide +kernel
theorem dX4_fails_5 : decode cX4_fails 5 = .ok (.aload_n 0, 1) := by decide +kernel
theorem dX4_fails_6 : decode cX4_fails 6 = .ok (.aload_n 0, 1) := by decide +kernel
theorem dX4_fails_7 : decode cX4_fails 7 = .ok (.getfield 24, 3) := by decide +kernel
theorem dX4_fails_10 : decode cX4_fails 10 = .ok (.getfield 116, 3) := by decide +kernel
theorem dX4_fails_13 : decode cX4_fails 13 = .ok (.putfield 28, 3) := by decide +kernel
theorem dX4_fails_16 : decode cX4_fails 16 = .ok (.iconst 0, 1) := by decide +kernel
theorem dX4_fails_17 : decode cX4_fails 17 = .ok (.ireturn, 1) := by decide +kernel
theorem dX4_lineOfWord_0 : decode cX4_lineOfWord 0 = .ok (.iconst 0, 1) := by decide +kernel
theorem dX4_lineOfWord_1 : decode cX4_lineOfWord 1 = .ok (.istore_n 1, 1) := by decide +kernel
theorem dX4_lineOfWord_2 : decode cX4_lineOfWord 2 = .ok (.iload_n 1, 1) := by decide +kernel
theorem dX4_lineOfWord_3 : decode cX4_lineOfWord 3 = .ok (.bipush 7, 2) := by decide +kernel
theorem dX4_lineOfWord_5 : decode cX4_lineOfWord 5 = .ok (.if_icmp .ge 33, 3) := by decide +kernel
theorem dX4_lineOfWord_8 : decode cX4_lineOfWord 8 = .ok (.iload_n 1, 1) := by decide +kernel
theorem dX4_lineOfWord_9 : decode cX4_lineOfWord 9 = .ok (.invokestatic 73, 3) := by decide +kernel
theorem dX4_lineOfWord_12 : decode cX4_lineOfWord 12 = .ok (.astore_n 2, 1) := by decide +kernel
theorem dX4_lineOfWord_13 : decode cX4_lineOfWord 13 = .ok (.aload_n 0, 1) := by decide +kernel
theorem dX4_lineOfWord_14 : decode cX4_lineOfWord 14 = .ok (.getfield 24, 3) := by decide +kernel
theorem dX4_lineOfWord_17 : decode cX4_lineOfWord 17 = .ok (.aload_n 2, 1) := by decide +kernel
theorem dX4_lineOfWord_18 : decode cX4_lineOfWord 18 = .ok (.iconst 0, 1) := by decide +kernel
theorem dX4_lineOfWord_19 : decode cX4_lineOfWord 19 = .ok (.aload_n 2, 1) := by decide +kernel
theorem dX4_lineOfWord_20 : decode cX4_lineOfWord 20 = .ok (.iconst 0, 1) := by decide +kernel
theorem dX4_lineOfWord_21 : decode cX4_lineOfWord 21 = .ok (.invokestatic 97, 3) := by decide +kernel
theorem dX4_lineOfWord_24 : decode cX4_lineOfWord 24 = .ok (.invokevirtual 101, 3) := by decide +kernel
theorem dX4_lineOfWord_27 : decode cX4_lineOfWord 27 = .ok (.ifCond .eq 5, 3) := by decide +kernel
theorem dX4_lineOfWord_30 : decode cX4_lineOfWord 30 = .ok (.iload_n 1, 1) := by decide +kernel
theorem dX4_lineOfWord_31 : decode cX4_lineOfWord 31 = .ok (.ireturn, 1) := by decide +kernel
theorem dX4_lineOfWord_32 : decode cX4_lineOfWord 32 = .ok (.iinc 1 1, 3) := by decide +kernel
theorem dX4_lineOfWord_35 : decode cX4_lineOfWord 35 = .ok (.goto (-33), 3) := by decide +kernel
theorem dX4_lineOfWord_38 : decode cX4_lineOfWord 38 = .ok (.iconst (-1), 1) := by decide +kernel
theorem dX4_lineOfWord_39 : decode cX4_lineOfWord 39 = .ok (.ireturn, 1) := by decide +kernel
theorem dX4_formOf_0 : decode cX4_formOf 0 = .ok (.iload_n 0, 1) := by decide +kernel
theorem dX4_formOf_1 : decode cX4_formOf 1 = .ok (.tableswitch 57 0 5 #[39, 42, 45, 48, 51, 54], 39) := by decide +kernel
theorem dX4_formOf_40 : decode cX4_formOf 40 = .ok (.ldc 119, 2) := by decide +kernel
theorem dX4_formOf_42 : decode cX4_formOf 42 = .ok (.areturn, 1) := by decide +kernel
theorem dX4_formOf_43 : decode cX4_formOf 43 = .ok (.ldc 121, 2) := by decide +kernel
theorem dX4_formOf_45 : decode cX4_formOf 45 = .ok (.areturn, 1) := by decide +kernel
theorem dX4_formOf_46 : decode cX4_formOf 46 = .ok (.ldc 123, 2) := by decide +kernel
theorem dX4_formOf_48 : decode cX4_formOf 48 = .ok (.areturn, 1) := by decide +kernel
theorem dX4_formOf_49 : decode cX4_formOf 49 = .ok (.ldc 125, 2) := by decide +kernel
theorem dX4_formOf_51 : decode cX4_formOf 51 = .ok (.areturn, 1) := by decide +kernel
theorem dX4_formOf_52 : decode cX4_formOf 52 = .ok (.ldc 127, 2) := by decide +kernel
theorem dX4_formOf_54 : decode cX4_formOf 54 = .ok (.areturn, 1) := by decide +kernel
theorem dX4_formOf_55 : decode cX4_formOf 55 = .ok (.ldc 129, 2) := by decide +kernel
theorem dX4_formOf_57 : decode cX4_formOf 57 = .ok (.areturn, 1) := by decide +kernel
theorem dX4_formOf_58 : decode cX4_formOf 58 = .ok (.ldc 131, 2) := by decide +kernel
theorem dX4_formOf_60 : decode cX4_formOf 60 = .ok (.areturn, 1) := by decide +kernel
theorem dX4_wordEnd_0 : decode cX4_wordEnd 0 = .ok (.iload_n 1, 1) := by decide +kernel
theorem dX4_wordEnd_1 : decode cX4_wordEnd 1 = .ok (.istore_n 2, 1) := by decide +kernel
theorem dX4_wordEnd_2 : decode cX4_wordEnd 2 = .ok (.iload_n 2, 1) := by decide +kernel
theorem dX4_wordEnd_3 : decode cX4_wordEnd 3 = .ok (.aload_n 0, 1) := by decide +kernel
theorem dX4_wordEnd_4 : decode cX4_wordEnd 4 = .ok (.invokevirtual 77, 3) := by decide +kernel
theorem dX4_wordEnd_7 : decode cX4_wordEnd 7 = .ok (.if_icmp .ge 19, 3) := by decide +kernel
theorem dX4_wordEnd_10 : decode cX4_wordEnd 10 = .ok (.aload_n 0, 1) := by decide +kernel
theorem dX4_wordEnd_11 : decode cX4_wordEnd 11 = .ok (.iload_n 2, 1) := by decide +kernel
theorem dX4_wordEnd_12 : decode cX4_wordEnd 12 = .ok (.invokevirtual 81, 3) := by decide +kernel
theorem dX4_wordEnd_15 : decode cX4_wordEnd 15 = .ok (.bipush 32, 2) := by decide +kernel
theorem dX4_wordEnd_17 : decode cX4_wordEnd 17 = .ok (.if_icmp .eq 9, 3) := by decide +kernel
theorem dX4_wordEnd_20 : decode cX4_wordEnd 20 = .ok (.iinc 2 1, 3) := by decide +kernel
theorem dX4_wordEnd_23 : decode cX4_wordEnd 23 = .ok (.goto (-21), 3) := by decide +kernel
theorem dX4_wordEnd_26 : decode cX4_wordEnd 26 = .ok (.iload_n 2, 1) := by decide +kernel
theorem dX4_wordEnd_27 : decode cX4_wordEnd 27 = .ok (.ireturn, 1) := by decide +kernel
theorem dX4_isFull_0 : decode cX4_isFull 0 = .ok (.iload_n 1, 1) := by decide +kernel
theorem dX4_isFull_1 : decode cX4_isFull 1 = .ok (.tableswitch 67 1 5 #[35, 43, 67, 51, 59], 35) := by decide +kernel
theorem dX4_isFull_36 : decode cX4_isFull 36 = .ok (.aload_n 0, 1) := by decide +kernel
theorem dX4_isFull_37 : decode cX4_isFull 37 = .ok (.getfield 133, 3) := by decide +kernel
theorem dX4_isFull_40 : decode cX4_isFull 40 = .ok (.invokevirtual 137, 3) := by decide +kernel
theorem dX4_isFull_43 : decode cX4_isFull 43 = .ok (.ireturn, 1) := by decide +kernel
theorem dX4_isFull_44 : decode cX4_isFull 44 = .ok (.aload_n 0, 1) := by decide +kernel
theorem dX4_isFull_45 : decode cX4_isFull 45 = .ok (.getfield 142, 3) := by decide +kernel
theorem dX4_isFull_48 : decode cX4_isFull 48 = .ok (.invokevirtual 137, 3) := by decide +kernel
theorem dX4_isFull_51 : decode cX4_isFull 51 = .ok (.ireturn, 1) := by decide +kernel
theorem dX4_isFull_52 : decode cX4_isFull 52 = .ok (.aload_n 0, 1) := by decide +kernel
theorem dX4_isFull_53 : decode cX4_isFull 53 = .ok (.getfield 145, 3) := by decide +kernel
theorem dX4_isFull_56 : decode cX4_isFull 56 = .ok (.invokevirtual 137, 3) := by decide +kernel
theorem dX4_isFull_59 : decode cX4_isFull 59 = .ok (.ireturn, 1) := by decide +kernel
theorem dX4_isFull_60 : decode cX4_isFull 60 = .ok (.aload_n 0, 1) := by decide +kernel
theorem dX4_isFull_61 : decode cX4_isFull 61 = .ok (.getfield 148, 3) := by decide +kernel
theorem dX4_isFull_64 : decode cX4_isFull 64 = .ok (.invokevirtual 137, 3) := by decide +kernel
theorem dX4_isFull_67 : decode cX4_isFull 67 = .ok (.ireturn, 1) := by decide +kernel
theorem dX4_isFull_68 : decode cX4_isFull 68 = .ok (.iconst 0, 1) := by decide +kernel
theorem dX4_isFull_69 : decode cX4_isFull 69 = .ok (.ireturn, 1) := by decide +kernel
theorem dX4_least_0 : decode cX4_least 0 = .ok (.iload_n 1, 1) := by decide +kernel
theorem dX4_least_1 : decode cX4_least 1 = .ok (.lookupswitch 97 #[(0, 35), (2, 45), (5, 70)], 35) := by decide +kernel
theorem dX4_least_36 : decode cX4_least 36 = .ok (.iload_n 2, 1) := by decide +kernel
theorem dX4_least_37 : decode cX4_least 37 = .ok (.ifCond .ne 7, 3) := by decide +kernel
theorem dX4_least_40 : decode cX4_least 40 = .ok (.iconst 4, 1) := by decide +kernel
theorem dX4_least_41 : decode cX4_least 41 = .ok (.goto 4, 3) := by decide +kernel
theorem dX4_least_44 : decode cX4_least 44 = .ok (.iconst 0, 1) := by decide +kernel
theorem dX4_least_45 : decode cX4_least 45 = .ok (.ireturn, 1) := by decide +kernel
theorem dX4_least_46 : decode cX4_least 46 = .ok (.iload_n 2, 1) := by decide +kernel
theorem dX4_least_47 : decode cX4_least 47 = .ok (.iconst 1, 1) := by decide +kernel
theorem dX4_least_48 : decode cX4_least 48 = .ok (.if_icmp .ne 7, 3) := by decide +kernel
theorem dX4_least_51 : decode cX4_least 51 = .ok (.iconst 1, 1) := by decide +kernel
theorem dX4_least_52 : decode cX4_least 52 = .ok (.goto 18, 3) := by decide +kernel
theorem dX4_least_55 : decode cX4_least 55 = .ok (.iload_n 2, 1) := by decide +kernel
theorem dX4_least_56 : decode cX4_least 56 = .ok (.iconst 4, 1) := by decide +kernel
theorem dX4_least_57 : decode cX4_least 57 = .ok (.if_icmp .ne 12, 3) := by decide +kernel
theorem dX4_least_60 : decode cX4_least 60 = .ok (.aload_n 0, 1) := by decide +kernel
theorem dX4_least_61 : decode cX4_least 61 = .ok (.getfield 11, 3) := by decide +kernel
theorem dX4_least_64 : decode cX4_least 64 = .ok (.iconst 3, 1) := by decide +kernel
theorem dX4_least_65 : decode cX4_least 65 = .ok (.iaload, 1) := by decide +kernel
theorem dX4_least_66 : decode cX4_least 66 = .ok (.goto 4, 3) := by decide +kernel
theorem dX4_least_69 : decode cX4_least 69 = .ok (.iconst 0, 1) := by decide +kernel
theorem dX4_least_70 : decode cX4_least 70 = .ok (.ireturn, 1) := by decide +kernel
theorem dX4_least_71 : decode cX4_least 71 = .ok (.iload_n 2, 1) := by decide +kernel
theorem dX4_least_72 : decode cX4_least 72 = .ok (.iconst 2, 1) := by decide +kernel
theorem dX4_least_73 : decode cX4_least 73 = .ok (.if_icmp .ne 7, 3) := by decide +kernel
theorem dX4_least_76 : decode cX4_least 76 = .ok (.iconst 1, 1) := by decide +kernel
theorem dX4_least_77 : decode cX4_least 77 = .ok (.goto 20, 3) := by decide +kernel
theorem dX4_least_80 : decode cX4_least 80 = .ok (.iload_n 2, 1) := by decide +kernel
theorem dX4_least_81 : decode cX4_least 81 = .ok (.iconst 4, 1) := by decide +kernel
theorem dX4_least_82 : decode cX4_least 82 = .ok (.if_icmp .ne 14, 3) := by decide +kernel
theorem dX4_least_85 : decode cX4_least 85 = .ok (.aload_n 0, 1) := by decide +kernel
theorem dX4_least_86 : decode cX4_least 86 = .ok (.getfield 11, 3) := by decide +kernel
theorem dX4_least_89 : decode cX4_least 89 = .ok (.iconst 3, 1) := by decide +kernel
theorem dX4_least_90 : decode cX4_least 90 = .ok (.iaload, 1) := by decide +kernel
theorem dX4_least_91 : decode cX4_least 91 = .ok (.iconst 1, 1) := by decide +kernel
theorem dX4_least_92 : decode cX4_least 92 = .ok (.iadd, 1) := by decide +kernel
theorem dX4_least_93 : decode cX4_least 93 = .ok (.goto 4, 3) := by decide +kernel
theorem dX4_least_96 : decode cX4_least 96 = .ok (.iconst 0, 1) := by decide +kernel
theorem dX4_least_97 : decode cX4_least 97 = .ok (.ireturn, 1) := by decide +kernel
theorem dX4_least_98 : decode cX4_least 98 = .ok (.iconst 0, 1) := by decide +kernel
theorem dX4_least_99 : decode cX4_least 99 = .ok (.ireturn, 1) := by decide +kernel
theorem dX4_most_0 : decode cX4_most 0 = .ok (.aload_n 1, 1) := by decide +kernel
theorem dX4_most_1 : decode cX4_most 1 = .ok (.getfield 151, 3) := by decide +kernel
theorem dX4_most_4 : decode cX4_most 4 = .ok (.iconst 1, 1) := by decide +kernel
theorem dX4_most_5 : decode cX4_most 5 = .ok (.isub, 1) := by decide +kernel
theorem dX4_most_6 : decode cX4_most 6 = .ok (.istore 4, 2) := by decide +kernel
theorem dX4_most_8 : decode cX4_most 8 = .ok (.aload_n 1, 1) := by decide +kernel
theorem dX4_most_9 : decode cX4_most 9 = .ok (.getfield 133, 3) := by decide +kernel
theorem dX4_most_12 : decode cX4_most 12 = .ok (.getfield 154, 3) := by decide +kernel
theorem dX4_most_15 : decode cX4_most 15 = .ok (.iconst 1, 1) := by decide +kernel
theorem dX4_most_16 : decode cX4_most 16 = .ok (.isub, 1) := by decide +kernel
theorem dX4_most_17 : decode cX4_most 17 = .ok (.istore 5, 2) := by decide +kernel
theorem dX4_most_19 : decode cX4_most 19 = .ok (.iload_n 2, 1) := by decide +kernel
theorem dX4_most_20 : decode cX4_most 20 = .ok (.tableswitch 176 0 5 #[40, 68, 95, 117, 129, 152], 40) := by decide +kernel
theorem dX4_most_60 : decode cX4_most 60 = .ok (.iload_n 3, 1) := by decide +kernel
theorem dX4_most_61 : decode cX4_most 61 = .ok (.ifCond .ne 8, 3) := by decide +kernel
theorem dX4_most_64 : decode cX4_most 64 = .ok (.bipush 30, 2) := by decide +kernel
theorem dX4_most_66 : decode cX4_most 66 = .ok (.goto 21, 3) := by decide +kernel
theorem dX4_most_69 : decode cX4_most 69 = .ok (.iload_n 3, 1) := by decide +kernel
theorem dX4_most_70 : decode cX4_most 70 = .ok (.iconst 1, 1) := by decide +kernel
theorem dX4_most_71 : decode cX4_most 71 = .ok (.if_icmp .ne 8, 3) := by decide +kernel
theorem dX4_most_74 : decode cX4_most 74 = .ok (.bipush 100, 2) := by decide +kernel
theorem dX4_most_76 : decode cX4_most 76 = .ok (.goto 11, 3) := by decide +kernel
theorem dX4_most_79 : decode cX4_most 79 = .ok (.aload_n 0, 1) := by decide +kernel
theorem dX4_most_80 : decode cX4_most 80 = .ok (.getfield 11, 3) := by decide +kernel
theorem dX4_most_83 : decode cX4_most 83 = .ok (.iconst 0, 1) := by decide +kernel
theorem dX4_most_84 : decode cX4_most 84 = .ok (.iaload, 1) := by decide +kernel
theorem dX4_most_85 : decode cX4_most 85 = .ok (.iconst 1, 1) := by decide +kernel
theorem dX4_most_86 : decode cX4_most 86 = .ok (.isub, 1) := by decide +kernel
theorem dX4_most_87 : decode cX4_most 87 = .ok (.ireturn, 1) := by decide +kernel
theorem dX4_most_88 : decode cX4_most 88 = .ok (.iload_n 3, 1) := by decide +kernel
theorem dX4_most_89 : decode cX4_most 89 = .ok (.ifCond .ne 9, 3) := by decide +kernel
theorem dX4_most_92 : decode cX4_most 92 = .ok (.sipush 9999, 3) := by decide +kernel
theorem dX4_most_95 : decode cX4_most 95 = .ok (.goto 19, 3) := by decide +kernel
theorem dX4_most_98 : decode cX4_most 98 = .ok (.iload_n 3, 1) := by decide +kernel
theorem dX4_most_99 : decode cX4_most 99 = .ok (.iconst 1, 1) := by decide +kernel
theorem dX4_most_100 : decode cX4_most 100 = .ok (.if_icmp .ne 12, 3) := by decide +kernel
theorem dX4_most_103 : decode cX4_most 103 = .ok (.aload_n 0, 1) := by decide +kernel
theorem dX4_most_104 : decode cX4_most 104 = .ok (.getfield 11, 3) := by decide +kernel
theorem dX4_most_107 : decode cX4_most 107 = .ok (.iconst 0, 1) := by decide +kernel
theorem dX4_most_108 : decode cX4_most 108 = .ok (.iaload, 1) := by decide +kernel
theorem dX4_most_109 : decode cX4_most 109 = .ok (.goto 5, 3) := by decide +kernel
theorem dX4_most_112 : decode cX4_most 112 = .ok (.bipush 99, 2) := by decide +kernel
theorem dX4_most_114 : decode cX4_most 114 = .ok (.ireturn, 1) := by decide +kernel
theorem dX4_most_115 : decode cX4_most 115 = .ok (.iload_n 3, 1) := by decide +kernel
theorem dX4_most_116 : decode cX4_most 116 = .ok (.ifCond .ne 8, 3) := by decide +kernel
theorem dX4_most_119 : decode cX4_most 119 = .ok (.iload 5, 2) := by decide +kernel
theorem dX4_most_121 : decode cX4_most 121 = .ok (.goto 15, 3) := by decide +kernel
theorem dX4_most_124 : decode cX4_most 124 = .ok (.iload_n 3, 1) := by decide +kernel
theorem dX4_most_125 : decode cX4_most 125 = .ok (.iconst 2, 1) := by decide +kernel
theorem dX4_most_126 : decode cX4_most 126 = .ok (.if_icmp .gt 8, 3) := by decide +kernel
theorem dX4_most_129 : decode cX4_most 129 = .ok (.bipush 99, 2) := by decide +kernel
theorem dX4_most_131 : decode cX4_most 131 = .ok (.goto 5, 3) := by decide +kernel
theorem dX4_most_134 : decode cX4_most 134 = .ok (.iload 4, 2) := by decide +kernel
theorem dX4_most_136 : decode cX4_most 136 = .ok (.ireturn, 1) := by decide +kernel
theorem dX4_most_137 : decode cX4_most 137 = .ok (.iload_n 3, 1) := by decide +kernel
theorem dX4_most_138 : decode cX4_most 138 = .ok (.ifCond .ne 8, 3) := by decide +kernel
theorem dX4_most_141 : decode cX4_most 141 = .ok (.iload 4, 2) := by decide +kernel
theorem dX4_most_143 : decode cX4_most 143 = .ok (.goto 5, 3) := by decide +kernel
theorem dX4_most_146 : decode cX4_most 146 = .ok (.bipush 99, 2) := by decide +kernel
theorem dX4_most_148 : decode cX4_most 148 = .ok (.ireturn, 1) := by decide +kernel
theorem dX4_most_149 : decode cX4_most 149 = .ok (.iload_n 3, 1) := by decide +kernel
theorem dX4_most_150 : decode cX4_most 150 = .ok (.ifCond .ne 8, 3) := by decide +kernel
theorem dX4_most_153 : decode cX4_most 153 = .ok (.iload 4, 2) := by decide +kernel
theorem dX4_most_155 : decode cX4_most 155 = .ok (.goto 16, 3) := by decide +kernel
theorem dX4_most_158 : decode cX4_most 158 = .ok (.iload_n 3, 1) := by decide +kernel
theorem dX4_most_159 : decode cX4_most 159 = .ok (.iconst 1, 1) := by decide +kernel
theorem dX4_most_160 : decode cX4_most 160 = .ok (.if_icmp .ne 9, 3) := by decide +kernel
theorem dX4_most_163 : decode cX4_most 163 = .ok (.sipush 9999, 3) := by decide +kernel
theorem dX4_most_166 : decode cX4_most 166 = .ok (.goto 5, 3) := by decide +kernel
theorem dX4_most_169 : decode cX4_most 169 = .ok (.bipush 100, 2) := by decide +kernel
theorem dX4_most_171 : decode cX4_most 171 = .ok (.ireturn, 1) := by decide +kernel
theorem dX4_most_172 : decode cX4_most 172 = .ok (.iload_n 3, 1) := by decide +kernel
theorem dX4_most_173 : decode cX4_most 173 = .ok (.iconst 1, 1) := by decide +kernel
theorem dX4_most_174 : decode cX4_most 174 = .ok (.if_icmp .gt 8, 3) := by decide +kernel
theorem dX4_most_177 : decode cX4_most 177 = .ok (.iload 5, 2) := by decide +kernel
theorem dX4_most_179 : decode cX4_most 179 = .ok (.goto 16, 3) := by decide +kernel
theorem dX4_most_182 : decode cX4_most 182 = .ok (.iload_n 3, 1) := by decide +kernel
theorem dX4_most_183 : decode cX4_most 183 = .ok (.iconst 2, 1) := by decide +kernel
theorem dX4_most_184 : decode cX4_most 184 = .ok (.if_icmp .ne 9, 3) := by decide +kernel
theorem dX4_most_187 : decode cX4_most 187 = .ok (.sipush 9999, 3) := by decide +kernel
theorem dX4_most_190 : decode cX4_most 190 = .ok (.goto 5, 3) := by decide +kernel
theorem dX4_most_193 : decode cX4_most 193 = .ok (.iload 4, 2) := by decide +kernel
theorem dX4_most_195 : decode cX4_most 195 = .ok (.ireturn, 1) := by decide +kernel
theorem dX4_most_196 : decode cX4_most 196 = .ok (.iload_n 3, 1) := by decide +kernel
theorem dX4_most_197 : decode cX4_most 197 = .ok (.ifCond .ne 8, 3) := by decide +kernel
theorem dX4_most_200 : decode cX4_most 200 = .ok (.iload 5, 2) := by decide +kernel
theorem dX4_most_202 : decode cX4_most 202 = .ok (.goto 6, 3) := by decide +kernel
theorem dX4_most_205 : decode cX4_most 205 = .ok (.sipush 9999, 3) := by decide +kernel
theorem dX4_most_208 : decode cX4_most 208 = .ok (.ireturn, 1) := by decide +kernel
theorem dX4_keep_0 : decode cX4_keep 0 = .ok (.aload_n 1, 1) := by decide +kernel
theorem dX4_keep_1 : decode cX4_keep 1 = .ok (.dup, 1) := by decide +kernel
theorem dX4_keep_2 : decode cX4_keep 2 = .ok (.getfield 62, 3) := by decide +kernel
theorem dX4_keep_5 : decode cX4_keep 5 = .ok (.iconst 1, 1) := by decide +kernel
theorem dX4_keep_6 : decode cX4_keep 6 = .ok (.iadd, 1) := by decide +kernel
theorem dX4_keep_7 : decode cX4_keep 7 = .ok (.putfield 62, 3) := by decide +kernel
theorem dX4_keep_10 : decode cX4_keep 10 = .ok (.iload_n 2, 1) := by decide +kernel
theorem dX4_keep_11 : decode cX4_keep 11 = .ok (.tableswitch 181 0 5 #[37, 70, 102, 116, 135, 167], 37) := by decide +kernel
theorem dX4_keep_48 : decode cX4_keep 48 = .ok (.aload_n 1, 1) := by decide +kernel
theorem dX4_keep_49 : decode cX4_keep 49 = .ok (.aload_n 0, 1) := by decide +kernel
theorem dX4_keep_50 : decode cX4_keep 50 = .ok (.getfield 11, 3) := by decide +kernel
theorem dX4_keep_53 : decode cX4_keep 53 = .ok (.iconst 0, 1) := by decide +kernel
theorem dX4_keep_54 : decode cX4_keep 54 = .ok (.iaload, 1) := by decide +kernel
theorem dX4_keep_55 : decode cX4_keep 55 = .ok (.putfield 151, 3) := by decide +kernel
theorem dX4_keep_58 : decode cX4_keep 58 = .ok (.aload_n 1, 1) := by decide +kernel
theorem dX4_keep_59 : decode cX4_keep 59 = .ok (.aload_n 0, 1) := by decide +kernel
theorem dX4_keep_60 : decode cX4_keep 60 = .ok (.getfield 11, 3) := by decide +kernel
theorem dX4_keep_63 : decode cX4_keep 63 = .ok (.iconst 1, 1) := by decide +kernel
theorem dX4_keep_64 : decode cX4_keep 64 = .ok (.iaload, 1) := by decide +kernel
theorem dX4_keep_65 : decode cX4_keep 65 = .ok (.putfield 157, 3) := by decide +kernel
theorem dX4_keep_68 : decode cX4_keep 68 = .ok (.aload_n 1, 1) := by decide +kernel
theorem dX4_keep_69 : decode cX4_keep 69 = .ok (.aload_n 0, 1) := by decide +kernel
theorem dX4_keep_70 : decode cX4_keep 70 = .ok (.getfield 11, 3) := by decide +kernel
theorem dX4_keep_73 : decode cX4_keep 73 = .ok (.iconst 2, 1) := by decide +kernel
theorem dX4_keep_74 : decode cX4_keep 74 = .ok (.iaload, 1) := by decide +kernel
theorem dX4_keep_75 : decode cX4_keep 75 = .ok (.putfield 160, 3) := by decide +kernel
theorem dX4_keep_78 : decode cX4_keep 78 = .ok (.goto 134, 3) := by decide +kernel
theorem dX4_keep_81 : decode cX4_keep 81 = .ok (.aload_n 1, 1) := by decide +kernel
theorem dX4_keep_82 : decode cX4_keep 82 = .ok (.getfield 133, 3) := by decide +kernel
theorem dX4_keep_85 : decode cX4_keep 85 = .ok (.aload_n 0, 1) := by decide +kernel
theorem dX4_keep_86 : decode cX4_keep 86 = .ok (.getfield 11, 3) := by decide +kernel
theorem dX4_keep_89 : decode cX4_keep 89 = .ok (.invokevirtual 163, 3) := by decide +kernel
theorem dX4_keep_92 : decode cX4_keep 92 = .ok (.aload_n 1, 1) := by decide +kernel
theorem dX4_keep_93 : decode cX4_keep 93 = .ok (.getfield 133, 3) := by decide +kernel
theorem dX4_keep_96 : decode cX4_keep 96 = .ok (.aload_n 1, 1) := by decide +kernel
theorem dX4_keep_97 : decode cX4_keep 97 = .ok (.getfield 133, 3) := by decide +kernel
theorem dX4_keep_100 : decode cX4_keep 100 = .ok (.getfield 154, 3) := by decide +kernel
theorem dX4_keep_103 : decode cX4_keep 103 = .ok (.iconst 1, 1) := by decide +kernel
theorem dX4_keep_104 : decode cX4_keep 104 = .ok (.isub, 1) := by decide +kernel
theorem dX4_keep_105 : decode cX4_keep 105 = .ok (.iconst 4, 1) := by decide +kernel
theorem dX4_keep_106 : decode cX4_keep 106 = .ok (.iconst 0, 1) := by decide +kernel
theorem dX4_keep_107 : decode cX4_keep 107 = .ok (.invokevirtual 167, 3) := by decide +kernel
theorem dX4_keep_110 : decode cX4_keep 110 = .ok (.goto 102, 3) := by decide +kernel
theorem dX4_keep_113 : decode cX4_keep 113 = .ok (.aload_n 1, 1) := by decide +kernel
theorem dX4_keep_114 : decode cX4_keep 114 = .ok (.getfield 142, 3) := by decide +kernel
theorem dX4_keep_117 : decode cX4_keep 117 = .ok (.aload_n 0, 1) := by decide +kernel
theorem dX4_keep_118 : decode cX4_keep 118 = .ok (.getfield 11, 3) := by decide +kernel
theorem dX4_keep_121 : decode cX4_keep 121 = .ok (.invokevirtual 163, 3) := by decide +kernel
theorem dX4_keep_124 : decode cX4_keep 124 = .ok (.goto 88, 3) := by decide +kernel
theorem dX4_keep_127 : decode cX4_keep 127 = .ok (.aload_n 1, 1) := by decide +kernel
theorem dX4_keep_128 : decode cX4_keep 128 = .ok (.aload_n 0, 1) := by decide +kernel
theorem dX4_keep_129 : decode cX4_keep 129 = .ok (.getfield 11, 3) := by decide +kernel
theorem dX4_keep_132 : decode cX4_keep 132 = .ok (.iconst 0, 1) := by decide +kernel
theorem dX4_keep_133 : decode cX4_keep 133 = .ok (.iaload, 1) := by decide +kernel
theorem dX4_keep_134 : decode cX4_keep 134 = .ok (.aload_n 0, 1) := by decide +kernel
theorem dX4_keep_135 : decode cX4_keep 135 = .ok (.getfield 11, 3) := by decide +kernel
theorem dX4_keep_138 : decode cX4_keep 138 = .ok (.iconst 1, 1) := by decide +kernel
theorem dX4_keep_139 : decode cX4_keep 139 = .ok (.iaload, 1) := by decide +kernel
theorem dX4_keep_140 : decode cX4_keep 140 = .ok (.invokevirtual 171, 3) := by decide +kernel
theorem dX4_keep_143 : decode cX4_keep 143 = .ok (.goto 69, 3) := by decide +kernel
theorem dX4_keep_146 : decode cX4_keep 146 = .ok (.aload_n 1, 1) := by decide +kernel
theorem dX4_keep_147 : decode cX4_keep 147 = .ok (.getfield 145, 3) := by decide +kernel
theorem dX4_keep_150 : decode cX4_keep 150 = .ok (.aload_n 0, 1) := by decide +kernel
theorem dX4_keep_151 : decode cX4_keep 151 = .ok (.getfield 11, 3) := by decide +kernel
theorem dX4_keep_154 : decode cX4_keep 154 = .ok (.invokevirtual 163, 3) := by decide +kernel
theorem dX4_keep_157 : decode cX4_keep 157 = .ok (.aload_n 1, 1) := by decide +kernel
theorem dX4_keep_158 : decode cX4_keep 158 = .ok (.getfield 145, 3) := by decide +kernel
theorem dX4_keep_161 : decode cX4_keep 161 = .ok (.aload_n 1, 1) := by decide +kernel
theorem dX4_keep_162 : decode cX4_keep 162 = .ok (.getfield 145, 3) := by decide +kernel
theorem dX4_keep_165 : decode cX4_keep 165 = .ok (.getfield 154, 3) := by decide +kernel
theorem dX4_keep_168 : decode cX4_keep 168 = .ok (.iconst 1, 1) := by decide +kernel
theorem dX4_keep_169 : decode cX4_keep 169 = .ok (.isub, 1) := by decide +kernel
theorem dX4_keep_170 : decode cX4_keep 170 = .ok (.iconst 3, 1) := by decide +kernel
theorem dX4_keep_171 : decode cX4_keep 171 = .ok (.iconst (-1), 1) := by decide +kernel
theorem dX4_keep_172 : decode cX4_keep 172 = .ok (.invokevirtual 167, 3) := by decide +kernel
theorem dX4_keep_175 : decode cX4_keep 175 = .ok (.goto 37, 3) := by decide +kernel
theorem dX4_keep_178 : decode cX4_keep 178 = .ok (.aload_n 1, 1) := by decide +kernel
theorem dX4_keep_179 : decode cX4_keep 179 = .ok (.getfield 148, 3) := by decide +kernel
theorem dX4_keep_182 : decode cX4_keep 182 = .ok (.aload_n 0, 1) := by decide +kernel
theorem dX4_keep_183 : decode cX4_keep 183 = .ok (.getfield 11, 3) := by decide +kernel
theorem dX4_keep_186 : decode cX4_keep 186 = .ok (.invokevirtual 163, 3) := by decide +kernel
theorem dX4_keep_189 : decode cX4_keep 189 = .ok (.goto 23, 3) := by decide +kernel
theorem dX4_keep_192 : decode cX4_keep 192 = .ok (.aload_n 1, 1) := by decide +kernel
theorem dX4_keep_193 : decode cX4_keep 193 = .ok (.getfield 133, 3) := by decide +kernel
theorem dX4_keep_196 : decode cX4_keep 196 = .ok (.aload_n 0, 1) := by decide +kernel
theorem dX4_keep_197 : decode cX4_keep 197 = .ok (.getfield 11, 3) := by decide +kernel
theorem dX4_keep_200 : decode cX4_keep 200 = .ok (.iconst 0, 1) := by decide +kernel
theorem dX4_keep_201 : decode cX4_keep 201 = .ok (.iaload, 1) := by decide +kernel
theorem dX4_keep_202 : decode cX4_keep 202 = .ok (.iconst 4, 1) := by decide +kernel
theorem dX4_keep_203 : decode cX4_keep 203 = .ok (.aload_n 0, 1) := by decide +kernel
theorem dX4_keep_204 : decode cX4_keep 204 = .ok (.getfield 11, 3) := by decide +kernel
theorem dX4_keep_207 : decode cX4_keep 207 = .ok (.iconst 1, 1) := by decide +kernel
theorem dX4_keep_208 : decode cX4_keep 208 = .ok (.iaload, 1) := by decide +kernel
theorem dX4_keep_209 : decode cX4_keep 209 = .ok (.invokevirtual 167, 3) := by decide +kernel
theorem dX4_keep_212 : decode cX4_keep 212 = .ok (.return_, 1) := by decide +kernel
theorem dX5_init_0 : decode cX5_init 0 = .ok (.aload_n 0, 1) := by decide +kernel
theorem dX5_init_1 : decode cX5_init 1 = .ok (.invokespecial 1, 3) := by decide +kernel
theorem dX5_init_4 : decode cX5_init 4 = .ok (.aload_n 0, 1) := by decide +kernel
theorem dX5_init_5 : decode cX5_init 5 = .ok (.bipush 60, 2) := by decide +kernel
theorem dX5_init_7 : decode cX5_init 7 = .ok (.newarray .long, 2) := by decide +kernel
theorem dX5_init_9 : decode cX5_init 9 = .ok (.putfield 9, 3) := by decide +kernel
theorem dX5_init_12 : decode cX5_init 12 = .ok (.return_, 1) := by decide +kernel
theorem dX5_begin_0 : decode cX5_begin 0 = .ok (.aload_n 0, 1) := by decide +kernel
theorem dX5_begin_1 : decode cX5_begin 1 = .ok (.iload_n 1, 1) := by decide +kernel
theorem dX5_begin_2 : decode cX5_begin 2 = .ok (.putfield 13, 3) := by decide +kernel
theorem dX5_begin_5 : decode cX5_begin 5 = .ok (.aload_n 0, 1) := by decide +kernel
theorem dX5_begin_6 : decode cX5_begin 6 = .ok (.iconst 0, 1) := by decide +kernel
theorem dX5_begin_7 : decode cX5_begin 7 = .ok (.iload_n 2, 1) := by decide +kernel
theorem dX5_begin_8 : decode cX5_begin 8 = .ok (.bipush 60, 2) := by decide +kernel
theorem dX5_begin_10 : decode cX5_begin 10 = .ok (.invokestatic 17, 3) := by decide +kernel
theorem dX5_begin_13 : decode cX5_begin 13 = .ok (.invokestatic 23, 3) := by decide +kernel
theorem dX5_begin_16 : decode cX5_begin 16 = .ok (.putfield 26, 3) := by decide +kernel
theorem dX5_begin_19 : decode cX5_begin 19 = .ok (.aload_n 0, 1) := by decide +kernel
theorem dX5_begin_20 : decode cX5_begin 20 = .ok (.getfield 9, 3) := by decide +kernel
theorem dX5_begin_23 : decode cX5_begin 23 = .ok (.lconst 0, 1) := by decide +kernel
theorem dX5_begin_24 : decode cX5_begin 24 = .ok (.invokestatic 29, 3) := by decide +kernel
theorem dX5_begin_27 : decode cX5_begin 27 = .ok (.return_, 1) := by decide +kernel
theorem dX5_has_0 : decode cX5_has 0 = .ok (.iload_n 1, 1) := by decide +kernel
theorem dX5_has_1 : decode cX5_has 1 = .ok (.ifCond .lt 15, 3) := by decide +kernel
theorem dX5_has_4 : decode cX5_has 4 = .ok (.iload_n 1, 1) := by decide +kernel
theorem dX5_has_5 : decode cX5_has 5 = .ok (.aload_n 0, 1) := by decide +kernel
theorem dX5_has_6 : decode cX5_has 6 = .ok (.getfield 26, 3) := by decide +kernel
theorem dX5_has_9 : decode cX5_has 9 = .ok (.if_icmp .ge 7, 3) := by decide +kernel
theorem dX5_has_12 : decode cX5_has 12 = .ok (.iconst 1, 1) := by decide +kernel
theorem dX5_has_13 : decode cX5_has 13 = .ok (.goto 4, 3) := by decide +kernel
theorem dX5_has_16 : decode cX5_has 16 = .ok (.iconst 0, 1) := by decide +kernel
theorem dX5_has_17 : decode cX5_has 17 = .ok (.ireturn, 1) := by decide +kernel
theorem dX5_hasAll_0 : decode cX5_hasAll 0 = .ok (.iload_n 1, 1) := by decide +kernel
theorem dX5_hasAll_1 : decode cX5_hasAll 1 = .ok (.ifCond .lt 29, 3) := by decide +kernel
theorem dX5_hasAll_4 : decode cX5_hasAll 4 = .ok (.iload_n 2, 1) := by decide +kernel
theorem dX5_hasAll_5 : decode cX5_hasAll 5 = .ok (.ifCond .lt 25, 3) := by decide +kernel
theorem dX5_hasAll_8 : decode cX5_hasAll 8 = .ok (.iload_n 2, 1) := by decide +kernel
theorem dX5_hasAll_9 : decode cX5_hasAll 9 = .ok (.aload_n 0, 1) := by decide +kernel
theorem dX5_hasAll_10 : decode cX5_hasAll 10 = .ok (.getfield 26, 3) := by decide +kernel
theorem dX5_hasAll_13 : decode cX5_hasAll 13 = .ok (.if_icmp .gt 17, 3) := by decide +kernel
theorem dX5_hasAll_16 : decode cX5_hasAll 16 = .ok (.iload_n 1, 1) := by decide +kernel
theorem dX5_hasAll_17 : decode cX5_hasAll 17 = .ok (.aload_n 0, 1) := by decide +kernel
theorem dX5_hasAll_18 : decode cX5_hasAll 18 = .ok (.getfield 26, 3) := by decide +kernel
theorem dX5_hasAll_21 : decode cX5_hasAll 21 = .ok (.iload_n 2, 1) := by decide +kernel
theorem dX5_hasAll_22 : decode cX5_hasAll 22 = .ok (.isub, 1) := by decide +kernel
theorem dX5_hasAll_23 : decode cX5_hasAll 23 = .ok (.if_icmp .gt 7, 3) := by decide +kernel
theorem dX5_hasAll_26 : decode cX5_hasAll 26 = .ok (.iconst 1, 1) := by decide +kernel
theorem dX5_hasAll_27 : decode cX5_hasAll 27 = .ok (.goto 4, 3) := by decide +kernel
theorem dX5_hasAll_30 : decode cX5_hasAll 30 = .ok (.iconst 0, 1) := by decide +kernel
theorem dX5_hasAll_31 : decode cX5_hasAll 31 = .ok (.ireturn, 1) := by decide +kernel
theorem dX5_number_0 : decode cX5_number 0 = .ok (.aload_n 0, 1) := by decide +kernel
theorem dX5_number_1 : decode cX5_number 1 = .ok (.iload_n 1, 1) := by decide +kernel
theorem dX5_number_2 : decode cX5_number 2 = .ok (.invokevirtual 35, 3) := by decide +kernel
theorem dX5_number_5 : decode cX5_number 5 = .ok (.ifCond .eq 12, 3) := by decide +kernel
theorem dX5_number_8 : decode cX5_number 8 = .ok (.aload_n 0, 1) := by decide +kernel
theorem dX5_number_9 : decode cX5_number 9 = .ok (.getfield 9, 3) := by decide +kernel
theorem dX5_number_12 : decode cX5_number 12 = .ok (.iload_n 1, 1) := by decide +kernel
theorem dX5_number_13 : decode cX5_number 13 = .ok (.laload, 1) := by decide +kernel
theorem dX5_number_14 : decode cX5_number 14 = .ok (.goto 4, 3) := by decide +kernel
theorem dX5_number_17 : decode cX5_number 17 = .ok (.lconst 0, 1) := by decide +kernel
theorem dX5_number_18 : decode cX5_number 18 = .ok (.lreturn, 1) := by decide +kernel
theorem dX5_put_0 : decode cX5_put 0 = .ok (.aload_n 0, 1) := by decide +kernel
theorem dX5_put_1 : decode cX5_put 1 = .ok (.iload_n 1, 1) := by decide +kernel
theorem dX5_put_2 : decode cX5_put 2 = .ok (.invokevirtual 35, 3) := by decide +kernel
theorem dX5_put_5 : decode cX5_put 5 = .ok (.ifCond .eq 14, 3) := by decide +kernel
theorem dX5_put_8 : decode cX5_put 8 = .ok (.aload_n 0, 1) := by decide +kernel
theorem dX5_put_9 : decode cX5_put 9 = .ok (.getfield 9, 3) := by decide +kernel
theorem dX5_put_12 : decode cX5_put 12 = .ok (.iload_n 1, 1) := by decide +kernel
theorem dX5_put_13 : decode cX5_put 13 = .ok (.aload_n 0, 1) := by decide +kernel
theorem dX5_put_14 : decode cX5_put 14 = .ok (.lload_n 2, 1) := by decide +kernel
theorem dX5_put_15 : decode cX5_put 15 = .ok (.invokevirtual 39, 3) := by decide +kernel
theorem dX5_put_18 : decode cX5_put 18 = .ok (.lastore, 1) := by decide +kernel
theorem dX5_put_19 : decode cX5_put 19 = .ok (.return_, 1) := by decide +kernel
theorem dX5_cut_0 : decode cX5_cut 0 = .ok (.aload_n 0, 1) := by decide +kernel
theorem dX5_cut_1 : decode cX5_cut 1 = .ok (.getfield 13, 3) := by decide +kernel
theorem dX5_cut_4 : decode cX5_cut 4 = .ok (.tableswitch 42 0 2 #[28, 33, 38], 28) := by decide +kernel
theorem dX5_cut_32 : decode cX5_cut 32 = .ok (.lload_n 1, 1) := by decide +kernel
theorem dX5_cut_33 : decode cX5_cut 33 = .ok (.l2i, 1) := by decide +kernel
theorem dX5_cut_34 : decode cX5_cut 34 = .ok (.i2b, 1) := by decide +kernel
theorem dX5_cut_35 : decode cX5_cut 35 = .ok (.i2l, 1) := by decide +kernel
theorem dX5_cut_36 : decode cX5_cut 36 = .ok (.lreturn, 1) := by decide +kernel
theorem dX5_cut_37 : decode cX5_cut 37 = .ok (.lload_n 1, 1) := by decide +kernel
theorem dX5_cut_38 : decode cX5_cut 38 = .ok (.l2i, 1) := by decide +kernel
theorem dX5_cut_39 : decode cX5_cut 39 = .ok (.i2s, 1) := by decide +kernel
theorem dX5_cut_40 : decode cX5_cut 40 = .ok (.i2l, 1) := by decide +kernel
theorem dX5_cut_41 : decode cX5_cut 41 = .ok (.lreturn, 1) := by decide +kernel
theorem dX5_cut_42 : decode cX5_cut 42 = .ok (.lload_n 1, 1) := by decide +kernel
theorem dX5_cut_43 : decode cX5_cut 43 = .ok (.l2i, 1) := by decide +kernel
theorem dX5_cut_44 : decode cX5_cut 44 = .ok (.i2l, 1) := by decide +kernel
theorem dX5_cut_45 : decode cX5_cut 45 = .ok (.lreturn, 1) := by decide +kernel
theorem dX5_cut_46 : decode cX5_cut 46 = .ok (.lload_n 1, 1) := by decide +kernel
theorem dX5_cut_47 : decode cX5_cut 47 = .ok (.lreturn, 1) := by decide +kernel
theorem dX6_init_0 : decode cX6_init 0 = .ok (.aload_n 0, 1) := by decide +kernel
theorem dX6_init_1 : decode cX6_init 1 = .ok (.invokespecial 3, 3) := by decide +kernel
theorem dX6_init_4 : decode cX6_init 4 = .ok (.aload_n 0, 1) := by decide +kernel
theorem dX6_init_5 : decode cX6_init 5 = .ok (.sipush 1600, 3) := by decide +kernel
theorem dX6_init_8 : decode cX6_init 8 = .ok (.newarray .byte, 2) := by decide +kernel
theorem dX6_init_10 : decode cX6_init 10 = .ok (.putfield 11, 3) := by decide +kernel
theorem dX6_init_13 : decode cX6_init 13 = .ok (.return_, 1) := by decide +kernel
theorem dX6_hasPlaceFor_0 : decode cX6_hasPlaceFor 0 = .ok (.aload_n 0, 1) := by decide +kernel
theorem dX6_hasPlaceFor_1 : decode cX6_hasPlaceFor 1 = .ok (.getfield 15, 3) := by decide +kernel
theorem dX6_hasPlaceFor_4 : decode cX6_hasPlaceFor 4 = .ok (.iload_n 1, 1) := by decide +kernel
theorem dX6_hasPlaceFor_5 : decode cX6_hasPlaceFor 5 = .ok (.iadd, 1) := by decide +kernel
theorem dX6_hasPlaceFor_6 : decode cX6_hasPlaceFor 6 = .ok (.sipush 1600, 3) := by decide +kernel
theorem dX6_hasPlaceFor_9 : decode cX6_hasPlaceFor 9 = .ok (.if_icmp .gt 7, 3) := by decide +kernel
theorem dX6_hasPlaceFor_12 : decode cX6_hasPlaceFor 12 = .ok (.iconst 1, 1) := by decide +kernel
theorem dX6_hasPlaceFor_13 : decode cX6_hasPlaceFor 13 = .ok (.goto 4, 3) := by decide +kernel
theorem dX6_hasPlaceFor_16 : decode cX6_hasPlaceFor 16 = .ok (.iconst 0, 1) := by decide +kernel
theorem dX6_hasPlaceFor_17 : decode cX6_hasPlaceFor 17 = .ok (.ireturn, 1) := by decide +kernel
theorem dX6_append_0 : decode cX6_append 0 = .ok (.bipush 24, 2) := by decide +kernel
theorem dX6_append_2 : decode cX6_append 2 = .ok (.istore_n 2, 1) := by decide +kernel
theorem dX6_append_3 : decode cX6_append 3 = .ok (.iload_n 2, 1) := by decide +kernel
theorem dX6_append_4 : decode cX6_append 4 = .ok (.ifCond .lt 42, 3) := by decide +kernel
theorem dX6_append_7 : decode cX6_append 7 = .ok (.aload_n 0, 1) := by decide +kernel
theorem dX6_append_8 : decode cX6_append 8 = .ok (.getfield 15, 3) := by decide +kernel
theorem dX6_append_11 : decode cX6_append 11 = .ok (.sipush 1600, 3) := by decide +kernel
theorem dX6_append_14 : decode cX6_append 14 = .ok (.if_icmp .ge 26, 3) := by decide +kernel
theorem dX6_append_17 : decode cX6_append 17 = .ok (.aload_n 0, 1) := by decide +kernel
theorem dX6_append_18 : decode cX6_append 18 = .ok (.getfield 11, 3) := by decide +kernel
theorem dX6_append_21 : decode cX6_append 21 = .ok (.aload_n 0, 1) := by decide +kernel
theorem dX6_append_22 : decode cX6_append 22 = .ok (.getfield 15, 3) := by decide +kernel
theorem dX6_append_25 : decode cX6_append 25 = .ok (.iload_n 1, 1) := by decide +kernel
theorem dX6_append_26 : decode cX6_append 26 = .ok (.iload_n 2, 1) := by decide +kernel
theorem dX6_append_27 : decode cX6_append 27 = .ok (.ishr, 1) := by decide +kernel
theorem dX6_append_28 : decode cX6_append 28 = .ok (.i2b, 1) := by decide +kernel
theorem dX6_append_29 : decode cX6_append 29 = .ok (.bastore, 1) := by decide +kernel
theorem dX6_append_30 : decode cX6_append 30 = .ok (.aload_n 0, 1) := by decide +kernel
theorem dX6_append_31 : decode cX6_append 31 = .ok (.dup, 1) := by decide +kernel
theorem dX6_append_32 : decode cX6_append 32 = .ok (.getfield 15, 3) := by decide +kernel
theorem dX6_append_35 : decode cX6_append 35 = .ok (.iconst 1, 1) := by decide +kernel
theorem dX6_append_36 : decode cX6_append 36 = .ok (.iadd, 1) := by decide +kernel
theorem dX6_append_37 : decode cX6_append 37 = .ok (.putfield 15, 3) := by decide +kernel
theorem dX6_append_40 : decode cX6_append 40 = .ok (.iinc 2 (-8), 3) := by decide +kernel
theorem dX6_append_43 : decode cX6_append 43 = .ok (.goto (-40), 3) := by decide +kernel
theorem dX6_append_46 : decode cX6_append 46 = .ok (.return_, 1) := by decide +kernel
theorem dX6_at_0 : decode cX6_at 0 = .ok (.iload_n 1, 1) := by decide +kernel
theorem dX6_at_1 : decode cX6_at 1 = .ok (.ifCond .lt 24, 3) := by decide +kernel
theorem dX6_at_4 : decode cX6_at 4 = .ok (.iload_n 1, 1) := by decide +kernel
theorem dX6_at_5 : decode cX6_at 5 = .ok (.aload_n 0, 1) := by decide +kernel
theorem dX6_at_6 : decode cX6_at 6 = .ok (.getfield 15, 3) := by decide +kernel
theorem dX6_at_9 : decode cX6_at 9 = .ok (.if_icmp .ge 16, 3) := by decide +kernel
theorem dX6_at_12 : decode cX6_at 12 = .ok (.aload_n 0, 1) := by decide +kernel
theorem dX6_at_13 : decode cX6_at 13 = .ok (.getfield 11, 3) := by decide +kernel
theorem dX6_at_16 : decode cX6_at 16 = .ok (.iload_n 1, 1) := by decide +kernel
theorem dX6_at_17 : decode cX6_at 17 = .ok (.baload, 1) := by decide +kernel
theorem dX6_at_18 : decode cX6_at 18 = .ok (.sipush 255, 3) := by decide +kernel
theorem dX6_at_21 : decode cX6_at 21 = .ok (.iand, 1) := by decide +kernel
theorem dX6_at_22 : decode cX6_at 22 = .ok (.goto 4, 3) := by decide +kernel
theorem dX6_at_25 : decode cX6_at 25 = .ok (.iconst (-1), 1) := by decide +kernel
theorem dX6_at_26 : decode cX6_at 26 = .ok (.ireturn, 1) := by decide +kernel
theorem dX7_init_0 : decode cX7_init 0 = .ok (.aload_n 0, 1) := by decide +kernel
theorem dX7_init_1 : decode cX7_init 1 = .ok (.invokespecial 3, 3) := by decide +kernel
theorem dX7_init_4 : decode cX7_init 4 = .ok (.aload_n 0, 1) := by decide +kernel
theorem dX7_init_5 : decode cX7_init 5 = .ok (.aload_n 1, 1) := by decide +kernel
theorem dX7_init_6 : decode cX7_init 6 = .ok (.putfield 9, 3) := by decide +kernel
theorem dX7_init_9 : decode cX7_init 9 = .ok (.return_, 1) := by decide +kernel
theorem dX7_begin_0 : decode cX7_begin 0 = .ok (.aload_n 0, 1) := by decide +kernel
theorem dX7_begin_1 : decode cX7_begin 1 = .ok (.iconst 0, 1) := by decide +kernel
theorem dX7_begin_2 : decode cX7_begin 2 = .ok (.putfield 15, 3) := by decide +kernel
theorem dX7_begin_5 : decode cX7_begin 5 = .ok (.aload_n 0, 1) := by decide +kernel
theorem dX7_begin_6 : decode cX7_begin 6 = .ok (.iconst 0, 1) := by decide +kernel
theorem dX7_begin_7 : decode cX7_begin 7 = .ok (.putfield 19, 3) := by decide +kernel
theorem dX7_begin_10 : decode cX7_begin 10 = .ok (.aload_n 0, 1) := by decide +kernel
theorem dX7_begin_11 : decode cX7_begin 11 = .ok (.iconst 0, 1) := by decide +kernel
theorem dX7_begin_12 : decode cX7_begin 12 = .ok (.putfield 22, 3) := by decide +kernel
theorem dX7_begin_15 : decode cX7_begin 15 = .ok (.aload_n 0, 1) := by decide +kernel
theorem dX7_begin_16 : decode cX7_begin 16 = .ok (.iconst 0, 1) := by decide +kernel
theorem dX7_begin_17 : decode cX7_begin 17 = .ok (.putfield 25, 3) := by decide +kernel
theorem dX7_begin_20 : decode cX7_begin 20 = .ok (.return_, 1) := by decide +kernel
theorem dX7_step_0 : decode cX7_step 0 = .ok (.aload_n 0, 1) := by decide +kernel
theorem dX7_step_1 : decode cX7_step 1 = .ok (.aload_n 0, 1) := by decide +kernel
theorem dX7_step_2 : decode cX7_step 2 = .ok (.getfield 22, 3) := by decide +kernel
theorem dX7_step_5 : decode cX7_step 5 = .ok (.putfield 19, 3) := by decide +kernel
theorem dX7_step_8 : decode cX7_step 8 = .ok (.aload_n 0, 1) := by decide +kernel
theorem dX7_step_9 : decode cX7_step 9 = .ok (.getfield 19, 3) := by decide +kernel
theorem dX7_step_12 : decode cX7_step 12 = .ok (.aload_n 0, 1) := by decide +kernel
theorem dX7_step_13 : decode cX7_step 13 = .ok (.getfield 9, 3) := by decide +kernel
theorem dX7_step_16 : decode cX7_step 16 = .ok (.getfield 28, 3) := by decide +kernel
theorem dX7_step_19 : decode cX7_step 19 = .ok (.if_icmp .ge 33, 3) := by decide +kernel
theorem dX7_step_22 : decode cX7_step 22 = .ok (.aload_n 0, 1) := by decide +kernel
theorem dX7_step_23 : decode cX7_step 23 = .ok (.getfield 9, 3) := by decide +kernel
theorem dX7_step_26 : decode cX7_step 26 = .ok (.aload_n 0, 1) := by decide +kernel
theorem dX7_step_27 : decode cX7_step 27 = .ok (.getfield 19, 3) := by decide +kernel
theorem dX7_step_30 : decode cX7_step 30 = .ok (.invokevirtual 33, 3) := by decide +kernel
theorem dX7_step_33 : decode cX7_step 33 = .ok (.invokestatic 37, 3) := by decide +kernel
theorem dX7_step_36 : decode cX7_step 36 = .ok (.ifCond .eq 16, 3) := by decide +kernel
theorem dX7_step_39 : decode cX7_step 39 = .ok (.aload_n 0, 1) := by decide +kernel
theorem dX7_step_40 : decode cX7_step 40 = .ok (.dup, 1) := by decide +kernel
theorem dX7_step_41 : decode cX7_step 41 = .ok (.getfield 19, 3) := by decide +kernel
theorem dX7_step_44 : decode cX7_step 44 = .ok (.iconst 1, 1) := by decide +kernel
theorem dX7_step_45 : decode cX7_step 45 = .ok (.iadd, 1) := by decide +kernel
theorem dX7_step_46 : decode cX7_step 46 = .ok (.putfield 19, 3) := by decide +kernel
theorem dX7_step_49 : decode cX7_step 49 = .ok (.goto (-41), 3) := by decide +kernel
theorem dX7_step_52 : decode cX7_step 52 = .ok (.aload_n 0, 1) := by decide +kernel
theorem dX7_step_53 : decode cX7_step 53 = .ok (.aload_n 0, 1) := by decide +kernel
theorem dX7_step_54 : decode cX7_step 54 = .ok (.getfield 19, 3) := by decide +kernel
theorem dX7_step_57 : decode cX7_step 57 = .ok (.putfield 22, 3) := by decide +kernel
theorem dX7_step_60 : decode cX7_step 60 = .ok (.aload_n 0, 1) := by decide +kernel
theorem dX7_step_61 : decode cX7_step 61 = .ok (.getfield 9, 3) := by decide +kernel
theorem dX7_step_64 : decode cX7_step 64 = .ok (.aload_n 0, 1) := by decide +kernel
theorem dX7_step_65 : decode cX7_step 65 = .ok (.getfield 19, 3) := by decide +kernel
theorem dX7_step_68 : decode cX7_step 68 = .ok (.invokevirtual 33, 3) := by decide +kernel
theorem dX7_step_71 : decode cX7_step 71 = .ok (.istore_n 1, 1) := by decide +kernel
theorem dX7_step_72 : decode cX7_step 72 = .ok (.iload_n 1, 1) := by decide +kernel
theorem dX7_step_73 : decode cX7_step 73 = .ok (.iconst (-1), 1) := by decide +kernel
theorem dX7_step_74 : decode cX7_step 74 = .ok (.if_icmp .ne 11, 3) := by decide +kernel
theorem dX7_step_77 : decode cX7_step 77 = .ok (.aload_n 0, 1) := by decide +kernel
theorem dX7_step_78 : decode cX7_step 78 = .ok (.iconst 0, 1) := by decide +kernel
theorem dX7_step_79 : decode cX7_step 79 = .ok (.putfield 15, 3) := by decide +kernel
theorem dX7_step_82 : decode cX7_step 82 = .ok (.goto 103, 3) := by decide +kernel
theorem dX7_step_85 : decode cX7_step 85 = .ok (.iload_n 1, 1) := by decide +kernel
theorem dX7_step_86 : decode cX7_step 86 = .ok (.invokestatic 41, 3) := by decide +kernel
theorem dX7_step_89 : decode cX7_step 89 = .ok (.ifCond .eq 52, 3) := by decide +kernel
theorem dX7_step_92 : decode cX7_step 92 = .ok (.aload_n 0, 1) := by decide +kernel
theorem dX7_step_93 : decode cX7_step 93 = .ok (.iconst 1, 1) := by decide +kernel
theorem dX7_step_94 : decode cX7_step 94 = .ok (.putfield 15, 3) := by decide +kernel
theorem dX7_step_97 : decode cX7_step 97 = .ok (.aload_n 0, 1) := by decide +kernel
theorem dX7_step_98 : decode cX7_step 98 = .ok (.getfield 22, 3) := by decide +kernel
theorem dX7_step_101 : decode cX7_step 101 = .ok (.aload_n 0, 1) := by decide +kernel
theorem dX7_step_102 : decode cX7_step 102 = .ok (.getfield 9, 3) := by decide +kernel
theorem dX7_step_105 : decode cX7_step 105 = .ok (.getfield 28, 3) := by decide +kernel
theorem dX7_step_108 : decode cX7_step 108 = .ok (.if_icmp .ge 77, 3) := by decide +kernel
theorem dX7_step_111 : decode cX7_step 111 = .ok (.aload_n 0, 1) := by decide +kernel
theorem dX7_step_112 : decode cX7_step 112 = .ok (.getfield 9, 3) := by decide +kernel
theorem dX7_step_115 : decode cX7_step 115 = .ok (.aload_n 0, 1) := by decide +kernel
theorem dX7_step_116 : decode cX7_step 116 = .ok (.getfield 22, 3) := by decide +kernel
theorem dX7_step_119 : decode cX7_step 119 = .ok (.invokevirtual 33, 3) := by decide +kernel
theorem dX7_step_122 : decode cX7_step 122 = .ok (.invokestatic 41, 3) := by decide +kernel
theorem dX7_step_125 : decode cX7_step 125 = .ok (.ifCond .eq 60, 3) := by decide +kernel
theorem dX7_step_128 : decode cX7_step 128 = .ok (.aload_n 0, 1) := by decide +kernel
theorem dX7_step_129 : decode cX7_step 129 = .ok (.dup, 1) := by decide +kernel
theorem dX7_step_130 : decode cX7_step 130 = .ok (.getfield 22, 3) := by decide +kernel
theorem dX7_step_133 : decode cX7_step 133 = .ok (.iconst 1, 1) := by decide +kernel
theorem dX7_step_134 : decode cX7_step 134 = .ok (.iadd, 1) := by decide +kernel
theorem dX7_step_135 : decode cX7_step 135 = .ok (.putfield 22, 3) := by decide +kernel
theorem dX7_step_138 : decode cX7_step 138 = .ok (.goto (-41), 3) := by decide +kernel
theorem dX7_step_141 : decode cX7_step 141 = .ok (.iload_n 1, 1) := by decide +kernel
theorem dX7_step_142 : decode cX7_step 142 = .ok (.invokestatic 44, 3) := by decide +kernel
theorem dX7_step_145 : decode cX7_step 145 = .ok (.ifCond .eq 15, 3) := by decide +kernel
theorem dX7_step_148 : decode cX7_step 148 = .ok (.aload_n 0, 1) := by decide +kernel
theorem dX7_step_149 : decode cX7_step 149 = .ok (.iconst 2, 1) := by decide +kernel
theorem dX7_step_150 : decode cX7_step 150 = .ok (.putfield 15, 3) := by decide +kernel
theorem dX7_step_153 : decode cX7_step 153 = .ok (.aload_n 0, 1) := by decide +kernel
theorem dX7_step_154 : decode cX7_step 154 = .ok (.invokevirtual 47, 3) := by decide +kernel
theorem dX7_step_157 : decode cX7_step 157 = .ok (.goto 28, 3) := by decide +kernel
theorem dX7_step_160 : decode cX7_step 160 = .ok (.aload_n 0, 1) := by decide +kernel
theorem dX7_step_161 : decode cX7_step 161 = .ok (.iload_n 1, 1) := by decide +kernel
theorem dX7_step_162 : decode cX7_step 162 = .ok (.bipush 59, 2) := by decide +kernel
theorem dX7_step_164 : decode cX7_step 164 = .ok (.if_icmp .ne 7, 3) := by decide +kernel
theorem dX7_step_167 : decode cX7_step 167 = .ok (.iconst 3, 1) := by decide +kernel
theorem dX7_step_168 : decode cX7_step 168 = .ok (.goto 4, 3) := by decide +kernel
theorem dX7_step_171 : decode cX7_step 171 = .ok (.iconst 4, 1) := by decide +kernel
theorem dX7_step_172 : decode cX7_step 172 = .ok (.putfield 15, 3) := by decide +kernel
theorem dX7_step_175 : decode cX7_step 175 = .ok (.aload_n 0, 1) := by decide +kernel
theorem dX7_step_176 : decode cX7_step 176 = .ok (.dup, 1) := by decide +kernel
theorem dX7_step_177 : decode cX7_step 177 = .ok (.getfield 22, 3) := by decide +kernel
theorem dX7_step_180 : decode cX7_step 180 = .ok (.iconst 1, 1) := by decide +kernel
theorem dX7_step_181 : decode cX7_step 181 = .ok (.iadd, 1) := by decide +kernel
theorem dX7_step_182 : decode cX7_step 182 = .ok (.putfield 22, 3) := by decide +kernel
theorem dX7_step_185 : decode cX7_step 185 = .ok (.return_, 1) := by decide +kernel
theorem dX7_stepNumber_0 : decode cX7_stepNumber 0 = .ok (.aload_n 0, 1) := by decide +kernel
theorem dX7_stepNumber_1 : decode cX7_stepNumber 1 = .ok (.iconst 0, 1) := by decide +kernel
theorem dX7_stepNumber_2 : decode cX7_stepNumber 2 = .ok (.putfield 25, 3) := by decide +kernel
theorem dX7_stepNumber_5 : decode cX7_stepNumber 5 = .ok (.aload_n 0, 1) := by decide +kernel
theorem dX7_stepNumber_6 : decode cX7_stepNumber 6 = .ok (.getfield 22, 3) := by decide +kernel
theorem dX7_stepNumber_9 : decode cX7_stepNumber 9 = .ok (.aload_n 0, 1) := by decide +kernel
theorem dX7_stepNumber_10 : decode cX7_stepNumber 10 = .ok (.getfield 9, 3) := by decide +kernel
theorem dX7_stepNumber_13 : decode cX7_stepNumber 13 = .ok (.getfield 28, 3) := by decide +kernel
theorem dX7_stepNumber_16 : decode cX7_stepNumber 16 = .ok (.if_icmp .ge 64, 3) := by decide +kernel
theorem dX7_stepNumber_19 : decode cX7_stepNumber 19 = .ok (.aload_n 0, 1) := by decide +kernel
theorem dX7_stepNumber_20 : decode cX7_stepNumber 20 = .ok (.getfield 9, 3) := by decide +kernel
theorem dX7_stepNumber_23 : decode cX7_stepNumber 23 = .ok (.aload_n 0, 1) := by decide +kernel
theorem dX7_stepNumber_24 : decode cX7_stepNumber 24 = .ok (.getfield 22, 3) := by decide +kernel
theorem dX7_stepNumber_27 : decode cX7_stepNumber 27 = .ok (.invokevirtual 33, 3) := by decide +kernel
theorem dX7_stepNumber_30 : decode cX7_stepNumber 30 = .ok (.invokestatic 44, 3) := by decide +kernel
theorem dX7_stepNumber_33 : decode cX7_stepNumber 33 = .ok (.ifCond .eq 47, 3) := by decide +kernel
theorem dX7_stepNumber_36 : decode cX7_stepNumber 36 = .ok (.aload_n 0, 1) := by decide +kernel
theorem dX7_stepNumber_37 : decode cX7_stepNumber 37 = .ok (.ldc 50, 2) := by decide +kernel
theorem dX7_stepNumber_39 : decode cX7_stepNumber 39 = .ok (.aload_n 0, 1) := by decide +kernel
theorem dX7_stepNumber_40 : decode cX7_stepNumber 40 = .ok (.getfield 25, 3) := by decide +kernel
theorem dX7_stepNumber_43 : decode cX7_stepNumber 43 = .ok (.bipush 10, 2) := by decide +kernel
theorem dX7_stepNumber_45 : decode cX7_stepNumber 45 = .ok (.imul, 1) := by decide +kernel
theorem dX7_stepNumber_46 : decode cX7_stepNumber 46 = .ok (.aload_n 0, 1) := by decide +kernel
theorem dX7_stepNumber_47 : decode cX7_stepNumber 47 = .ok (.getfield 9, 3) := by decide +kernel
theorem dX7_stepNumber_50 : decode cX7_stepNumber 50 = .ok (.aload_n 0, 1) := by decide +kernel
theorem dX7_stepNumber_51 : decode cX7_stepNumber 51 = .ok (.getfield 22, 3) := by decide +kernel
theorem dX7_stepNumber_54 : decode cX7_stepNumber 54 = .ok (.invokevirtual 33, 3) := by decide +kernel
theorem dX7_stepNumber_57 : decode cX7_stepNumber 57 = .ok (.iadd, 1) := by decide +kernel
theorem dX7_stepNumber_58 : decode cX7_stepNumber 58 = .ok (.bipush 48, 2) := by decide +kernel
theorem dX7_stepNumber_60 : decode cX7_stepNumber 60 = .ok (.isub, 1) := by decide +kernel
theorem dX7_stepNumber_61 : decode cX7_stepNumber 61 = .ok (.invokestatic 51, 3) := by decide +kernel
theorem dX7_stepNumber_64 : decode cX7_stepNumber 64 = .ok (.putfield 25, 3) := by decide +kernel
theorem dX7_stepNumber_67 : decode cX7_stepNumber 67 = .ok (.aload_n 0, 1) := by decide +kernel
theorem dX7_stepNumber_68 : decode cX7_stepNumber 68 = .ok (.dup, 1) := by decide +kernel
theorem dX7_stepNumber_69 : decode cX7_stepNumber 69 = .ok (.getfield 22, 3) := by decide +kernel
theorem dX7_stepNumber_72 : decode cX7_stepNumber 72 = .ok (.iconst 1, 1) := by decide +kernel
theorem dX7_stepNumber_73 : decode cX7_stepNumber 73 = .ok (.iadd, 1) := by decide +kernel
theorem dX7_stepNumber_74 : decode cX7_stepNumber 74 = .ok (.putfield 22, 3) := by decide +kernel
theorem dX7_stepNumber_77 : decode cX7_stepNumber 77 = .ok (.goto (-72), 3) := by decide +kernel
theorem dX7_stepNumber_80 : decode cX7_stepNumber 80 = .ok (.return_, 1) := by decide +kernel
theorem dX7_isWord_0 : decode cX7_isWord 0 = .ok (.aload_n 0, 1) := by decide +kernel
theorem dX7_isWord_1 : decode cX7_isWord 1 = .ok (.getfield 15, 3) := by decide +kernel
theorem dX7_isWord_4 : decode cX7_isWord 4 = .ok (.iconst 1, 1) := by decide +kernel
theorem dX7_isWord_5 : decode cX7_isWord 5 = .ok (.if_icmp .ne 18, 3) := by decide +kernel
theorem dX7_isWord_8 : decode cX7_isWord 8 = .ok (.aload_n 0, 1) := by decide +kernel
theorem dX7_isWord_9 : decode cX7_isWord 9 = .ok (.getfield 22, 3) := by decide +kernel
theorem dX7_isWord_12 : decode cX7_isWord 12 = .ok (.aload_n 0, 1) := by decide +kernel
theorem dX7_isWord_13 : decode cX7_isWord 13 = .ok (.getfield 19, 3) := by decide +kernel
theorem dX7_isWord_16 : decode cX7_isWord 16 = .ok (.isub, 1) := by decide +kernel
theorem dX7_isWord_17 : decode cX7_isWord 17 = .ok (.iload_n 3, 1) := by decide +kernel
theorem dX7_isWord_18 : decode cX7_isWord 18 = .ok (.iload_n 2, 1) := by decide +kernel
theorem dX7_isWord_19 : decode cX7_isWord 19 = .ok (.isub, 1) := by decide +kernel
theorem dX7_isWord_20 : decode cX7_isWord 20 = .ok (.if_icmp .eq 5, 3) := by decide +kernel
theorem dX7_isWord_23 : decode cX7_isWord 23 = .ok (.iconst 0, 1) := by decide +kernel
theorem dX7_isWord_24 : decode cX7_isWord 24 = .ok (.ireturn, 1) := by decide +kernel
theorem dX7_isWord_25 : decode cX7_isWord 25 = .ok (.iload_n 2, 1) := by decide +kernel
theorem dX7_isWord_26 : decode cX7_isWord 26 = .ok (.istore 4, 2) := by decide +kernel
theorem dX7_isWord_28 : decode cX7_isWord 28 = .ok (.iload 4, 2) := by decide +kernel
theorem dX7_isWord_30 : decode cX7_isWord 30 = .ok (.iload_n 3, 1) := by decide +kernel
theorem dX7_isWord_31 : decode cX7_isWord 31 = .ok (.if_icmp .ge 45, 3) := by decide +kernel
theorem dX7_isWord_34 : decode cX7_isWord 34 = .ok (.iload 4, 2) := by decide +kernel
theorem dX7_isWord_36 : decode cX7_isWord 36 = .ok (.aload_n 1, 1) := by decide +kernel
theorem dX7_isWord_37 : decode cX7_isWord 37 = .ok (.invokevirtual 57, 3) := by decide +kernel
theorem dX7_isWord_40 : decode cX7_isWord 40 = .ok (.if_icmp .ge 36, 3) := by decide +kernel
theorem dX7_isWord_43 : decode cX7_isWord 43 = .ok (.aload_n 1, 1) := by decide +kernel
theorem dX7_isWord_44 : decode cX7_isWord 44 = .ok (.iload 4, 2) := by decide +kernel
theorem dX7_isWord_46 : decode cX7_isWord 46 = .ok (.invokevirtual 62, 3) := by decide +kernel
theorem dX7_isWord_49 : decode cX7_isWord 49 = .ok (.aload_n 0, 1) := by decide +kernel
theorem dX7_isWord_50 : decode cX7_isWord 50 = .ok (.getfield 9, 3) := by decide +kernel
theorem dX7_isWord_53 : decode cX7_isWord 53 = .ok (.aload_n 0, 1) := by decide +kernel
theorem dX7_isWord_54 : decode cX7_isWord 54 = .ok (.getfield 19, 3) := by decide +kernel
theorem dX7_isWord_57 : decode cX7_isWord 57 = .ok (.iload 4, 2) := by decide +kernel
theorem dX7_isWord_59 : decode cX7_isWord 59 = .ok (.iadd, 1) := by decide +kernel
theorem dX7_isWord_60 : decode cX7_isWord 60 = .ok (.iload_n 2, 1) := by decide +kernel
theorem dX7_isWord_61 : decode cX7_isWord 61 = .ok (.isub, 1) := by decide +kernel
theorem dX7_isWord_62 : decode cX7_isWord 62 = .ok (.invokevirtual 33, 3) := by decide +kernel
theorem dX7_isWord_65 : decode cX7_isWord 65 = .ok (.if_icmp .eq 5, 3) := by decide +kernel
theorem dX7_isWord_68 : decode cX7_isWord 68 = .ok (.iconst 0, 1) := by decide +kernel
theorem dX7_isWord_69 : decode cX7_isWord 69 = .ok (.ireturn, 1) := by decide +kernel
theorem dX7_isWord_70 : decode cX7_isWord 70 = .ok (.iinc 4 1, 3) := by decide +kernel
theorem dX7_isWord_73 : decode cX7_isWord 73 = .ok (.goto (-45), 3) := by decide +kernel
theorem dX7_isWord_76 : decode cX7_isWord 76 = .ok (.iconst 1, 1) := by decide +kernel
theorem dX7_isWord_77 : decode cX7_isWord 77 = .ok (.ireturn, 1) := by decide +kernel
theorem dX7_isBlank_0 : decode cX7_isBlank 0 = .ok (.iload_n 0, 1) := by decide +kernel
theorem dX7_isBlank_1 : decode cX7_isBlank 1 = .ok (.bipush 32, 2) := by decide +kernel
theorem dX7_isBlank_3 : decode cX7_isBlank 3 = .ok (.if_icmp .eq 9, 3) := by decide +kernel
theorem dX7_isBlank_6 : decode cX7_isBlank 6 = .ok (.iload_n 0, 1) := by decide +kernel
theorem dX7_isBlank_7 : decode cX7_isBlank 7 = .ok (.bipush 10, 2) := by decide +kernel
theorem dX7_isBlank_9 : decode cX7_isBlank 9 = .ok (.if_icmp .ne 7, 3) := by decide +kernel
theorem dX7_isBlank_12 : decode cX7_isBlank 12 = .ok (.iconst 1, 1) := by decide +kernel
theorem dX7_isBlank_13 : decode cX7_isBlank 13 = .ok (.goto 4, 3) := by decide +kernel
theorem dX7_isBlank_16 : decode cX7_isBlank 16 = .ok (.iconst 0, 1) := by decide +kernel
theorem dX7_isBlank_17 : decode cX7_isBlank 17 = .ok (.ireturn, 1) := by decide +kernel
theorem dX7_isLetter_0 : decode cX7_isLetter 0 = .ok (.iload_n 0, 1) := by decide +kernel
theorem dX7_isLetter_1 : decode cX7_isLetter 1 = .ok (.bipush 97, 2) := by decide +kernel
theorem dX7_isLetter_3 : decode cX7_isLetter 3 = .ok (.if_icmp .lt 13, 3) := by decide +kernel
theorem dX7_isLetter_6 : decode cX7_isLetter 6 = .ok (.iload_n 0, 1) := by decide +kernel
theorem dX7_isLetter_7 : decode cX7_isLetter 7 = .ok (.bipush 122, 2) := by decide +kernel
theorem dX7_isLetter_9 : decode cX7_isLetter 9 = .ok (.if_icmp .gt 7, 3) := by decide +kernel
theorem dX7_isLetter_12 : decode cX7_isLetter 12 = .ok (.iconst 1, 1) := by decide +kernel
theorem dX7_isLetter_13 : decode cX7_isLetter 13 = .ok (.goto 4, 3) := by decide +kernel
theorem dX7_isLetter_16 : decode cX7_isLetter 16 = .ok (.iconst 0, 1) := by decide +kernel
theorem dX7_isLetter_17 : decode cX7_isLetter 17 = .ok (.ireturn, 1) := by decide +kernel
theorem dX7_isDigit_0 : decode cX7_isDigit 0 = .ok (.iload_n 0, 1) := by decide +kernel
theorem dX7_isDigit_1 : decode cX7_isDigit 1 = .ok (.bipush 48, 2) := by decide +kernel
theorem dX7_isDigit_3 : decode cX7_isDigit 3 = .ok (.if_icmp .lt 13, 3) := by decide +kernel
theorem dX7_isDigit_6 : decode cX7_isDigit 6 = .ok (.iload_n 0, 1) := by decide +kernel
theorem dX7_isDigit_7 : decode cX7_isDigit 7 = .ok (.bipush 57, 2) := by decide +kernel
theorem dX7_isDigit_9 : decode cX7_isDigit 9 = .ok (.if_icmp .gt 7, 3) := by decide +kernel
theorem dX7_isDigit_12 : decode cX7_isDigit 12 = .ok (.iconst 1, 1) := by decide +kernel
theorem dX7_isDigit_13 : decode cX7_isDigit 13 = .ok (.goto 4, 3) := by decide +kernel
theorem dX7_isDigit_16 : decode cX7_isDigit 16 = .ok (.iconst 0, 1) := by decide +kernel
theorem dX7_isDigit_17 : decode cX7_isDigit 17 = .ok (.ireturn, 1) := by decide +kernel
theorem dX8_init_0 : decode cX8_init 0 = .ok (.aload_n 0, 1) := by decide +kernel
theorem dX8_init_1 : decode cX8_init 1 = .ok (.invokespecial 3, 3) := by decide +kernel
theorem dX8_init_4 : decode cX8_init 4 = .ok (.aload_n 0, 1) := by decide +kernel
theorem dX8_init_5 : decode cX8_init 5 = .ok (.iconst 3, 1) := by decide +kernel
theorem dX8_init_6 : decode cX8_init 6 = .ok (.newarray .int, 2) := by decide +kernel
theorem dX8_init_8 : decode cX8_init 8 = .ok (.putfield 9, 3) := by decide +kernel
theorem dX8_init_11 : decode cX8_init 11 = .ok (.aload_n 0, 1) := by decide +kernel
theorem dX8_init_12 : decode cX8_init 12 = .ok (.bipush 6, 2) := by decide +kernel
theorem dX8_init_14 : decode cX8_init 14 = .ok (.newarray .int, 2) := by decide +kernel
theorem dX8_init_16 : decode cX8_init 16 = .ok (.putfield 15, 3) := by decide +kernel
theorem dX8_init_19 : decode cX8_init 19 = .ok (.aload_n 0, 1) := by decide +kernel
theorem dX8_init_20 : decode cX8_init 20 = .ok (.sipush 180, 3) := by decide +kernel
theorem dX8_init_23 : decode cX8_init 23 = .ok (.newarray .int, 2) := by decide +kernel
theorem dX8_init_25 : decode cX8_init 25 = .ok (.putfield 18, 3) := by decide +kernel
theorem dX8_init_28 : decode cX8_init 28 = .ok (.aload_n 0, 1) := by decide +kernel
theorem dX8_init_29 : decode cX8_init 29 = .ok (.iconst 3, 1) := by decide +kernel
theorem dX8_init_30 : decode cX8_init 30 = .ok (.newarray .int, 2) := by decide +kernel
theorem dX8_init_32 : decode cX8_init 32 = .ok (.putfield 21, 3) := by decide +kernel
theorem dX8_init_35 : decode cX8_init 35 = .ok (.aload_n 0, 1) := by decide +kernel
theorem dX8_init_36 : decode cX8_init 36 = .ok (.iconst 3, 1) := by decide +kernel
theorem dX8_init_37 : decode cX8_init 37 = .ok (.newarray .int, 2) := by decide +kernel
theorem dX8_init_39 : decode cX8_init 39 = .ok (.putfield 24, 3) := by decide +kernel
theorem dX8_init_42 : decode cX8_init 42 = .ok (.aload_n 0, 1) := by decide +kernel
theorem dX8_init_43 : decode cX8_init 43 = .ok (.iconst 3, 1) := by decide +kernel
theorem dX8_init_44 : decode cX8_init 44 = .ok (.newarray .int, 2) := by decide +kernel
theorem dX8_init_46 : decode cX8_init 46 = .ok (.putfield 27, 3) := by decide +kernel
theorem dX8_init_49 : decode cX8_init 49 = .ok (.aload_n 0, 1) := by decide +kernel
theorem dX8_init_50 : decode cX8_init 50 = .ok (.bipush 8, 2) := by decide +kernel
theorem dX8_init_52 : decode cX8_init 52 = .ok (.newarray .int, 2) := by decide +kernel
theorem dX8_init_54 : decode cX8_init 54 = .ok (.putfield 30, 3) := by decide +kernel
theorem dX8_init_57 : decode cX8_init 57 = .ok (.aload_n 0, 1) := by decide +kernel
theorem dX8_init_58 : decode cX8_init 58 = .ok (.bipush 8, 2) := by decide +kernel
theorem dX8_init_60 : decode cX8_init 60 = .ok (.newarray .int, 2) := by decide +kernel
theorem dX8_init_62 : decode cX8_init 62 = .ok (.putfield 33, 3) := by decide +kernel
theorem dX8_init_65 : decode cX8_init 65 = .ok (.aload_n 0, 1) := by decide +kernel
theorem dX8_init_66 : decode cX8_init 66 = .ok (.bipush 8, 2) := by decide +kernel
theorem dX8_init_68 : decode cX8_init 68 = .ok (.newarray .int, 2) := by decide +kernel
theorem dX8_init_70 : decode cX8_init 70 = .ok (.putfield 36, 3) := by decide +kernel
theorem dX8_init_73 : decode cX8_init 73 = .ok (.aload_n 0, 1) := by decide +kernel
theorem dX8_init_74 : decode cX8_init 74 = .ok (.bipush 8, 2) := by decide +kernel
theorem dX8_init_76 : decode cX8_init 76 = .ok (.newarray .int, 2) := by decide +kernel
theorem dX8_init_78 : decode cX8_init 78 = .ok (.putfield 39, 3) := by decide +kernel
theorem dX8_init_81 : decode cX8_init 81 = .ok (.aload_n 0, 1) := by decide +kernel
theorem dX8_init_82 : decode cX8_init 82 = .ok (.bipush 8, 2) := by decide +kernel
theorem dX8_init_84 : decode cX8_init 84 = .ok (.newarray .int, 2) := by decide +kernel
theorem dX8_init_86 : decode cX8_init 86 = .ok (.putfield 42, 3) := by decide +kernel
theorem dX8_init_89 : decode cX8_init 89 = .ok (.aload_n 0, 1) := by decide +kernel
theorem dX8_init_90 : decode cX8_init 90 = .ok (.bipush 8, 2) := by decide +kernel
theorem dX8_init_92 : decode cX8_init 92 = .ok (.newarray .int, 2) := by decide +kernel
theorem dX8_init_94 : decode cX8_init 94 = .ok (.putfield 45, 3) := by decide +kernel
theorem dX8_init_97 : decode cX8_init 97 = .ok (.aload_n 0, 1) := by decide +kernel
theorem dX8_init_98 : decode cX8_init 98 = .ok (.bipush 6, 2) := by decide +kernel
theorem dX8_init_100 : decode cX8_init 100 = .ok (.newarray .boolean, 2) := by decide +kernel
theorem dX8_init_102 : decode cX8_init 102 = .ok (.putfield 48, 3) := by decide +kernel
theorem dX8_init_105 : decode cX8_init 105 = .ok (.aload_n 0, 1) := by decide +kernel
theorem dX8_init_106 : decode cX8_init 106 = .ok (.aload_n 1, 1) := by decide +kernel
theorem dX8_init_107 : decode cX8_init 107 = .ok (.putfield 52, 3) := by decide +kernel
theorem dX8_init_110 : decode cX8_init 110 = .ok (.return_, 1) := by decide +kernel
theorem dX8_begin_0 : decode cX8_begin 0 = .ok (.aload_n 0, 1) := by decide +kernel
theorem dX8_begin_1 : decode cX8_begin 1 = .ok (.aload_n 0, 1) := by decide +kernel
theorem dX8_begin_2 : decode cX8_begin 2 = .ok (.getfield 52, 3) := by decide +kernel
theorem dX8_begin_5 : decode cX8_begin 5 = .ok (.getfield 56, 3) := by decide +kernel
theorem dX8_begin_8 : decode cX8_begin 8 = .ok (.putfield 62, 3) := by decide +kernel
theorem dX8_begin_11 : decode cX8_begin 11 = .ok (.aload_n 0, 1) := by decide +kernel
theorem dX8_begin_12 : decode cX8_begin 12 = .ok (.iconst (-1), 1) := by decide +kernel
theorem dX8_begin_13 : decode cX8_begin 13 = .ok (.putfield 65, 3) := by decide +kernel
theorem dX8_begin_16 : decode cX8_begin 16 = .ok (.iconst 0, 1) := by decide +kernel
theorem dX8_begin_17 : decode cX8_begin 17 = .ok (.istore_n 1, 1) := by decide +kernel
theorem dX8_begin_18 : decode cX8_begin 18 = .ok (.iload_n 1, 1) := by decide +kernel
theorem dX8_begin_19 : decode cX8_begin 19 = .ok (.iconst 3, 1) := by decide +kernel
theorem dX8_begin_20 : decode cX8_begin 20 = .ok (.if_icmp .ge 27, 3) := by decide +kernel
theorem dX8_begin_23 : decode cX8_begin 23 = .ok (.aload_n 0, 1) := by decide +kernel
theorem dX8_begin_24 : decode cX8_begin 24 = .ok (.getfield 9, 3) := by decide +kernel
theorem dX8_begin_27 : decode cX8_begin 27 = .ok (.iload_n 1, 1) := by decide +kernel
theorem dX8_begin_28 : decode cX8_begin 28 = .ok (.aload_n 0, 1) := by decide +kernel
theorem dX8_begin_29 : decode cX8_begin 29 = .ok (.getfield 52, 3) := by decide +kernel
theorem dX8_begin_32 : decode cX8_begin 32 = .ok (.getfield 68, 3) := by decide +kernel
theorem dX8_begin_35 : decode cX8_begin 35 = .ok (.iload_n 1, 1) := by decide +kernel
theorem dX8_begin_36 : decode cX8_begin 36 = .ok (.iconst 3, 1) := by decide +kernel
theorem dX8_begin_37 : decode cX8_begin 37 = .ok (.invokevirtual 72, 3) := by decide +kernel
theorem dX8_begin_40 : decode cX8_begin 40 = .ok (.iastore, 1) := by decide +kernel
theorem dX8_begin_41 : decode cX8_begin 41 = .ok (.iinc 1 1, 3) := by decide +kernel
theorem dX8_begin_44 : decode cX8_begin 44 = .ok (.goto (-26), 3) := by decide +kernel
theorem dX8_begin_47 : decode cX8_begin 47 = .ok (.iconst 0, 1) := by decide +kernel
theorem dX8_begin_48 : decode cX8_begin 48 = .ok (.istore_n 1, 1) := by decide +kernel
theorem dX8_begin_49 : decode cX8_begin 49 = .ok (.iload_n 1, 1) := by decide +kernel
theorem dX8_begin_50 : decode cX8_begin 50 = .ok (.bipush 6, 2) := by decide +kernel
theorem dX8_begin_52 : decode cX8_begin 52 = .ok (.if_icmp .ge 34, 3) := by decide +kernel
theorem dX8_begin_55 : decode cX8_begin 55 = .ok (.aload_n 0, 1) := by decide +kernel
theorem dX8_begin_56 : decode cX8_begin 56 = .ok (.getfield 15, 3) := by decide +kernel
theorem dX8_begin_59 : decode cX8_begin 59 = .ok (.iload_n 1, 1) := by decide +kernel
theorem dX8_begin_60 : decode cX8_begin 60 = .ok (.aload_n 0, 1) := by decide +kernel
theorem dX8_begin_61 : decode cX8_begin 61 = .ok (.getfield 52, 3) := by decide +kernel
theorem dX8_begin_64 : decode cX8_begin 64 = .ok (.getfield 78, 3) := by decide +kernel
theorem dX8_begin_67 : decode cX8_begin 67 = .ok (.iload_n 1, 1) := by decide +kernel
theorem dX8_begin_68 : decode cX8_begin 68 = .ok (.iconst 1, 1) := by decide +kernel
theorem dX8_begin_69 : decode cX8_begin 69 = .ok (.invokevirtual 72, 3) := by decide +kernel
theorem dX8_begin_72 : decode cX8_begin 72 = .ok (.iastore, 1) := by decide +kernel
theorem dX8_begin_73 : decode cX8_begin 73 = .ok (.aload_n 0, 1) := by decide +kernel
theorem dX8_begin_74 : decode cX8_begin 74 = .ok (.getfield 48, 3) := by decide +kernel
theorem dX8_begin_77 : decode cX8_begin 77 = .ok (.iload_n 1, 1) := by decide +kernel
theorem dX8_begin_78 : decode cX8_begin 78 = .ok (.iconst 0, 1) := by decide +kernel
theorem dX8_begin_79 : decode cX8_begin 79 = .ok (.bastore, 1) := by decide +kernel
theorem dX8_begin_80 : decode cX8_begin 80 = .ok (.iinc 1 1, 3) := by decide +kernel
theorem dX8_begin_83 : decode cX8_begin 83 = .ok (.goto (-34), 3) := by decide +kernel
theorem dX8_begin_86 : decode cX8_begin 86 = .ok (.aload_n 0, 1) := by decide +kernel
theorem dX8_begin_87 : decode cX8_begin 87 = .ok (.getfield 21, 3) := by decide +kernel
theorem dX8_begin_90 : decode cX8_begin 90 = .ok (.iconst 0, 1) := by decide +kernel
theorem dX8_begin_91 : decode cX8_begin 91 = .ok (.invokestatic 81, 3) := by decide +kernel
theorem dX8_begin_94 : decode cX8_begin 94 = .ok (.aload_n 0, 1) := by decide +kernel
theorem dX8_begin_95 : decode cX8_begin 95 = .ok (.getfield 24, 3) := by decide +kernel
theorem dX8_begin_98 : decode cX8_begin 98 = .ok (.iconst 0, 1) := by decide +kernel
theorem dX8_begin_99 : decode cX8_begin 99 = .ok (.invokestatic 81, 3) := by decide +kernel
theorem dX8_begin_102 : decode cX8_begin 102 = .ok (.aload_n 0, 1) := by decide +kernel
theorem dX8_begin_103 : decode cX8_begin 103 = .ok (.getfield 27, 3) := by decide +kernel
theorem dX8_begin_106 : decode cX8_begin 106 = .ok (.iconst 0, 1) := by decide +kernel
theorem dX8_begin_107 : decode cX8_begin 107 = .ok (.invokestatic 81, 3) := by decide +kernel
theorem dX8_begin_110 : decode cX8_begin 110 = .ok (.aload_n 0, 1) := by decide +kernel
theorem dX8_begin_111 : decode cX8_begin 111 = .ok (.getfield 30, 3) := by decide +kernel
theorem dX8_begin_114 : decode cX8_begin 114 = .ok (.iconst 0, 1) := by decide +kernel
theorem dX8_begin_115 : decode cX8_begin 115 = .ok (.invokestatic 81, 3) := by decide +kernel
theorem dX8_begin_118 : decode cX8_begin 118 = .ok (.aload_n 0, 1) := by decide +kernel
theorem dX8_begin_119 : decode cX8_begin 119 = .ok (.getfield 33, 3) := by decide +kernel
theorem dX8_begin_122 : decode cX8_begin 122 = .ok (.iconst 0, 1) := by decide +kernel
theorem dX8_begin_123 : decode cX8_begin 123 = .ok (.invokestatic 81, 3) := by decide +kernel
theorem dX8_begin_126 : decode cX8_begin 126 = .ok (.aload_n 0, 1) := by decide +kernel
theorem dX8_begin_127 : decode cX8_begin 127 = .ok (.getfield 36, 3) := by decide +kernel
theorem dX8_begin_130 : decode cX8_begin 130 = .ok (.iconst 0, 1) := by decide +kernel
theorem dX8_begin_131 : decode cX8_begin 131 = .ok (.invokestatic 81, 3) := by decide +kernel
theorem dX8_begin_134 : decode cX8_begin 134 = .ok (.aload_n 0, 1) := by decide +kernel
theorem dX8_begin_135 : decode cX8_begin 135 = .ok (.getfield 39, 3) := by decide +kernel
theorem dX8_begin_138 : decode cX8_begin 138 = .ok (.iconst 0, 1) := by decide +kernel
theorem dX8_begin_139 : decode cX8_begin 139 = .ok (.invokestatic 81, 3) := by decide +kernel
theorem dX8_begin_142 : decode cX8_begin 142 = .ok (.aload_n 0, 1) := by decide +kernel
theorem dX8_begin_143 : decode cX8_begin 143 = .ok (.getfield 42, 3) := by decide +kernel
theorem dX8_begin_146 : decode cX8_begin 146 = .ok (.iconst 0, 1) := by decide +kernel
theorem dX8_begin_147 : decode cX8_begin 147 = .ok (.invokestatic 81, 3) := by decide +kernel
theorem dX8_begin_150 : decode cX8_begin 150 = .ok (.aload_n 0, 1) := by decide +kernel
theorem dX8_begin_151 : decode cX8_begin 151 = .ok (.getfield 45, 3) := by decide +kernel
theorem dX8_begin_154 : decode cX8_begin 154 = .ok (.iconst (-1), 1) := by decide +kernel
theorem dX8_begin_155 : decode cX8_begin 155 = .ok (.invokestatic 81, 3) := by decide +kernel
theorem dX8_begin_158 : decode cX8_begin 158 = .ok (.aload_n 0, 1) := by decide +kernel
theorem dX8_begin_159 : decode cX8_begin 159 = .ok (.iconst 0, 1) := by decide +kernel
theorem dX8_begin_160 : decode cX8_begin 160 = .ok (.putfield 87, 3) := by decide +kernel
theorem dX8_begin_163 : decode cX8_begin 163 = .ok (.aload_n 0, 1) := by decide +kernel
theorem dX8_begin_164 : decode cX8_begin 164 = .ok (.iconst 0, 1) := by decide +kernel
theorem dX8_begin_165 : decode cX8_begin 165 = .ok (.putfield 90, 3) := by decide +kernel
theorem dX8_begin_168 : decode cX8_begin 168 = .ok (.aload_n 0, 1) := by decide +kernel
theorem dX8_begin_169 : decode cX8_begin 169 = .ok (.iconst 0, 1) := by decide +kernel
theorem dX8_begin_170 : decode cX8_begin 170 = .ok (.putfield 93, 3) := by decide +kernel
theorem dX8_begin_173 : decode cX8_begin 173 = .ok (.aload_n 0, 1) := by decide +kernel
theorem dX8_begin_174 : decode cX8_begin 174 = .ok (.iconst (-1), 1) := by decide +kernel
theorem dX8_begin_175 : decode cX8_begin 175 = .ok (.putfield 96, 3) := by decide +kernel
theorem dX8_begin_178 : decode cX8_begin 178 = .ok (.return_, 1) := by decide +kernel
theorem dX8_run_0 : decode cX8_run 0 = .ok (.iconst 0, 1) := by decide +kernel
theorem dX8_run_1 : decode cX8_run 1 = .ok (.istore_n 1, 1) := by decide +kernel
theorem dX8_run_2 : decode cX8_run 2 = .ok (.iload_n 1, 1) := by decide +kernel
theorem dX8_run_3 : decode cX8_run 3 = .ok (.aload_n 0, 1) := by decide +kernel
theorem dX8_run_4 : decode cX8_run 4 = .ok (.getfield 52, 3) := by decide +kernel
theorem dX8_run_7 : decode cX8_run 7 = .ok (.getfield 99, 3) := by decide +kernel
theorem dX8_run_10 : decode cX8_run 10 = .ok (.if_icmp .ge 14, 3) := by decide +kernel
theorem dX8_run_13 : decode cX8_run 13 = .ok (.aload_n 0, 1) := by decide +kernel
theorem dX8_run_14 : decode cX8_run 14 = .ok (.iload_n 1, 1) := by decide +kernel
theorem dX8_run_15 : decode cX8_run 15 = .ok (.invokevirtual 102, 3) := by decide +kernel
theorem dX8_run_18 : decode cX8_run 18 = .ok (.iinc 1 1, 3) := by decide +kernel
theorem dX8_run_21 : decode cX8_run 21 = .ok (.goto (-19), 3) := by decide +kernel
theorem dX8_run_24 : decode cX8_run 24 = .ok (.return_, 1) := by decide +kernel
theorem dX8_pass_0 : decode cX8_pass 0 = .ok (.aload_n 0, 1) := by decide +kernel
theorem dX8_pass_1 : decode cX8_pass 1 = .ok (.iload_n 1, 1) := by decide +kernel
theorem dX8_pass_2 : decode cX8_pass 2 = .ok (.invokevirtual 106, 3) := by decide +kernel
theorem dX8_pass_5 : decode cX8_pass 5 = .ok (.aload_n 0, 1) := by decide +kernel
theorem dX8_pass_6 : decode cX8_pass 6 = .ok (.iload_n 1, 1) := by decide +kernel
theorem dX8_pass_7 : decode cX8_pass 7 = .ok (.invokevirtual 109, 3) := by decide +kernel
theorem dX8_pass_10 : decode cX8_pass 10 = .ok (.aload_n 0, 1) := by decide +kernel
theorem dX8_pass_11 : decode cX8_pass 11 = .ok (.iload_n 1, 1) := by decide +kernel
theorem dX8_pass_12 : decode cX8_pass 12 = .ok (.invokevirtual 112, 3) := by decide +kernel
theorem dX8_pass_15 : decode cX8_pass 15 = .ok (.iload_n 1, 1) := by decide +kernel
theorem dX8_pass_16 : decode cX8_pass 16 = .ok (.aload_n 0, 1) := by decide +kernel
theorem dX8_pass_17 : decode cX8_pass 17 = .ok (.getfield 52, 3) := by decide +kernel
theorem dX8_pass_20 : decode cX8_pass 20 = .ok (.getfield 115, 3) := by decide +kernel
theorem dX8_pass_23 : decode cX8_pass 23 = .ok (.if_icmp .ne 8, 3) := by decide +kernel
theorem dX8_pass_26 : decode cX8_pass 26 = .ok (.aload_n 0, 1) := by decide +kernel
theorem dX8_pass_27 : decode cX8_pass 27 = .ok (.iload_n 1, 1) := by decide +kernel
theorem dX8_pass_28 : decode cX8_pass 28 = .ok (.invokevirtual 118, 3) := by decide +kernel
theorem dX8_pass_31 : decode cX8_pass 31 = .ok (.aload_n 0, 1) := by decide +kernel
theorem dX8_pass_32 : decode cX8_pass 32 = .ok (.iload_n 1, 1) := by decide +kernel
theorem dX8_pass_33 : decode cX8_pass 33 = .ok (.invokevirtual 121, 3) := by decide +kernel
theorem dX8_pass_36 : decode cX8_pass 36 = .ok (.aload_n 0, 1) := by decide +kernel
theorem dX8_pass_37 : decode cX8_pass 37 = .ok (.iload_n 1, 1) := by decide +kernel
theorem dX8_pass_38 : decode cX8_pass 38 = .ok (.invokevirtual 124, 3) := by decide +kernel
theorem dX8_pass_41 : decode cX8_pass 41 = .ok (.aload_n 0, 1) := by decide +kernel
theorem dX8_pass_42 : decode cX8_pass 42 = .ok (.invokevirtual 127, 3) := by decide +kernel
theorem dX8_pass_45 : decode cX8_pass 45 = .ok (.aload_n 0, 1) := by decide +kernel
theorem dX8_pass_46 : decode cX8_pass 46 = .ok (.iload_n 1, 1) := by decide +kernel
theorem dX8_pass_47 : decode cX8_pass 47 = .ok (.invokevirtual 130, 3) := by decide +kernel
theorem dX8_pass_50 : decode cX8_pass 50 = .ok (.return_, 1) := by decide +kernel
theorem dX8_waterBehind_0 : decode cX8_waterBehind 0 = .ok (.iload_n 1, 1) := by decide +kernel
theorem dX8_waterBehind_1 : decode cX8_waterBehind 1 = .ok (.ifCond .lt 19, 3) := by decide +kernel
theorem dX8_waterBehind_4 : decode cX8_waterBehind 4 = .ok (.iload_n 1, 1) := by decide +kernel
theorem dX8_waterBehind_5 : decode cX8_waterBehind 5 = .ok (.bipush 6, 2) := by decide +kernel
theorem dX8_waterBehind_7 : decode cX8_waterBehind 7 = .ok (.if_icmp .ge 13, 3) := by decide +kernel
theorem dX8_waterBehind_10 : decode cX8_waterBehind 10 = .ok (.iload_n 2, 1) := by decide +kernel
theorem dX8_waterBehind_11 : decode cX8_waterBehind 11 = .ok (.ifCond .lt 9, 3) := by decide +kernel
theorem dX8_waterBehind_14 : decode cX8_waterBehind 14 = .ok (.iload_n 2, 1) := by decide +kernel
theorem dX8_waterBehind_15 : decode cX8_waterBehind 15 = .ok (.bipush 30, 2) := by decide +kernel
theorem dX8_waterBehind_17 : decode cX8_waterBehind 17 = .ok (.if_icmp .lt 5, 3) := by decide +kernel
theorem dX8_waterBehind_20 : decode cX8_waterBehind 20 = .ok (.iconst 0, 1) := by decide +kernel
theorem dX8_waterBehind_21 : decode cX8_waterBehind 21 = .ok (.ireturn, 1) := by decide +kernel
theorem dX8_waterBehind_22 : decode cX8_waterBehind 22 = .ok (.aload_n 0, 1) := by decide +kernel
theorem dX8_waterBehind_23 : decode cX8_waterBehind 23 = .ok (.getfield 18, 3) := by decide +kernel
theorem dX8_waterBehind_26 : decode cX8_waterBehind 26 = .ok (.iload_n 1, 1) := by decide +kernel
theorem dX8_waterBehind_27 : decode cX8_waterBehind 27 = .ok (.bipush 30, 2) := by decide +kernel
theorem dX8_waterBehind_29 : decode cX8_waterBehind 29 = .ok (.imul, 1) := by decide +kernel
theorem dX8_waterBehind_30 : decode cX8_waterBehind 30 = .ok (.iload_n 2, 1) := by decide +kernel
theorem dX8_waterBehind_31 : decode cX8_waterBehind 31 = .ok (.iadd, 1) := by decide +kernel
theorem dX8_waterBehind_32 : decode cX8_waterBehind 32 = .ok (.iaload, 1) := by decide +kernel
theorem dX8_waterBehind_33 : decode cX8_waterBehind 33 = .ok (.ireturn, 1) := by decide +kernel
theorem dX8_waterOf_0 : decode cX8_waterOf 0 = .ok (.iload_n 1, 1) := by decide +kernel
theorem dX8_waterOf_1 : decode cX8_waterOf 1 = .ok (.ifCond .lt 18, 3) := by decide +kernel
theorem dX8_waterOf_4 : decode cX8_waterOf 4 = .ok (.iload_n 1, 1) := by decide +kernel
theorem dX8_waterOf_5 : decode cX8_waterOf 5 = .ok (.bipush 6, 2) := by decide +kernel
theorem dX8_waterOf_7 : decode cX8_waterOf 7 = .ok (.if_icmp .ge 12, 3) := by decide +kernel
theorem dX8_waterOf_10 : decode cX8_waterOf 10 = .ok (.aload_n 0, 1) := by decide +kernel
theorem dX8_waterOf_11 : decode cX8_waterOf 11 = .ok (.getfield 15, 3) := by decide +kernel
theorem dX8_waterOf_14 : decode cX8_waterOf 14 = .ok (.iload_n 1, 1) := by decide +kernel
theorem dX8_waterOf_15 : decode cX8_waterOf 15 = .ok (.iaload, 1) := by decide +kernel
theorem dX8_waterOf_16 : decode cX8_waterOf 16 = .ok (.goto 4, 3) := by decide +kernel
theorem dX8_waterOf_19 : decode cX8_waterOf 19 = .ok (.iconst 0, 1) := by decide +kernel
theorem dX8_waterOf_20 : decode cX8_waterOf 20 = .ok (.ireturn, 1) := by decide +kernel
theorem dX8_add_0 : decode cX8_add 0 = .ok (.iload_n 1, 1) := by decide +kernel
theorem dX8_add_1 : decode cX8_add 1 = .ok (.ifCond .lt 19, 3) := by decide +kernel
theorem dX8_add_4 : decode cX8_add 4 = .ok (.iload_n 1, 1) := by decide +kernel
theorem dX8_add_5 : decode cX8_add 5 = .ok (.bipush 6, 2) := by decide +kernel
theorem dX8_add_7 : decode cX8_add 7 = .ok (.if_icmp .ge 13, 3) := by decide +kernel
theorem dX8_add_10 : decode cX8_add 10 = .ok (.aload_n 0, 1) := by decide +kernel
theorem dX8_add_11 : decode cX8_add 11 = .ok (.getfield 15, 3) := by decide +kernel
theorem dX8_add_14 : decode cX8_add 14 = .ok (.iload_n 1, 1) := by decide +kernel
theorem dX8_add_15 : decode cX8_add 15 = .ok (.dup2, 1) := by decide +kernel
theorem dX8_add_16 : decode cX8_add 16 = .ok (.iaload, 1) := by decide +kernel
theorem dX8_add_17 : decode cX8_add 17 = .ok (.iload_n 2, 1) := by decide +kernel
theorem dX8_add_18 : decode cX8_add 18 = .ok (.iadd, 1) := by decide +kernel
theorem dX8_add_19 : decode cX8_add 19 = .ok (.iastore, 1) := by decide +kernel
theorem dX8_add_20 : decode cX8_add 20 = .ok (.return_, 1) := by decide +kernel
theorem dX8_wasDry_0 : decode cX8_wasDry 0 = .ok (.iload_n 1, 1) := by decide +kernel
theorem dX8_wasDry_1 : decode cX8_wasDry 1 = .ok (.ifCond .lt 22, 3) := by decide +kernel
theorem dX8_wasDry_4 : decode cX8_wasDry 4 = .ok (.iload_n 1, 1) := by decide +kernel
theorem dX8_wasDry_5 : decode cX8_wasDry 5 = .ok (.bipush 6, 2) := by decide +kernel
theorem dX8_wasDry_7 : decode cX8_wasDry 7 = .ok (.if_icmp .ge 16, 3) := by decide +kernel
theorem dX8_wasDry_10 : decode cX8_wasDry 10 = .ok (.aload_n 0, 1) := by decide +kernel
theorem dX8_wasDry_11 : decode cX8_wasDry 11 = .ok (.getfield 48, 3) := by decide +kernel
theorem dX8_wasDry_14 : decode cX8_wasDry 14 = .ok (.iload_n 1, 1) := by decide +kernel
theorem dX8_wasDry_15 : decode cX8_wasDry 15 = .ok (.baload, 1) := by decide +kernel
theorem dX8_wasDry_16 : decode cX8_wasDry 16 = .ok (.ifCond .eq 7, 3) := by decide +kernel
theorem dX8_wasDry_19 : decode cX8_wasDry 19 = .ok (.iconst 1, 1) := by decide +kernel
theorem dX8_wasDry_20 : decode cX8_wasDry 20 = .ok (.goto 4, 3) := by decide +kernel
theorem dX8_wasDry_23 : decode cX8_wasDry 23 = .ok (.iconst 0, 1) := by decide +kernel
theorem dX8_wasDry_24 : decode cX8_wasDry 24 = .ok (.ireturn, 1) := by decide +kernel
theorem dX8_shortInAll_0 : decode cX8_shortInAll 0 = .ok (.aload_n 0, 1) := by decide +kernel
theorem dX8_shortInAll_1 : decode cX8_shortInAll 1 = .ok (.getfield 24, 3) := by decide +kernel
theorem dX8_shortInAll_4 : decode cX8_shortInAll 4 = .ok (.invokestatic 133, 3) := by decide +kernel
theorem dX8_shortInAll_7 : decode cX8_shortInAll 7 = .ok (.aload_n 0, 1) := by decide +kernel
theorem dX8_shortInAll_8 : decode cX8_shortInAll 8 = .ok (.getfield 27, 3) := by decide +kernel
theorem dX8_shortInAll_11 : decode cX8_shortInAll 11 = .ok (.invokestatic 133, 3) := by decide +kernel
theorem dX8_shortInAll_14 : decode cX8_shortInAll 14 = .ok (.isub, 1) := by decide +kernel
theorem dX8_shortInAll_15 : decode cX8_shortInAll 15 = .ok (.aload_n 0, 1) := by decide +kernel
theorem dX8_shortInAll_16 : decode cX8_shortInAll 16 = .ok (.getfield 33, 3) := by decide +kernel
theorem dX8_shortInAll_19 : decode cX8_shortInAll 19 = .ok (.invokestatic 133, 3) := by decide +kernel
theorem dX8_shortInAll_22 : decode cX8_shortInAll 22 = .ok (.iadd, 1) := by decide +kernel
theorem dX8_shortInAll_23 : decode cX8_shortInAll 23 = .ok (.aload_n 0, 1) := by decide +kernel
theorem dX8_shortInAll_24 : decode cX8_shortInAll 24 = .ok (.getfield 36, 3) := by decide +kernel
theorem dX8_shortInAll_27 : decode cX8_shortInAll 27 = .ok (.invokestatic 133, 3) := by decide +kernel
theorem dX8_shortInAll_30 : decode cX8_shortInAll 30 = .ok (.isub, 1) := by decide +kernel
theorem dX8_shortInAll_31 : decode cX8_shortInAll 31 = .ok (.ireturn, 1) := by decide +kernel
theorem dX8_roomOf_0 : decode cX8_roomOf 0 = .ok (.aload_n 0, 1) := by decide +kernel
theorem dX8_roomOf_1 : decode cX8_roomOf 1 = .ok (.getfield 52, 3) := by decide +kernel
theorem dX8_roomOf_4 : decode cX8_roomOf 4 = .ok (.getfield 78, 3) := by decide +kernel
theorem dX8_roomOf_7 : decode cX8_roomOf 7 = .ok (.iload_n 1, 1) := by decide +kernel
theorem dX8_roomOf_8 : decode cX8_roomOf 8 = .ok (.iconst 0, 1) := by decide +kernel
theorem dX8_roomOf_9 : decode cX8_roomOf 9 = .ok (.invokevirtual 72, 3) := by decide +kernel
theorem dX8_roomOf_12 : decode cX8_roomOf 12 = .ok (.aload_n 0, 1) := by decide +kernel
theorem dX8_roomOf_13 : decode cX8_roomOf 13 = .ok (.iload_n 1, 1) := by decide +kernel
theorem dX8_roomOf_14 : decode cX8_roomOf 14 = .ok (.invokevirtual 137, 3) := by decide +kernel
theorem dX8_roomOf_17 : decode cX8_roomOf 17 = .ok (.isub, 1) := by decide +kernel
theorem dX8_roomOf_18 : decode cX8_roomOf 18 = .ok (.ireturn, 1) := by decide +kernel
theorem dX8_withMore_0 : decode cX8_withMore 0 = .ok (.iload_n 1, 1) := by decide +kernel
theorem dX8_withMore_1 : decode cX8_withMore 1 = .ok (.iload_n 1, 1) := by decide +kernel
theorem dX8_withMore_2 : decode cX8_withMore 2 = .ok (.aload_n 0, 1) := by decide +kernel
theorem dX8_withMore_3 : decode cX8_withMore 3 = .ok (.getfield 62, 3) := by decide +kernel
theorem dX8_withMore_6 : decode cX8_withMore 6 = .ok (.imul, 1) := by decide +kernel
theorem dX8_withMore_7 : decode cX8_withMore 7 = .ok (.bipush 100, 2) := by decide +kernel
theorem dX8_withMore_9 : decode cX8_withMore 9 = .ok (.iadd, 1) := by decide +kernel
theorem dX8_withMore_10 : decode cX8_withMore 10 = .ok (.iconst 1, 1) := by decide +kernel
theorem dX8_withMore_11 : decode cX8_withMore 11 = .ok (.isub, 1) := by decide +kernel
theorem dX8_withMore_12 : decode cX8_withMore 12 = .ok (.bipush 100, 2) := by decide +kernel
theorem dX8_withMore_14 : decode cX8_withMore 14 = .ok (.idiv, 1) := by decide +kernel
theorem dX8_withMore_15 : decode cX8_withMore 15 = .ok (.iadd, 1) := by decide +kernel
theorem dX8_withMore_16 : decode cX8_withMore 16 = .ok (.ireturn, 1) := by decide +kernel
theorem dX8_noteTrouble_0 : decode cX8_noteTrouble 0 = .ok (.aload_n 0, 1) := by decide +kernel
theorem dX8_noteTrouble_1 : decode cX8_noteTrouble 1 = .ok (.getfield 96, 3) := by decide +kernel
theorem dX8_noteTrouble_4 : decode cX8_noteTrouble 4 = .ok (.iconst (-1), 1) := by decide +kernel
theorem dX8_noteTrouble_5 : decode cX8_noteTrouble 5 = .ok (.if_icmp .ne 8, 3) := by decide +kernel
theorem dX8_noteTrouble_8 : decode cX8_noteTrouble 8 = .ok (.aload_n 0, 1) := by decide +kernel
theorem dX8_noteTrouble_9 : decode cX8_noteTrouble 9 = .ok (.iload_n 1, 1) := by decide +kernel
theorem dX8_noteTrouble_10 : decode cX8_noteTrouble 10 = .ok (.putfield 96, 3) := by decide +kernel
theorem dX8_noteTrouble_13 : decode cX8_noteTrouble 13 = .ok (.return_, 1) := by decide +kernel
theorem dX8_takeFloods_0 : decode cX8_takeFloods 0 = .ok (.iconst 0, 1) := by decide +kernel
theorem dX8_takeFloods_1 : decode cX8_takeFloods 1 = .ok (.istore_n 2, 1) := by decide +kernel
theorem dX8_takeFloods_2 : decode cX8_takeFloods 2 = .ok (.iload_n 2, 1) := by decide +kernel
theorem dX8_takeFloods_3 : decode cX8_takeFloods 3 = .ok (.aload_n 0, 1) := by decide +kernel
theorem dX8_takeFloods_4 : decode cX8_takeFloods 4 = .ok (.getfield 52, 3) := by decide +kernel
theorem dX8_takeFloods_7 : decode cX8_takeFloods 7 = .ok (.getfield 68, 3) := by decide +kernel
theorem dX8_takeFloods_10 : decode cX8_takeFloods 10 = .ok (.getfield 141, 3) := by decide +kernel
theorem dX8_takeFloods_13 : decode cX8_takeFloods 13 = .ok (.if_icmp .ge 90, 3) := by decide +kernel
theorem dX8_takeFloods_16 : decode cX8_takeFloods 16 = .ok (.aload_n 0, 1) := by decide +kernel
theorem dX8_takeFloods_17 : decode cX8_takeFloods 17 = .ok (.getfield 9, 3) := by decide +kernel
theorem dX8_takeFloods_20 : decode cX8_takeFloods 20 = .ok (.iload_n 2, 1) := by decide +kernel
theorem dX8_takeFloods_21 : decode cX8_takeFloods 21 = .ok (.iaload, 1) := by decide +kernel
theorem dX8_takeFloods_22 : decode cX8_takeFloods 22 = .ok (.istore_n 3, 1) := by decide +kernel
theorem dX8_takeFloods_23 : decode cX8_takeFloods 23 = .ok (.iload_n 3, 1) := by decide +kernel
theorem dX8_takeFloods_24 : decode cX8_takeFloods 24 = .ok (.iconst (-1), 1) := by decide +kernel
theorem dX8_takeFloods_25 : decode cX8_takeFloods 25 = .ok (.if_icmp .eq 72, 3) := by decide +kernel
theorem dX8_takeFloods_28 : decode cX8_takeFloods 28 = .ok (.aload_n 0, 1) := by decide +kernel
theorem dX8_takeFloods_29 : decode cX8_takeFloods 29 = .ok (.getfield 52, 3) := by decide +kernel
theorem dX8_takeFloods_32 : decode cX8_takeFloods 32 = .ok (.getfield 68, 3) := by decide +kernel
theorem dX8_takeFloods_35 : decode cX8_takeFloods 35 = .ok (.iload_n 2, 1) := by decide +kernel
theorem dX8_takeFloods_36 : decode cX8_takeFloods 36 = .ok (.iconst 0, 1) := by decide +kernel
theorem dX8_takeFloods_37 : decode cX8_takeFloods 37 = .ok (.invokevirtual 72, 3) := by decide +kernel
theorem dX8_takeFloods_40 : decode cX8_takeFloods 40 = .ok (.iload_n 1, 1) := by decide +kernel
theorem dX8_takeFloods_41 : decode cX8_takeFloods 41 = .ok (.if_icmp .ne 56, 3) := by decide +kernel
theorem dX8_takeFloods_44 : decode cX8_takeFloods 44 = .ok (.aload_n 0, 1) := by decide +kernel
theorem dX8_takeFloods_45 : decode cX8_takeFloods 45 = .ok (.getfield 21, 3) := by decide +kernel
theorem dX8_takeFloods_48 : decode cX8_takeFloods 48 = .ok (.iload_n 2, 1) := by decide +kernel
theorem dX8_takeFloods_49 : decode cX8_takeFloods 49 = .ok (.aload_n 0, 1) := by decide +kernel
theorem dX8_takeFloods_50 : decode cX8_takeFloods 50 = .ok (.getfield 52, 3) := by decide +kernel
theorem dX8_takeFloods_53 : decode cX8_takeFloods 53 = .ok (.getfield 68, 3) := by decide +kernel
theorem dX8_takeFloods_56 : decode cX8_takeFloods 56 = .ok (.iload_n 2, 1) := by decide +kernel
theorem dX8_takeFloods_57 : decode cX8_takeFloods 57 = .ok (.iconst 1, 1) := by decide +kernel
theorem dX8_takeFloods_58 : decode cX8_takeFloods 58 = .ok (.invokevirtual 72, 3) := by decide +kernel
theorem dX8_takeFloods_61 : decode cX8_takeFloods 61 = .ok (.aload_n 0, 1) := by decide +kernel
theorem dX8_takeFloods_62 : decode cX8_takeFloods 62 = .ok (.iload_n 3, 1) := by decide +kernel
theorem dX8_takeFloods_63 : decode cX8_takeFloods 63 = .ok (.invokevirtual 144, 3) := by decide +kernel
theorem dX8_takeFloods_66 : decode cX8_takeFloods 66 = .ok (.invokestatic 147, 3) := by decide +kernel
theorem dX8_takeFloods_69 : decode cX8_takeFloods 69 = .ok (.iastore, 1) := by decide +kernel
theorem dX8_takeFloods_70 : decode cX8_takeFloods 70 = .ok (.aload_n 0, 1) := by decide +kernel
theorem dX8_takeFloods_71 : decode cX8_takeFloods 71 = .ok (.getfield 24, 3) := by decide +kernel
theorem dX8_takeFloods_74 : decode cX8_takeFloods 74 = .ok (.iload_n 2, 1) := by decide +kernel
theorem dX8_takeFloods_75 : decode cX8_takeFloods 75 = .ok (.aload_n 0, 1) := by decide +kernel
theorem dX8_takeFloods_76 : decode cX8_takeFloods 76 = .ok (.aload_n 0, 1) := by decide +kernel
theorem dX8_takeFloods_77 : decode cX8_takeFloods 77 = .ok (.getfield 21, 3) := by decide +kernel
theorem dX8_takeFloods_80 : decode cX8_takeFloods 80 = .ok (.iload_n 2, 1) := by decide +kernel
theorem dX8_takeFloods_81 : decode cX8_takeFloods 81 = .ok (.iaload, 1) := by decide +kernel
theorem dX8_takeFloods_82 : decode cX8_takeFloods 82 = .ok (.invokevirtual 152, 3) := by decide +kernel
theorem dX8_takeFloods_85 : decode cX8_takeFloods 85 = .ok (.iastore, 1) := by decide +kernel
theorem dX8_takeFloods_86 : decode cX8_takeFloods 86 = .ok (.aload_n 0, 1) := by decide +kernel
theorem dX8_takeFloods_87 : decode cX8_takeFloods 87 = .ok (.iload_n 3, 1) := by decide +kernel
theorem dX8_takeFloods_88 : decode cX8_takeFloods 88 = .ok (.aload_n 0, 1) := by decide +kernel
theorem dX8_takeFloods_89 : decode cX8_takeFloods 89 = .ok (.getfield 21, 3) := by decide +kernel
theorem dX8_takeFloods_92 : decode cX8_takeFloods 92 = .ok (.iload_n 2, 1) := by decide +kernel
theorem dX8_takeFloods_93 : decode cX8_takeFloods 93 = .ok (.iaload, 1) := by decide +kernel
theorem dX8_takeFloods_94 : decode cX8_takeFloods 94 = .ok (.invokevirtual 155, 3) := by decide +kernel
theorem dX8_takeFloods_97 : decode cX8_takeFloods 97 = .ok (.iinc 2 1, 3) := by decide +kernel
theorem dX8_takeFloods_100 : decode cX8_takeFloods 100 = .ok (.goto (-98), 3) := by decide +kernel
theorem dX8_takeFloods_103 : decode cX8_takeFloods 103 = .ok (.return_, 1) := by decide +kernel
theorem dX8_lendOn_0 : decode cX8_lendOn 0 = .ok (.iconst 0, 1) := by decide +kernel
theorem dX8_lendOn_1 : decode cX8_lendOn 1 = .ok (.istore_n 2, 1) := by decide +kernel
theorem dX8_lendOn_2 : decode cX8_lendOn 2 = .ok (.iload_n 2, 1) := by decide +kernel
theorem dX8_lendOn_3 : decode cX8_lendOn 3 = .ok (.aload_n 0, 1) := by decide +kernel
theorem dX8_lendOn_4 : decode cX8_lendOn 4 = .ok (.getfield 52, 3) := by decide +kernel
theorem dX8_lendOn_7 : decode cX8_lendOn 7 = .ok (.getfield 159, 3) := by decide +kernel
theorem dX8_lendOn_10 : decode cX8_lendOn 10 = .ok (.getfield 141, 3) := by decide +kernel
theorem dX8_lendOn_13 : decode cX8_lendOn 13 = .ok (.if_icmp .ge 139, 3) := by decide +kernel
theorem dX8_lendOn_16 : decode cX8_lendOn 16 = .ok (.aload_n 0, 1) := by decide +kernel
theorem dX8_lendOn_17 : decode cX8_lendOn 17 = .ok (.getfield 52, 3) := by decide +kernel
theorem dX8_lendOn_20 : decode cX8_lendOn 20 = .ok (.getfield 159, 3) := by decide +kernel
theorem dX8_lendOn_23 : decode cX8_lendOn 23 = .ok (.iload_n 2, 1) := by decide +kernel
theorem dX8_lendOn_24 : decode cX8_lendOn 24 = .ok (.iconst 0, 1) := by decide +kernel
theorem dX8_lendOn_25 : decode cX8_lendOn 25 = .ok (.invokevirtual 72, 3) := by decide +kernel
theorem dX8_lendOn_28 : decode cX8_lendOn 28 = .ok (.istore_n 3, 1) := by decide +kernel
theorem dX8_lendOn_29 : decode cX8_lendOn 29 = .ok (.aload_n 0, 1) := by decide +kernel
theorem dX8_lendOn_30 : decode cX8_lendOn 30 = .ok (.getfield 52, 3) := by decide +kernel
theorem dX8_lendOn_33 : decode cX8_lendOn 33 = .ok (.getfield 159, 3) := by decide +kernel
theorem dX8_lendOn_36 : decode cX8_lendOn 36 = .ok (.iload_n 2, 1) := by decide +kernel
theorem dX8_lendOn_37 : decode cX8_lendOn 37 = .ok (.iconst 3, 1) := by decide +kernel
theorem dX8_lendOn_38 : decode cX8_lendOn 38 = .ok (.invokevirtual 72, 3) := by decide +kernel
theorem dX8_lendOn_41 : decode cX8_lendOn 41 = .ok (.iload_n 1, 1) := by decide +kernel
theorem dX8_lendOn_42 : decode cX8_lendOn 42 = .ok (.if_icmp .ne 104, 3) := by decide +kernel
theorem dX8_lendOn_45 : decode cX8_lendOn 45 = .ok (.iload_n 3, 1) := by decide +kernel
theorem dX8_lendOn_46 : decode cX8_lendOn 46 = .ok (.aload_n 0, 1) := by decide +kernel
theorem dX8_lendOn_47 : decode cX8_lendOn 47 = .ok (.getfield 65, 3) := by decide +kernel
theorem dX8_lendOn_50 : decode cX8_lendOn 50 = .ok (.if_icmp .eq 96, 3) := by decide +kernel
theorem dX8_lendOn_53 : decode cX8_lendOn 53 = .ok (.aload_n 0, 1) := by decide +kernel
theorem dX8_lendOn_54 : decode cX8_lendOn 54 = .ok (.getfield 52, 3) := by decide +kernel
theorem dX8_lendOn_57 : decode cX8_lendOn 57 = .ok (.getfield 159, 3) := by decide +kernel
theorem dX8_lendOn_60 : decode cX8_lendOn 60 = .ok (.iload_n 2, 1) := by decide +kernel
theorem dX8_lendOn_61 : decode cX8_lendOn 61 = .ok (.iconst 1, 1) := by decide +kernel
theorem dX8_lendOn_62 : decode cX8_lendOn 62 = .ok (.invokevirtual 72, 3) := by decide +kernel
