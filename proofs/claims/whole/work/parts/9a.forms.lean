/-! the forms of the LINES, item by item -/
theorem itJ_0 : itJ 0 = [some (6, 11), none, some (14, 18), none, some (21, 25), none] := by decide +kernel
theorem weF_0 : weF 0 0 = 5 := by decide +kernel
theorem sw_0_0 : SW 7 0 0 5 := by unfold SW; decide +kernel
theorem sw_0_6 : SW 8 0 6 11 := by unfold SW; decide +kernel
theorem sw_0_14 : SW 9 0 14 18 := by unfold SW; decide +kernel
theorem sw_0_21 : SW 10 0 21 25 := by unfold SW; decide +kernel
theorem itJ_1 : itJ 1 = [some (8, 12), none, some (15, 20), none, some (23, 27), none, some (30, 34), none] := by decide +kernel
theorem weF_1 : weF 1 0 = 7 := by decide +kernel
theorem sw_1_0 : SW 11 1 0 7 := by unfold SW; decide +kernel
theorem sw_1_8 : SW 17 1 8 12 := by unfold SW; decide +kernel
theorem sw_1_15 : SW 18 1 15 20 := by unfold SW; decide +kernel
theorem sw_1_23 : SW 19 1 23 27 := by unfold SW; decide +kernel
theorem sw_1_30 : SW 20 1 30 34 := by unfold SW; decide +kernel
theorem itJ_2 : itJ 2 = [none, some (7, 13), none, some (16, 22), none, some (25, 29), none, some (32, 34), none] := by decide +kernel
theorem weF_2 : weF 2 0 = 4 := by decide +kernel
theorem sw_2_0 : SW 12 2 0 4 := by unfold SW; decide +kernel
theorem sw_2_7 : SW 21 2 7 13 := by unfold SW; decide +kernel
theorem sw_2_16 : SW 22 2 16 22 := by unfold SW; decide +kernel
theorem sw_2_25 : SW 23 2 25 29 := by unfold SW; decide +kernel
theorem sw_2_32 : SW 24 2 32 34 := by unfold SW; decide +kernel
theorem itJ_3 : itJ 3 = [none, some (6, 8), none] := by decide +kernel
theorem weF_3 : weF 3 0 = 3 := by decide +kernel
theorem sw_3_0 : SW 13 3 0 3 := by unfold SW; decide +kernel
theorem sw_3_6 : SW 25 3 6 8 := by unfold SW; decide +kernel
theorem itJ_4 : itJ 4 = [none, some (8, 14), none, some (17, 21), none] := by decide +kernel
theorem weF_4 : weF 4 0 = 5 := by decide +kernel
theorem sw_4_0 : SW 14 4 0 5 := by unfold SW; decide +kernel
theorem sw_4_8 : SW 22 4 8 14 := by unfold SW; decide +kernel
theorem sw_4_17 : SW 26 4 17 21 := by unfold SW; decide +kernel
theorem itJ_5 : itJ 5 = [none, some (7, 9), none, some (12, 14), none, some (17, 19), none, some (22, 26), none] := by decide +kernel
theorem weF_5 : weF 5 0 = 4 := by decide +kernel
theorem sw_5_0 : SW 15 5 0 4 := by unfold SW; decide +kernel
theorem sw_5_7 : SW 24 5 7 9 := by unfold SW; decide +kernel
theorem sw_5_12 : SW 27 5 12 14 := by unfold SW; decide +kernel
theorem sw_5_17 : SW 28 5 17 19 := by unfold SW; decide +kernel
theorem sw_5_22 : SW 29 5 22 26 := by unfold SW; decide +kernel
theorem itJ_6 : itJ 6 = [none, some (8, 13), none] := by decide +kernel
theorem weF_6 : weF 6 0 = 5 := by decide +kernel
theorem sw_6_0 : SW 16 6 0 5 := by unfold SW; decide +kernel
theorem sw_6_8 : SW 30 6 8 13 := by unfold SW; decide +kernel