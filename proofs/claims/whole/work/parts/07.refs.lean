theorem f_X6_11 : FA RX6 11 6 0 := ⟨_, rfl, by decide, w_34⟩
theorem f_X6_15 : FA RX6 15 6 1 := ⟨_, rfl, by decide, w_35⟩
theorem f_X4_43 : FA RX4 43 6 1 := ⟨_, rfl, by decide, w_36⟩
theorem f_X9_78 : FA RX9 78 6 1 := ⟨_, rfl, by decide, w_37⟩
theorem f_X7_28 : FA RX7 28 6 1 := ⟨_, rfl, by decide, w_38⟩
theorem f_X7_9 : FA RX7 9 7 0 := ⟨_, rfl, by decide, w_57⟩
theorem f_X7_15 : FA RX7 15 7 1 := ⟨_, rfl, by decide, w_58⟩
theorem f_X4_51 : FA RX4 51 7 1 := ⟨_, rfl, by decide, w_59⟩
theorem f_X7_19 : FA RX7 19 7 2 := ⟨_, rfl, by decide, w_60⟩
theorem f_X4_112 : FA RX4 112 7 2 := ⟨_, rfl, by decide, w_61⟩
theorem f_X7_22 : FA RX7 22 7 3 := ⟨_, rfl, by decide, w_62⟩
theorem f_X7_25 : FA RX7 25 7 4 := ⟨_, rfl, by decide, w_63⟩
theorem f_X4_101 : FA RX4 101 7 4 := ⟨_, rfl, by decide, w_64⟩
theorem f_X4_15 : FA RX4 15 4 0 := ⟨_, rfl, by decide, w_77⟩
theorem f_X4_24 : FA RX4 24 4 1 := ⟨_, rfl, by decide, w_78⟩
theorem f_X4_11 : FA RX4 11 4 2 := ⟨_, rfl, by decide, w_79⟩
theorem f_X4_37 : FA RX4 37 4 3 := ⟨_, rfl, by decide, w_80⟩
theorem f_X9_95 : FA RX9 95 4 3 := ⟨_, rfl, by decide, w_81⟩
theorem f_X4_28 : FA RX4 28 4 4 := ⟨_, rfl, by decide, w_82⟩
theorem f_X9_98 : FA RX9 98 4 4 := ⟨_, rfl, by decide, w_83⟩
theorem f_X3_7 : FA RX3 7 3 0 := ⟨_, rfl, by decide, w_107⟩
theorem f_X3_13 : FA RX3 13 3 1 := ⟨_, rfl, by decide, w_108⟩
theorem f_X3_17 : FA RX3 17 3 2 := ⟨_, rfl, by decide, w_109⟩
theorem f_X2_33 : FA RX2 33 3 2 := ⟨_, rfl, by decide, w_110⟩
theorem f_X1_36 : FA RX1 36 3 2 := ⟨_, rfl, by decide, w_111⟩
theorem f_X0_47 : FA RX0 47 3 2 := ⟨_, rfl, by decide, w_112⟩
theorem f_X9_134 : FA RX9 134 3 2 := ⟨_, rfl, by decide, w_113⟩
theorem f_X8_136 : FA RX8 136 3 2 := ⟨_, rfl, by decide, w_114⟩
theorem f_X4_150 : FA RX4 150 3 2 := ⟨_, rfl, by decide, w_115⟩
theorem f_X2_14 : FA RX2 14 2 0 := ⟨_, rfl, by decide, w_123⟩
theorem f_X8_77 : FA RX8 77 2 0 := ⟨_, rfl, by decide, w_124⟩
theorem f_X1_46 : FA RX1 46 2 0 := ⟨_, rfl, by decide, w_125⟩
theorem f_X0_88 : FA RX0 88 2 0 := ⟨_, rfl, by decide, w_126⟩
theorem f_X9_104 : FA RX9 104 2 0 := ⟨_, rfl, by decide, w_127⟩
theorem f_X4_129 : FA RX4 129 2 0 := ⟨_, rfl, by decide, w_128⟩
theorem f_X2_20 : FA RX2 20 2 1 := ⟨_, rfl, by decide, w_129⟩
theorem f_X4_138 : FA RX4 138 2 1 := ⟨_, rfl, by decide, w_130⟩
theorem f_X9_137 : FA RX9 137 2 1 := ⟨_, rfl, by decide, w_131⟩
theorem f_X8_157 : FA RX8 157 2 1 := ⟨_, rfl, by decide, w_132⟩
theorem f_X2_23 : FA RX2 23 2 2 := ⟨_, rfl, by decide, w_133⟩
theorem f_X8_67 : FA RX8 67 2 2 := ⟨_, rfl, by decide, w_134⟩
theorem f_X1_30 : FA RX1 30 2 2 := ⟨_, rfl, by decide, w_135⟩
theorem f_X9_117 : FA RX9 117 2 2 := ⟨_, rfl, by decide, w_136⟩
theorem f_X4_141 : FA RX4 141 2 2 := ⟨_, rfl, by decide, w_137⟩
theorem f_X2_26 : FA RX2 26 2 3 := ⟨_, rfl, by decide, w_138⟩
theorem f_X0_41 : FA RX0 41 2 3 := ⟨_, rfl, by decide, w_139⟩
theorem f_X4_144 : FA RX4 144 2 3 := ⟨_, rfl, by decide, w_140⟩
theorem f_X9_140 : FA RX9 140 2 3 := ⟨_, rfl, by decide, w_141⟩
theorem f_X8_151 : FA RX8 151 2 3 := ⟨_, rfl, by decide, w_142⟩
theorem f_X2_29 : FA RX2 29 2 4 := ⟨_, rfl, by decide, w_143⟩
theorem f_X8_164 : FA RX8 164 2 4 := ⟨_, rfl, by decide, w_144⟩
theorem f_X2_43 : FA RX2 43 2 5 := ⟨_, rfl, by decide, w_145⟩
theorem f_X4_62 : FA RX4 62 2 5 := ⟨_, rfl, by decide, w_146⟩
theorem f_X9_92 : FA RX9 92 2 5 := ⟨_, rfl, by decide, w_147⟩
theorem f_X2_46 : FA RX2 46 2 6 := ⟨_, rfl, by decide, w_148⟩
theorem f_X8_98 : FA RX8 98 2 6 := ⟨_, rfl, by decide, w_149⟩
theorem f_X9_131 : FA RX9 131 2 6 := ⟨_, rfl, by decide, w_150⟩
theorem f_X4_147 : FA RX4 147 2 6 := ⟨_, rfl, by decide, w_151⟩
theorem f_X8_55 : FA RX8 55 2 7 := ⟨_, rfl, by decide, w_152⟩
theorem f_X2_49 : FA RX2 49 2 7 := ⟨_, rfl, by decide, w_153⟩
theorem f_X9_128 : FA RX9 128 2 7 := ⟨_, rfl, by decide, w_154⟩
theorem f_X4_153 : FA RX4 153 2 7 := ⟨_, rfl, by decide, w_155⟩
theorem f_X2_52 : FA RX2 52 2 8 := ⟨_, rfl, by decide, w_156⟩
theorem f_X8_114 : FA RX8 114 2 8 := ⟨_, rfl, by decide, w_157⟩
theorem f_X9_143 : FA RX9 143 2 8 := ⟨_, rfl, by decide, w_158⟩
theorem f_X4_156 : FA RX4 156 2 8 := ⟨_, rfl, by decide, w_159⟩
theorem f_X8_51 : FA RX8 51 8 0 := ⟨_, rfl, by decide, w_188⟩
theorem f_X8_9 : FA RX8 9 8 1 := ⟨_, rfl, by decide, w_189⟩
theorem f_X1_61 : FA RX1 61 8 1 := ⟨_, rfl, by decide, w_190⟩
theorem f_X8_61 : FA RX8 61 8 2 := ⟨_, rfl, by decide, w_191⟩
theorem f_X9_295 : FA RX9 295 8 2 := ⟨_, rfl, by decide, w_192⟩
theorem f_X8_64 : FA RX8 64 8 3 := ⟨_, rfl, by decide, w_193⟩
theorem f_X9_298 : FA RX9 298 8 3 := ⟨_, rfl, by decide, w_194⟩
theorem f_X8_15 : FA RX8 15 8 4 := ⟨_, rfl, by decide, w_195⟩
theorem f_X0_111 : FA RX0 111 8 4 := ⟨_, rfl, by decide, w_196⟩
theorem f_X9_210 : FA RX9 210 8 4 := ⟨_, rfl, by decide, w_197⟩
theorem f_X8_18 : FA RX8 18 8 5 := ⟨_, rfl, by decide, w_198⟩
theorem f_X8_21 : FA RX8 21 8 6 := ⟨_, rfl, by decide, w_199⟩
theorem f_X9_165 : FA RX9 165 8 6 := ⟨_, rfl, by decide, w_200⟩
theorem f_X8_24 : FA RX8 24 8 7 := ⟨_, rfl, by decide, w_201⟩
theorem f_X9_169 : FA RX9 169 8 7 := ⟨_, rfl, by decide, w_202⟩
theorem f_X8_27 : FA RX8 27 8 8 := ⟨_, rfl, by decide, w_203⟩
theorem f_X9_172 : FA RX9 172 8 8 := ⟨_, rfl, by decide, w_204⟩
theorem f_X8_30 : FA RX8 30 8 9 := ⟨_, rfl, by decide, w_205⟩
theorem f_X9_179 : FA RX9 179 8 9 := ⟨_, rfl, by decide, w_206⟩
theorem f_X8_33 : FA RX8 33 8 10 := ⟨_, rfl, by decide, w_207⟩
theorem f_X0_60 : FA RX0 60 8 10 := ⟨_, rfl, by decide, w_208⟩
theorem f_X9_182 : FA RX9 182 8 10 := ⟨_, rfl, by decide, w_209⟩
theorem f_X8_36 : FA RX8 36 8 11 := ⟨_, rfl, by decide, w_210⟩
theorem f_X0_65 : FA RX0 65 8 11 := ⟨_, rfl, by decide, w_211⟩
theorem f_X9_185 : FA RX9 185 8 11 := ⟨_, rfl, by decide, w_212⟩
theorem f_X8_39 : FA RX8 39 8 12 := ⟨_, rfl, by decide, w_213⟩
theorem f_X1_75 : FA RX1 75 8 12 := ⟨_, rfl, by decide, w_214⟩
theorem f_X9_188 : FA RX9 188 8 12 := ⟨_, rfl, by decide, w_215⟩
theorem f_X8_42 : FA RX8 42 8 13 := ⟨_, rfl, by decide, w_216⟩
theorem f_X9_191 : FA RX9 191 8 13 := ⟨_, rfl, by decide, w_217⟩
theorem f_X8_45 : FA RX8 45 8 14 := ⟨_, rfl, by decide, w_218⟩
theorem f_X9_194 : FA RX9 194 8 14 := ⟨_, rfl, by decide, w_219⟩
theorem f_X8_48 : FA RX8 48 8 15 := ⟨_, rfl, by decide, w_220⟩
theorem f_X9_319 : FA RX9 319 8 15 := ⟨_, rfl, by decide, w_221⟩
theorem f_X8_86 : FA RX8 86 8 16 := ⟨_, rfl, by decide, w_222⟩
theorem f_X9_201 : FA RX9 201 8 16 := ⟨_, rfl, by decide, w_223⟩
theorem f_X8_89 : FA RX8 89 8 17 := ⟨_, rfl, by decide, w_224⟩
theorem f_X9_204 : FA RX9 204 8 17 := ⟨_, rfl, by decide, w_225⟩
theorem f_X8_92 : FA RX8 92 8 18 := ⟨_, rfl, by decide, w_226⟩
theorem f_X9_207 : FA RX9 207 8 18 := ⟨_, rfl, by decide, w_227⟩
theorem f_X8_95 : FA RX8 95 8 19 := ⟨_, rfl, by decide, w_228⟩
theorem f_X9_213 : FA RX9 213 8 19 := ⟨_, rfl, by decide, w_229⟩
theorem f_X1_22 : FA RX1 22 1 0 := ⟨_, rfl, by decide, w_277⟩
theorem f_X1_26 : FA RX1 26 1 1 := ⟨_, rfl, by decide, w_278⟩
theorem f_X1_11 : FA RX1 11 1 2 := ⟨_, rfl, by decide, w_279⟩
theorem f_X1_15 : FA RX1 15 1 3 := ⟨_, rfl, by decide, w_280⟩
theorem f_X1_18 : FA RX1 18 1 4 := ⟨_, rfl, by decide, w_281⟩
theorem f_X0_27 : FA RX0 27 0 0 := ⟨_, rfl, by decide, w_300⟩
theorem f_X0_31 : FA RX0 31 0 1 := ⟨_, rfl, by decide, w_301⟩
theorem f_X0_11 : FA RX0 11 0 2 := ⟨_, rfl, by decide, w_302⟩
theorem f_X9_331 : FA RX9 331 0 2 := ⟨_, rfl, by decide, w_303⟩
theorem f_X0_15 : FA RX0 15 0 3 := ⟨_, rfl, by decide, w_304⟩
theorem f_X9_349 : FA RX9 349 0 3 := ⟨_, rfl, by decide, w_305⟩
theorem f_X0_18 : FA RX0 18 0 4 := ⟨_, rfl, by decide, w_306⟩
theorem f_X9_355 : FA RX9 355 0 4 := ⟨_, rfl, by decide, w_307⟩
theorem f_X0_21 : FA RX0 21 0 5 := ⟨_, rfl, by decide, w_308⟩
theorem f_X0_24 : FA RX0 24 0 6 := ⟨_, rfl, by decide, w_309⟩
theorem f_X9_346 : FA RX9 346 0 6 := ⟨_, rfl, by decide, w_310⟩
theorem f_X0_74 : FA RX0 74 0 7 := ⟨_, rfl, by decide, w_311⟩
theorem f_X9_340 : FA RX9 340 0 7 := ⟨_, rfl, by decide, w_312⟩
theorem f_X0_77 : FA RX0 77 0 8 := ⟨_, rfl, by decide, w_313⟩
theorem f_X9_343 : FA RX9 343 0 8 := ⟨_, rfl, by decide, w_314⟩
theorem f_X9_10 : FA RX9 10 9 0 := ⟨_, rfl, by decide, w_334⟩
theorem f_X9_21 : FA RX9 21 9 1 := ⟨_, rfl, by decide, w_335⟩
theorem f_X9_28 : FA RX9 28 9 2 := ⟨_, rfl, by decide, w_336⟩
theorem f_X9_32 : FA RX9 32 9 3 := ⟨_, rfl, by decide, w_337⟩
theorem f_X9_35 : FA RX9 35 9 4 := ⟨_, rfl, by decide, w_338⟩
theorem f_X9_41 : FA RX9 41 9 5 := ⟨_, rfl, by decide, w_339⟩
theorem f_X9_50 : FA RX9 50 9 6 := ⟨_, rfl, by decide, w_340⟩
theorem f_X9_59 : FA RX9 59 9 7 := ⟨_, rfl, by decide, w_341⟩
theorem f_X9_66 : FA RX9 66 9 8 := ⟨_, rfl, by decide, w_342⟩
theorem f_X5_9 : FA RX5 9 5 0 := ⟨_, rfl, by decide, w_1035⟩
theorem f_X9_408 : FA RX9 408 5 0 := ⟨_, rfl, by decide, w_1036⟩
theorem f_X5_13 : FA RX5 13 5 1 := ⟨_, rfl, by decide, w_1037⟩
theorem f_X9_402 : FA RX9 402 5 1 := ⟨_, rfl, by decide, w_1038⟩
theorem f_X5_17 : FA RX5 17 5 2 := ⟨_, rfl, by decide, w_1039⟩
theorem f_X9_284 : FA RX9 284 5 2 := ⟨_, rfl, by decide, w_1040⟩
theorem f_X10_9 : FA RX10 9 10 1 := ⟨_, rfl, by decide, w_1083⟩
theorem f_X10_13 : FA RX10 13 10 2 := ⟨_, rfl, by decide, w_1084⟩
theorem f_X10_16 : FA RX10 16 10 3 := ⟨_, rfl, by decide, w_1085⟩
theorem f_X10_20 : FA RX10 20 10 4 := ⟨_, rfl, by decide, w_1086⟩
theorem f_X10_97 : FA RX10 97 10 5 := ⟨_, rfl, by decide, w_1087⟩
theorem f_X10_24 : FA RX10 24 10 6 := ⟨_, rfl, by decide, w_1088⟩
theorem f_X10_100 : FA RX10 100 10 7 := ⟨_, rfl, by decide, w_1089⟩
theorem f_X10_103 : FA RX10 103 10 8 := ⟨_, rfl, by decide, w_1090⟩
theorem f_X10_110 : FA RX10 110 10 9 := ⟨_, rfl, by decide, w_1091⟩
theorem f_X10_113 : FA RX10 113 10 10 := ⟨_, rfl, by decide, w_1092⟩
theorem f_X10_124 : FA RX10 124 10 11 := ⟨_, rfl, by decide, w_1093⟩
theorem f_X10_134 : FA RX10 134 10 12 := ⟨_, rfl, by decide, w_1094⟩
theorem f_X10_27 : FA RX10 27 10 13 := ⟨_, rfl, by decide, w_1095⟩
theorem f_X10_31 : FA RX10 31 10 14 := ⟨_, rfl, by decide, w_1096⟩
theorem f_X10_34 : FA RX10 34 10 15 := ⟨_, rfl, by decide, w_1097⟩
theorem f_X10_37 : FA RX10 37 10 16 := ⟨_, rfl, by decide, w_1098⟩
theorem f_X10_40 : FA RX10 40 10 17 := ⟨_, rfl, by decide, w_1099⟩
theorem f_X10_43 : FA RX10 43 10 18 := ⟨_, rfl, by decide, w_1100⟩
theorem f_X10_46 : FA RX10 46 10 19 := ⟨_, rfl, by decide, w_1101⟩
theorem f_X10_273 : FA RX10 273 10 20 := ⟨_, rfl, by decide, w_1102⟩
theorem f_X10_276 : FA RX10 276 10 21 := ⟨_, rfl, by decide, w_1103⟩
theorem f_X10_270 : FA RX10 270 10 22 := ⟨_, rfl, by decide, w_1104⟩
theorem f_X10_246 : FA RX10 246 10 23 := ⟨_, rfl, by decide, w_1105⟩
theorem f_X10_243 : FA RX10 243 10 24 := ⟨_, rfl, by decide, w_1106⟩
theorem f_X10_49 : FA RX10 49 10 25 := ⟨_, rfl, by decide, w_1107⟩
theorem f_X10_52 : FA RX10 52 10 26 := ⟨_, rfl, by decide, w_1108⟩
theorem f_X10_336 : FA RX10 336 10 27 := ⟨_, rfl, by decide, w_1109⟩
theorem f_X10_376 : FA RX10 376 10 28 := ⟨_, rfl, by decide, w_1110⟩
theorem f_X10_55 : FA RX10 55 10 29 := ⟨_, rfl, by decide, w_1111⟩
theorem f_X10_58 : FA RX10 58 10 30 := ⟨_, rfl, by decide, w_1112⟩
theorem f_X10_412 : FA RX10 412 10 31 := ⟨_, rfl, by decide, w_1113⟩
theorem f_X10_415 : FA RX10 415 10 32 := ⟨_, rfl, by decide, w_1114⟩
theorem f_X10_61 : FA RX10 61 10 33 := ⟨_, rfl, by decide, w_1115⟩
theorem f_X10_64 : FA RX10 64 10 34 := ⟨_, rfl, by decide, w_1116⟩
theorem f_X10_454 : FA RX10 454 10 35 := ⟨_, rfl, by decide, w_1117⟩
theorem f_X10_67 : FA RX10 67 10 36 := ⟨_, rfl, by decide, w_1118⟩
theorem f_X10_70 : FA RX10 70 10 37 := ⟨_, rfl, by decide, w_1119⟩
theorem f_X10_73 : FA RX10 73 10 38 := ⟨_, rfl, by decide, w_1120⟩
theorem f_X10_77 : FA RX10 77 10 39 := ⟨_, rfl, by decide, w_1121⟩
theorem p_X0_11 : FP RX0 11 0 2 (.array .int) true := ⟨f_X0_11, fun r hr => by cases hr; exact ⟨by decide +kernel, rfl, fun _ => rfl⟩⟩
theorem p_X0_15 : FP RX0 15 0 3 (.array .int) true := ⟨f_X0_15, fun r hr => by cases hr; exact ⟨by decide +kernel, rfl, fun _ => rfl⟩⟩
theorem p_X0_18 : FP RX0 18 0 4 (.array .int) true := ⟨f_X0_18, fun r hr => by cases hr; exact ⟨by decide +kernel, rfl, fun _ => rfl⟩⟩
theorem p_X0_21 : FP RX0 21 0 5 (.array .int) true := ⟨f_X0_21, fun r hr => by cases hr; exact ⟨by decide +kernel, rfl, fun _ => rfl⟩⟩
theorem p_X0_24 : FP RX0 24 0 6 (.array .int) true := ⟨f_X0_24, fun r hr => by cases hr; exact ⟨by decide +kernel, rfl, fun _ => rfl⟩⟩
theorem p_X0_27 : FP RX0 27 0 0 (.object "FloodLent$Plain") true := ⟨f_X0_27, fun r hr => by cases hr; exact ⟨by decide +kernel, rfl, fun _ => rfl⟩⟩
theorem p_X0_31 : FP RX0 31 0 1 (.object "FloodLent$Year") true := ⟨f_X0_31, fun r hr => by cases hr; exact ⟨by decide +kernel, rfl, fun _ => rfl⟩⟩
theorem p_X0_74 : FP RX0 74 0 7 .int false := ⟨f_X0_74, fun r hr => by cases hr; exact ⟨by decide +kernel, rfl, fun h => by cases h⟩⟩
theorem p_X0_77 : FP RX0 77 0 8 .int false := ⟨f_X0_77, fun r hr => by cases hr; exact ⟨by decide +kernel, rfl, fun h => by cases h⟩⟩
theorem p_X1_11 : FP RX1 11 1 2 (.array .int) true := ⟨f_X1_11, fun r hr => by cases hr; exact ⟨by decide +kernel, rfl, fun _ => rfl⟩⟩
theorem p_X1_15 : FP RX1 15 1 3 (.array .int) true := ⟨f_X1_15, fun r hr => by cases hr; exact ⟨by decide +kernel, rfl, fun _ => rfl⟩⟩
theorem p_X1_18 : FP RX1 18 1 4 (.array .boolean) true := ⟨f_X1_18, fun r hr => by cases hr; exact ⟨by decide +kernel, rfl, fun _ => rfl⟩⟩
theorem p_X1_22 : FP RX1 22 1 0 (.object "FloodLent$Plain") true := ⟨f_X1_22, fun r hr => by cases hr; exact ⟨by decide +kernel, rfl, fun _ => rfl⟩⟩
theorem p_X1_26 : FP RX1 26 1 1 (.object "FloodLent$Year") true := ⟨f_X1_26, fun r hr => by cases hr; exact ⟨by decide +kernel, rfl, fun _ => rfl⟩⟩
theorem p_X10_9 : FP RX10 9 10 1 (.array .int) true := ⟨f_X10_9, fun r hr => by cases hr; exact ⟨by decide +kernel, rfl, fun _ => rfl⟩⟩
theorem p_X10_13 : FP RX10 13 10 2 (.array .int) true := ⟨f_X10_13, fun r hr => by cases hr; exact ⟨by decide +kernel, rfl, fun _ => rfl⟩⟩
theorem p_X10_16 : FP RX10 16 10 3 (.array .boolean) true := ⟨f_X10_16, fun r hr => by cases hr; exact ⟨by decide +kernel, rfl, fun _ => rfl⟩⟩
theorem p_X10_20 : FP RX10 20 10 4 (.array .byte) true := ⟨f_X10_20, fun r hr => by cases hr; exact ⟨by decide +kernel, rfl, fun _ => rfl⟩⟩
theorem p_X10_24 : FP RX10 24 10 6 (.array .int) true := ⟨f_X10_24, fun r hr => by cases hr; exact ⟨by decide +kernel, rfl, fun _ => rfl⟩⟩
theorem p_X10_27 : FP RX10 27 10 13 .int false := ⟨f_X10_27, fun r hr => by cases hr; exact ⟨by decide +kernel, rfl, fun h => by cases h⟩⟩
theorem p_X10_31 : FP RX10 31 10 14 (.array .int) true := ⟨f_X10_31, fun r hr => by cases hr; exact ⟨by decide +kernel, rfl, fun _ => rfl⟩⟩
theorem p_X10_34 : FP RX10 34 10 15 (.array .int) true := ⟨f_X10_34, fun r hr => by cases hr; exact ⟨by decide +kernel, rfl, fun _ => rfl⟩⟩
theorem p_X10_37 : FP RX10 37 10 16 (.array .int) true := ⟨f_X10_37, fun r hr => by cases hr; exact ⟨by decide +kernel, rfl, fun _ => rfl⟩⟩
theorem p_X10_40 : FP RX10 40 10 17 (.array .int) true := ⟨f_X10_40, fun r hr => by cases hr; exact ⟨by decide +kernel, rfl, fun _ => rfl⟩⟩
theorem p_X10_43 : FP RX10 43 10 18 (.array .int) true := ⟨f_X10_43, fun r hr => by cases hr; exact ⟨by decide +kernel, rfl, fun _ => rfl⟩⟩
theorem p_X10_46 : FP RX10 46 10 19 (.array .int) true := ⟨f_X10_46, fun r hr => by cases hr; exact ⟨by decide +kernel, rfl, fun _ => rfl⟩⟩
theorem p_X10_49 : FP RX10 49 10 25 .int false := ⟨f_X10_49, fun r hr => by cases hr; exact ⟨by decide +kernel, rfl, fun h => by cases h⟩⟩
theorem p_X10_52 : FP RX10 52 10 26 (.array .int) true := ⟨f_X10_52, fun r hr => by cases hr; exact ⟨by decide +kernel, rfl, fun _ => rfl⟩⟩
theorem p_X10_55 : FP RX10 55 10 29 (.array .int) true := ⟨f_X10_55, fun r hr => by cases hr; exact ⟨by decide +kernel, rfl, fun _ => rfl⟩⟩
theorem p_X10_58 : FP RX10 58 10 30 (.array .int) true := ⟨f_X10_58, fun r hr => by cases hr; exact ⟨by decide +kernel, rfl, fun _ => rfl⟩⟩
theorem p_X10_61 : FP RX10 61 10 33 (.array .int) true := ⟨f_X10_61, fun r hr => by cases hr; exact ⟨by decide +kernel, rfl, fun _ => rfl⟩⟩
theorem p_X10_64 : FP RX10 64 10 34 (.array .int) true := ⟨f_X10_64, fun r hr => by cases hr; exact ⟨by decide +kernel, rfl, fun _ => rfl⟩⟩
theorem p_X10_67 : FP RX10 67 10 36 (.array .int) true := ⟨f_X10_67, fun r hr => by cases hr; exact ⟨by decide +kernel, rfl, fun _ => rfl⟩⟩
theorem p_X10_70 : FP RX10 70 10 37 (.array .int) true := ⟨f_X10_70, fun r hr => by cases hr; exact ⟨by decide +kernel, rfl, fun _ => rfl⟩⟩
theorem p_X10_73 : FP RX10 73 10 38 (.array .long) true := ⟨f_X10_73, fun r hr => by cases hr; exact ⟨by decide +kernel, rfl, fun _ => rfl⟩⟩
theorem p_X10_77 : FP RX10 77 10 39 (.array .long) true := ⟨f_X10_77, fun r hr => by cases hr; exact ⟨by decide +kernel, rfl, fun _ => rfl⟩⟩
theorem p_X10_97 : FP RX10 97 10 5 .int false := ⟨f_X10_97, fun r hr => by cases hr; exact ⟨by decide +kernel, rfl, fun h => by cases h⟩⟩
theorem p_X10_100 : FP RX10 100 10 7 .int false := ⟨f_X10_100, fun r hr => by cases hr; exact ⟨by decide +kernel, rfl, fun h => by cases h⟩⟩
theorem p_X10_103 : FP RX10 103 10 8 .int false := ⟨f_X10_103, fun r hr => by cases hr; exact ⟨by decide +kernel, rfl, fun h => by cases h⟩⟩
theorem p_X10_110 : FP RX10 110 10 9 .int false := ⟨f_X10_110, fun r hr => by cases hr; exact ⟨by decide +kernel, rfl, fun h => by cases h⟩⟩
theorem p_X10_113 : FP RX10 113 10 10 .int false := ⟨f_X10_113, fun r hr => by cases hr; exact ⟨by decide +kernel, rfl, fun h => by cases h⟩⟩
theorem p_X10_124 : FP RX10 124 10 11 .int false := ⟨f_X10_124, fun r hr => by cases hr; exact ⟨by decide +kernel, rfl, fun h => by cases h⟩⟩
theorem p_X10_134 : FP RX10 134 10 12 .int false := ⟨f_X10_134, fun r hr => by cases hr; exact ⟨by decide +kernel, rfl, fun h => by cases h⟩⟩
theorem p_X10_243 : FP RX10 243 10 24 .int false := ⟨f_X10_243, fun r hr => by cases hr; exact ⟨by decide +kernel, rfl, fun h => by cases h⟩⟩
theorem p_X10_246 : FP RX10 246 10 23 .int false := ⟨f_X10_246, fun r hr => by cases hr; exact ⟨by decide +kernel, rfl, fun h => by cases h⟩⟩
theorem p_X10_270 : FP RX10 270 10 22 .int false := ⟨f_X10_270, fun r hr => by cases hr; exact ⟨by decide +kernel, rfl, fun h => by cases h⟩⟩
theorem p_X10_273 : FP RX10 273 10 20 .int false := ⟨f_X10_273, fun r hr => by cases hr; exact ⟨by decide +kernel, rfl, fun h => by cases h⟩⟩
theorem p_X10_276 : FP RX10 276 10 21 .int false := ⟨f_X10_276, fun r hr => by cases hr; exact ⟨by decide +kernel, rfl, fun h => by cases h⟩⟩
theorem p_X10_336 : FP RX10 336 10 27 .int false := ⟨f_X10_336, fun r hr => by cases hr; exact ⟨by decide +kernel, rfl, fun h => by cases h⟩⟩
theorem p_X10_376 : FP RX10 376 10 28 .long false := ⟨f_X10_376, fun r hr => by cases hr; exact ⟨by decide +kernel, rfl, fun h => by cases h⟩⟩
theorem p_X10_412 : FP RX10 412 10 31 .int false := ⟨f_X10_412, fun r hr => by cases hr; exact ⟨by decide +kernel, rfl, fun h => by cases h⟩⟩
theorem p_X10_415 : FP RX10 415 10 32 .int false := ⟨f_X10_415, fun r hr => by cases hr; exact ⟨by decide +kernel, rfl, fun h => by cases h⟩⟩
theorem p_X10_454 : FP RX10 454 10 35 .long false := ⟨f_X10_454, fun r hr => by cases hr; exact ⟨by decide +kernel, rfl, fun h => by cases h⟩⟩
theorem p_X2_14 : FP RX2 14 2 0 (.object "FloodLent$Records") true := ⟨f_X2_14, fun r hr => by cases hr; exact ⟨by decide +kernel, rfl, fun _ => rfl⟩⟩
theorem p_X2_20 : FP RX2 20 2 1 (.object "FloodLent$Records") true := ⟨f_X2_20, fun r hr => by cases hr; exact ⟨by decide +kernel, rfl, fun _ => rfl⟩⟩
theorem p_X2_23 : FP RX2 23 2 2 (.object "FloodLent$Records") true := ⟨f_X2_23, fun r hr => by cases hr; exact ⟨by decide +kernel, rfl, fun _ => rfl⟩⟩
theorem p_X2_26 : FP RX2 26 2 3 (.object "FloodLent$Records") true := ⟨f_X2_26, fun r hr => by cases hr; exact ⟨by decide +kernel, rfl, fun _ => rfl⟩⟩
theorem p_X2_29 : FP RX2 29 2 4 (.array .int) true := ⟨f_X2_29, fun r hr => by cases hr; exact ⟨by decide +kernel, rfl, fun _ => rfl⟩⟩
theorem p_X2_33 : FP RX2 33 3 2 .int false := ⟨f_X2_33, fun r hr => by cases hr; exact ⟨by decide +kernel, rfl, fun h => by cases h⟩⟩
theorem p_X2_43 : FP RX2 43 2 5 .int false := ⟨f_X2_43, fun r hr => by cases hr; exact ⟨by decide +kernel, rfl, fun h => by cases h⟩⟩
theorem p_X2_46 : FP RX2 46 2 6 .int false := ⟨f_X2_46, fun r hr => by cases hr; exact ⟨by decide +kernel, rfl, fun h => by cases h⟩⟩
theorem p_X2_49 : FP RX2 49 2 7 .int false := ⟨f_X2_49, fun r hr => by cases hr; exact ⟨by decide +kernel, rfl, fun h => by cases h⟩⟩
theorem p_X2_52 : FP RX2 52 2 8 .int false := ⟨f_X2_52, fun r hr => by cases hr; exact ⟨by decide +kernel, rfl, fun h => by cases h⟩⟩
theorem p_X3_7 : FP RX3 7 3 0 .int true := ⟨f_X3_7, fun r hr => by cases hr; exact ⟨by decide +kernel, rfl, fun _ => rfl⟩⟩
theorem p_X3_13 : FP RX3 13 3 1 (.array .int) true := ⟨f_X3_13, fun r hr => by cases hr; exact ⟨by decide +kernel, rfl, fun _ => rfl⟩⟩
theorem p_X3_17 : FP RX3 17 3 2 .int false := ⟨f_X3_17, fun r hr => by cases hr; exact ⟨by decide +kernel, rfl, fun h => by cases h⟩⟩
theorem p_X4_11 : FP RX4 11 4 2 (.array .int) true := ⟨f_X4_11, fun r hr => by cases hr; exact ⟨by decide +kernel, rfl, fun _ => rfl⟩⟩
theorem p_X4_15 : FP RX4 15 4 0 (.object "FloodLent$Tape") true := ⟨f_X4_15, fun r hr => by cases hr; exact ⟨by decide +kernel, rfl, fun _ => rfl⟩⟩
theorem p_X4_24 : FP RX4 24 4 1 (.object "FloodLent$Tokens") true := ⟨f_X4_24, fun r hr => by cases hr; exact ⟨by decide +kernel, rfl, fun _ => rfl⟩⟩
theorem p_X4_28 : FP RX4 28 4 4 .int false := ⟨f_X4_28, fun r hr => by cases hr; exact ⟨by decide +kernel, rfl, fun h => by cases h⟩⟩
theorem p_X4_37 : FP RX4 37 4 3 .int false := ⟨f_X4_37, fun r hr => by cases hr; exact ⟨by decide +kernel, rfl, fun h => by cases h⟩⟩
theorem p_X4_62 : FP RX4 62 2 5 .int false := ⟨f_X4_62, fun r hr => by cases hr; exact ⟨by decide +kernel, rfl, fun h => by cases h⟩⟩
theorem p_X4_147 : FP RX4 147 2 6 .int false := ⟨f_X4_147, fun r hr => by cases hr; exact ⟨by decide +kernel, rfl, fun h => by cases h⟩⟩
theorem p_X4_153 : FP RX4 153 2 7 .int false := ⟨f_X4_153, fun r hr => by cases hr; exact ⟨by decide +kernel, rfl, fun h => by cases h⟩⟩
theorem p_X4_156 : FP RX4 156 2 8 .int false := ⟨f_X4_156, fun r hr => by cases hr; exact ⟨by decide +kernel, rfl, fun h => by cases h⟩⟩
theorem p_X5_9 : FP RX5 9 5 0 (.array .long) true := ⟨f_X5_9, fun r hr => by cases hr; exact ⟨by decide +kernel, rfl, fun _ => rfl⟩⟩
theorem p_X5_13 : FP RX5 13 5 1 .int false := ⟨f_X5_13, fun r hr => by cases hr; exact ⟨by decide +kernel, rfl, fun h => by cases h⟩⟩
theorem p_X5_17 : FP RX5 17 5 2 .int false := ⟨f_X5_17, fun r hr => by cases hr; exact ⟨by decide +kernel, rfl, fun h => by cases h⟩⟩
theorem p_X6_11 : FP RX6 11 6 0 (.array .byte) true := ⟨f_X6_11, fun r hr => by cases hr; exact ⟨by decide +kernel, rfl, fun _ => rfl⟩⟩
theorem p_X6_15 : FP RX6 15 6 1 .int false := ⟨f_X6_15, fun r hr => by cases hr; exact ⟨by decide +kernel, rfl, fun h => by cases h⟩⟩
theorem p_X7_9 : FP RX7 9 7 0 (.object "FloodLent$Tape") true := ⟨f_X7_9, fun r hr => by cases hr; exact ⟨by decide +kernel, rfl, fun _ => rfl⟩⟩
theorem p_X7_15 : FP RX7 15 7 1 .int false := ⟨f_X7_15, fun r hr => by cases hr; exact ⟨by decide +kernel, rfl, fun h => by cases h⟩⟩
theorem p_X7_19 : FP RX7 19 7 2 .int false := ⟨f_X7_19, fun r hr => by cases hr; exact ⟨by decide +kernel, rfl, fun h => by cases h⟩⟩
theorem p_X7_22 : FP RX7 22 7 3 .int false := ⟨f_X7_22, fun r hr => by cases hr; exact ⟨by decide +kernel, rfl, fun h => by cases h⟩⟩
theorem p_X7_25 : FP RX7 25 7 4 .int false := ⟨f_X7_25, fun r hr => by cases hr; exact ⟨by decide +kernel, rfl, fun h => by cases h⟩⟩
theorem p_X8_9 : FP RX8 9 8 1 (.array .int) true := ⟨f_X8_9, fun r hr => by cases hr; exact ⟨by decide +kernel, rfl, fun _ => rfl⟩⟩
theorem p_X8_15 : FP RX8 15 8 4 (.array .int) true := ⟨f_X8_15, fun r hr => by cases hr; exact ⟨by decide +kernel, rfl, fun _ => rfl⟩⟩
theorem p_X8_18 : FP RX8 18 8 5 (.array .int) true := ⟨f_X8_18, fun r hr => by cases hr; exact ⟨by decide +kernel, rfl, fun _ => rfl⟩⟩
theorem p_X8_21 : FP RX8 21 8 6 (.array .int) true := ⟨f_X8_21, fun r hr => by cases hr; exact ⟨by decide +kernel, rfl, fun _ => rfl⟩⟩
theorem p_X8_24 : FP RX8 24 8 7 (.array .int) true := ⟨f_X8_24, fun r hr => by cases hr; exact ⟨by decide +kernel, rfl, fun _ => rfl⟩⟩
theorem p_X8_27 : FP RX8 27 8 8 (.array .int) true := ⟨f_X8_27, fun r hr => by cases hr; exact ⟨by decide +kernel, rfl, fun _ => rfl⟩⟩
theorem p_X8_30 : FP RX8 30 8 9 (.array .int) true := ⟨f_X8_30, fun r hr => by cases hr; exact ⟨by decide +kernel, rfl, fun _ => rfl⟩⟩
theorem p_X8_33 : FP RX8 33 8 10 (.array .int) true := ⟨f_X8_33, fun r hr => by cases hr; exact ⟨by decide +kernel, rfl, fun _ => rfl⟩⟩
theorem p_X8_36 : FP RX8 36 8 11 (.array .int) true := ⟨f_X8_36, fun r hr => by cases hr; exact ⟨by decide +kernel, rfl, fun _ => rfl⟩⟩
theorem p_X8_39 : FP RX8 39 8 12 (.array .int) true := ⟨f_X8_39, fun r hr => by cases hr; exact ⟨by decide +kernel, rfl, fun _ => rfl⟩⟩
theorem p_X8_42 : FP RX8 42 8 13 (.array .int) true := ⟨f_X8_42, fun r hr => by cases hr; exact ⟨by decide +kernel, rfl, fun _ => rfl⟩⟩
theorem p_X8_45 : FP RX8 45 8 14 (.array .int) true := ⟨f_X8_45, fun r hr => by cases hr; exact ⟨by decide +kernel, rfl, fun _ => rfl⟩⟩
theorem p_X8_48 : FP RX8 48 8 15 (.array .int) true := ⟨f_X8_48, fun r hr => by cases hr; exact ⟨by decide +kernel, rfl, fun _ => rfl⟩⟩
theorem p_X8_51 : FP RX8 51 8 0 (.object "FloodLent$Plain") true := ⟨f_X8_51, fun r hr => by cases hr; exact ⟨by decide +kernel, rfl, fun _ => rfl⟩⟩
theorem p_X8_61 : FP RX8 61 8 2 .int false := ⟨f_X8_61, fun r hr => by cases hr; exact ⟨by decide +kernel, rfl, fun h => by cases h⟩⟩
theorem p_X8_64 : FP RX8 64 8 3 .int false := ⟨f_X8_64, fun r hr => by cases hr; exact ⟨by decide +kernel, rfl, fun h => by cases h⟩⟩
theorem p_X8_86 : FP RX8 86 8 16 .int false := ⟨f_X8_86, fun r hr => by cases hr; exact ⟨by decide +kernel, rfl, fun h => by cases h⟩⟩
theorem p_X8_89 : FP RX8 89 8 17 .int false := ⟨f_X8_89, fun r hr => by cases hr; exact ⟨by decide +kernel, rfl, fun h => by cases h⟩⟩
theorem p_X8_92 : FP RX8 92 8 18 .int false := ⟨f_X8_92, fun r hr => by cases hr; exact ⟨by decide +kernel, rfl, fun h => by cases h⟩⟩
theorem p_X8_95 : FP RX8 95 8 19 .int false := ⟨f_X8_95, fun r hr => by cases hr; exact ⟨by decide +kernel, rfl, fun h => by cases h⟩⟩
theorem p_X9_10 : FP RX9 10 9 0 (.object "FloodLent$Tape") true := ⟨f_X9_10, fun r hr => by cases hr; exact ⟨by decide +kernel, rfl, fun _ => rfl⟩⟩
theorem p_X9_21 : FP RX9 21 9 1 (.object "FloodLent$Scribe") true := ⟨f_X9_21, fun r hr => by cases hr; exact ⟨by decide +kernel, rfl, fun _ => rfl⟩⟩
theorem p_X9_28 : FP RX9 28 9 2 (.object "FloodLent$Plain") true := ⟨f_X9_28, fun r hr => by cases hr; exact ⟨by decide +kernel, rfl, fun _ => rfl⟩⟩
theorem p_X9_32 : FP RX9 32 9 3 (.object "FloodLent$Plain") true := ⟨f_X9_32, fun r hr => by cases hr; exact ⟨by decide +kernel, rfl, fun _ => rfl⟩⟩
theorem p_X9_35 : FP RX9 35 9 4 (.array (.object "FloodLent$Plain")) true := ⟨f_X9_35, fun r hr => by cases hr; exact ⟨by decide +kernel, rfl, fun _ => rfl⟩⟩
theorem p_X9_41 : FP RX9 41 9 5 (.array (.object "FloodLent$Slot")) true := ⟨f_X9_41, fun r hr => by cases hr; exact ⟨by decide +kernel, rfl, fun _ => rfl⟩⟩
theorem p_X9_50 : FP RX9 50 9 6 (.object "FloodLent$Year") true := ⟨f_X9_50, fun r hr => by cases hr; exact ⟨by decide +kernel, rfl, fun _ => rfl⟩⟩
theorem p_X9_59 : FP RX9 59 9 7 (.object "FloodLent$Outcomes") true := ⟨f_X9_59, fun r hr => by cases hr; exact ⟨by decide +kernel, rfl, fun _ => rfl⟩⟩
theorem p_X9_66 : FP RX9 66 9 8 (.object "FloodLent$Debts") true := ⟨f_X9_66, fun r hr => by cases hr; exact ⟨by decide +kernel, rfl, fun _ => rfl⟩⟩
theorem p_X9_78 : FP RX9 78 6 1 .int false := ⟨f_X9_78, fun r hr => by cases hr; exact ⟨by decide +kernel, rfl, fun h => by cases h⟩⟩
theorem p_X9_128 : FP RX9 128 2 7 .int false := ⟨f_X9_128, fun r hr => by cases hr; exact ⟨by decide +kernel, rfl, fun h => by cases h⟩⟩
theorem p_X9_295 : FP RX9 295 8 2 .int false := ⟨f_X9_295, fun r hr => by cases hr; exact ⟨by decide +kernel, rfl, fun h => by cases h⟩⟩
theorem p_X9_298 : FP RX9 298 8 3 .int false := ⟨f_X9_298, fun r hr => by cases hr; exact ⟨by decide +kernel, rfl, fun h => by cases h⟩⟩
theorem cb_X0_init : CB yX0_init cX0_init 3 none 2 := ⟨w_298, w_9, by decide +kernel, by decide +kernel, by decide +kernel⟩
theorem cb_X0_pair : CB yX0_pair cX0_pair 2 (some .int) 2 := ⟨w_918, w_9, by decide +kernel, by decide +kernel, by decide +kernel⟩
theorem cb_X0_reckon : CB yX0_reckon cX0_reckon 3 none 0 := ⟨w_913, w_9, by decide +kernel, by decide +kernel, by decide +kernel⟩
theorem cb_X0_clearRings : CB yX0_clearRings cX0_clearRings 3 none 0 := ⟨w_927, w_9, by decide +kernel, by decide +kernel, by decide +kernel⟩
theorem cb_X0_findRing : CB yX0_findRing cX0_findRing 4 (some .int) 0 := ⟨w_932, w_9, by decide +kernel, by decide +kernel, by decide +kernel⟩
theorem cb_X0_closes : CB yX0_closes cX0_closes 7 (some .boolean) 5 := ⟨w_935, w_9, by decide +kernel, by decide +kernel, by decide +kernel⟩
theorem cb_X0_holds : CB yX0_holds cX0_holds 4 (some .boolean) 3 := ⟨w_938, w_9, by decide +kernel, by decide +kernel, by decide +kernel⟩
theorem cb_X0_clearRound : CB yX0_clearRound cX0_clearRound 6 none 1 := ⟨w_942, w_9, by decide +kernel, by decide +kernel, by decide +kernel⟩
theorem cb_X0_strike : CB yX0_strike cX0_strike 3 none 1 := ⟨w_959, w_9, by decide +kernel, by decide +kernel, by decide +kernel⟩
theorem cb_X0_payParts : CB yX0_payParts cX0_payParts 8 none 1 := ⟨w_963, w_9, by decide +kernel, by decide +kernel, by decide +kernel⟩
theorem cb_X0_payInTurn : CB yX0_payInTurn cX0_payInTurn 8 none 2 := ⟨w_968, w_9, by decide +kernel, by decide +kernel, by decide +kernel⟩
theorem cb_X0_nextToPay : CB yX0_nextToPay cX0_nextToPay 7 (some .int) 3 := ⟨w_972, w_9, by decide +kernel, by decide +kernel, by decide +kernel⟩
theorem cb_X0_ruined : CB yX0_ruined cX0_ruined 6 (some .int) 0 := ⟨w_976, w_9, by decide +kernel, by decide +kernel, by decide +kernel⟩
theorem cb_X1_init : CB yX1_init cX1_init 3 none 2 := ⟨w_275, w_8, by decide +kernel, by decide +kernel, by decide +kernel⟩
theorem cb_X1_forget : CB yX1_forget cX1_forget 2 none 0 := ⟨w_554, w_8, by decide +kernel, by decide +kernel, by decide +kernel⟩
theorem cb_X1_total : CB yX1_total cX1_total 3 (some .int) 0 := ⟨w_712, w_8, by decide +kernel, by decide +kernel, by decide +kernel⟩
theorem cb_X1_choices : CB yX1_choices cX1_choices 1 (some .int) 0 := ⟨w_716, w_8, by decide +kernel, by decide +kernel, by decide +kernel⟩
theorem cb_X1_takerIn : CB yX1_takerIn cX1_takerIn 6 (some .int) 2 := ⟨w_732, w_8, by decide +kernel, by decide +kernel, by decide +kernel⟩
theorem cb_X1_codeNow : CB yX1_codeNow cX1_codeNow 3 (some .int) 0 := ⟨w_774, w_8, by decide +kernel, by decide +kernel, by decide +kernel⟩
theorem cb_X1_onlyComing : CB yX1_onlyComing cX1_onlyComing 6 (some .int) 2 := ⟨w_783, w_8, by decide +kernel, by decide +kernel, by decide +kernel⟩
theorem cb_X1_lead : CB yX1_lead cX1_lead 3 none 1 := ⟨w_727, w_8, by decide +kernel, by decide +kernel, by decide +kernel⟩
theorem cb_X1_know : CB yX1_know cX1_know 2 none 1 := ⟨w_720, w_8, by decide +kernel, by decide +kernel, by decide +kernel⟩
theorem cb_X1_knowAll : CB yX1_knowAll cX1_knowAll 3 none 0 := ⟨w_708, w_8, by decide +kernel, by decide +kernel, by decide +kernel⟩
theorem cb_X1_knowWays : CB yX1_knowWays cX1_knowWays 4 none 1 := ⟨w_779, w_8, by decide +kernel, by decide +kernel, by decide +kernel⟩
theorem cb_X1_isCode : CB yX1_isCode cX1_isCode 1 (some .boolean) 1 := ⟨w_723, w_8, by decide +kernel, by decide +kernel, by decide +kernel⟩
theorem cb_X1_broughtBy : CB yX1_broughtBy cX1_broughtBy 2 (some .int) 1 := ⟨w_751, w_8, by decide +kernel, by decide +kernel, by decide +kernel⟩
theorem cb_X1_shortBy : CB yX1_shortBy cX1_shortBy 2 (some .int) 1 := ⟨w_747, w_8, by decide +kernel, by decide +kernel, by decide +kernel⟩
theorem cb_X1_safeCodes : CB yX1_safeCodes cX1_safeCodes 4 (some .int) 0 := ⟨w_765, w_8, by decide +kernel, by decide +kernel, by decide +kernel⟩
theorem cb_X1_bestCode : CB yX1_bestCode cX1_bestCode 4 (some .int) 0 := ⟨w_743, w_8, by decide +kernel, by decide +kernel, by decide +kernel⟩
theorem cb_X1_wiseCode : CB yX1_wiseCode cX1_wiseCode 8 (some .int) 0 := ⟨w_817, w_8, by decide +kernel, by decide +kernel, by decide +kernel⟩
theorem cb_X1_hopeAbove : CB yX1_hopeAbove cX1_hopeAbove 7 (some .long) 1 := ⟨w_791, w_8, by decide +kernel, by decide +kernel, by decide +kernel⟩
theorem cb_X1_hopeBelow : CB yX1_hopeBelow cX1_hopeBelow 4 (some .long) 0 := ⟨w_799, w_8, by decide +kernel, by decide +kernel, by decide +kernel⟩
theorem cb_X1_chance : CB yX1_chance cX1_chance 6 (some .long) 1 := ⟨w_795, w_8, by decide +kernel, by decide +kernel, by decide +kernel⟩
theorem cb_X2_init : CB yX2_init cX2_init 1 none 0 := ⟨w_99, w_5, by decide +kernel, by decide +kernel, by decide +kernel⟩
theorem cb_X2_clear : CB yX2_clear cX2_clear 1 none 0 := ⟨w_389, w_5, by decide +kernel, by decide +kernel, by decide +kernel⟩
theorem cb_X2_copy : CB yX2_copy cX2_copy 2 none 1 := ⟨w_541, w_5, by decide +kernel, by decide +kernel, by decide +kernel⟩
theorem cb_X2_shines : CB yX2_shines cX2_shines 3 none 2 := ⟨w_537, w_5, by decide +kernel, by decide +kernel, by decide +kernel⟩
theorem cb_X3_init : CB yX3_init cX3_init 3 none 2 := ⟨w_105, w_6, by decide +kernel, by decide +kernel, by decide +kernel⟩
theorem cb_X3_isFull : CB yX3_isFull cX3_isFull 1 (some .boolean) 0 := ⟨w_507, w_6, by decide +kernel, by decide +kernel, by decide +kernel⟩
theorem cb_X3_add : CB yX3_add cX3_add 3 none 1 := ⟨w_527, w_6, by decide +kernel, by decide +kernel, by decide +kernel⟩
theorem cb_X3_at : CB yX3_at cX3_at 3 (some .int) 2 := ⟨w_570, w_6, by decide +kernel, by decide +kernel, by decide +kernel⟩
theorem cb_X3_put : CB yX3_put cX3_put 4 none 3 := ⟨w_532, w_6, by decide +kernel, by decide +kernel, by decide +kernel⟩
theorem cb_X3_copy : CB yX3_copy cX3_copy 2 none 1 := ⟨w_545, w_6, by decide +kernel, by decide +kernel, by decide +kernel⟩
theorem cb_X4_init : CB yX4_init cX4_init 2 none 1 := ⟨w_49, w_3, by decide +kernel, by decide +kernel, by decide +kernel⟩
theorem cb_X4_reads : CB yX4_reads cX4_reads 3 (some .boolean) 1 := ⟨w_385, w_3, by decide +kernel, by decide +kernel, by decide +kernel⟩
theorem cb_X4_readsLine : CB yX4_readsLine cX4_readsLine 6 (some .boolean) 1 := ⟨w_425, w_3, by decide +kernel, by decide +kernel, by decide +kernel⟩
theorem cb_X4_readsNumber : CB yX4_readsNumber cX4_readsNumber 5 (some .boolean) 3 := ⟨w_511, w_3, by decide +kernel, by decide +kernel, by decide +kernel⟩
theorem cb_X4_fails : CB yX4_fails cX4_fails 2 (some .boolean) 1 := ⟨w_500, w_3, by decide +kernel, by decide +kernel, by decide +kernel⟩
theorem cb_X4_lineOfWord : CB yX4_lineOfWord cX4_lineOfWord 3 (some .int) 0 := ⟨w_429, w_3, by decide +kernel, by decide +kernel, by decide +kernel⟩
theorem cb_X4_formOf : CB yX4_formOf cX4_formOf 1 (some (.object "java/lang/String")) 1 := ⟨w_432, w_3, by decide +kernel, by decide +kernel, by decide +kernel⟩
theorem cb_X4_wordEnd : CB yX4_wordEnd cX4_wordEnd 3 (some .int) 2 := ⟨w_442, w_3, by decide +kernel, by decide +kernel, by decide +kernel⟩
theorem cb_X4_isFull : CB yX4_isFull cX4_isFull 2 (some .boolean) 2 := ⟨w_503, w_3, by decide +kernel, by decide +kernel, by decide +kernel⟩
theorem cb_X4_least : CB yX4_least cX4_least 3 (some .int) 2 := ⟨w_515, w_3, by decide +kernel, by decide +kernel, by decide +kernel⟩
theorem cb_X4_most : CB yX4_most cX4_most 6 (some .int) 3 := ⟨w_519, w_3, by decide +kernel, by decide +kernel, by decide +kernel⟩
theorem cb_X4_keep : CB yX4_keep cX4_keep 3 none 2 := ⟨w_523, w_3, by decide +kernel, by decide +kernel, by decide +kernel⟩
theorem cb_X5_init : CB yX5_init cX5_init 1 none 0 := ⟨w_1033, w_19, by decide +kernel, by decide +kernel, by decide +kernel⟩
theorem cb_X5_begin : CB yX5_begin cX5_begin 3 none 2 := ⟨w_1052, w_19, by decide +kernel, by decide +kernel, by decide +kernel⟩
theorem cb_X5_has : CB yX5_has cX5_has 3 (some .boolean) 2 := ⟨w_1075, w_19, by decide +kernel, by decide +kernel, by decide +kernel⟩
theorem cb_X5_number : CB yX5_number cX5_number 2 (some .long) 1 := ⟨w_834, w_19, by decide +kernel, by decide +kernel, by decide +kernel⟩
theorem cb_X5_put : CB yX5_put cX5_put 4 none 2 := ⟨w_1063, w_19, by decide +kernel, by decide +kernel, by decide +kernel⟩
theorem cb_X5_cut : CB yX5_cut cX5_cut 3 (some .long) 1 := ⟨w_1067, w_19, by decide +kernel, by decide +kernel, by decide +kernel⟩
theorem cb_X6_init : CB yX6_init cX6_init 1 none 0 := ⟨w_32, w_2, by decide +kernel, by decide +kernel, by decide +kernel⟩
theorem cb_X6_hasPlaceFor : CB yX6_hasPlaceFor cX6_hasPlaceFor 2 (some .boolean) 1 := ⟨w_369, w_2, by decide +kernel, by decide +kernel, by decide +kernel⟩
theorem cb_X6_append : CB yX6_append cX6_append 3 none 1 := ⟨w_373, w_2, by decide +kernel, by decide +kernel, by decide +kernel⟩
theorem cb_X6_at : CB yX6_at cX6_at 2 (some .int) 1 := ⟨w_404, w_2, by decide +kernel, by decide +kernel, by decide +kernel⟩
theorem cb_X7_init : CB yX7_init cX7_init 2 none 1 := ⟨w_55, w_4, by decide +kernel, by decide +kernel, by decide +kernel⟩
theorem cb_X7_begin : CB yX7_begin cX7_begin 1 none 0 := ⟨w_396, w_4, by decide +kernel, by decide +kernel, by decide +kernel⟩
theorem cb_X7_step : CB yX7_step cX7_step 2 none 0 := ⟨w_400, w_4, by decide +kernel, by decide +kernel, by decide +kernel⟩
theorem cb_X7_stepNumber : CB yX7_stepNumber cX7_stepNumber 1 none 0 := ⟨w_417, w_4, by decide +kernel, by decide +kernel, by decide +kernel⟩
theorem cb_X7_isWord : CB yX7_isWord cX7_isWord 5 (some .boolean) 3 := ⟨w_494, w_4, by decide +kernel, by decide +kernel, by decide +kernel⟩
theorem cb_X7_isBlank : CB yX7_isBlank cX7_isBlank 1 (some .boolean) 1 := ⟨w_407, w_4, by decide +kernel, by decide +kernel, by decide +kernel⟩
theorem cb_X7_isLetter : CB yX7_isLetter cX7_isLetter 1 (some .boolean) 1 := ⟨w_410, w_4, by decide +kernel, by decide +kernel, by decide +kernel⟩
theorem cb_X7_isDigit : CB yX7_isDigit cX7_isDigit 1 (some .boolean) 1 := ⟨w_413, w_4, by decide +kernel, by decide +kernel, by decide +kernel⟩
theorem cb_X8_init : CB yX8_init cX8_init 2 none 1 := ⟨w_186, w_7, by decide +kernel, by decide +kernel, by decide +kernel⟩
theorem cb_X8_begin : CB yX8_begin cX8_begin 2 none 0 := ⟨w_611, w_7, by decide +kernel, by decide +kernel, by decide +kernel⟩
theorem cb_X8_run : CB yX8_run cX8_run 2 none 0 := ⟨w_617, w_7, by decide +kernel, by decide +kernel, by decide +kernel⟩
theorem cb_X8_pass : CB yX8_pass cX8_pass 2 none 1 := ⟨w_621, w_7, by decide +kernel, by decide +kernel, by decide +kernel⟩
theorem cb_X8_waterBehind : CB yX8_waterBehind cX8_waterBehind 3 (some .int) 2 := ⟨w_674, w_7, by decide +kernel, by decide +kernel, by decide +kernel⟩
theorem cb_X8_shortInAll : CB yX8_shortInAll cX8_shortInAll 1 (some .int) 0 := ⟨w_738, w_7, by decide +kernel, by decide +kernel, by decide +kernel⟩
theorem cb_X8_roomOf : CB yX8_roomOf cX8_roomOf 2 (some .int) 1 := ⟨w_629, w_7, by decide +kernel, by decide +kernel, by decide +kernel⟩
theorem cb_X8_withMore : CB yX8_withMore cX8_withMore 2 (some .int) 1 := ⟨w_634, w_7, by decide +kernel, by decide +kernel, by decide +kernel⟩
theorem cb_X8_noteTrouble : CB yX8_noteTrouble cX8_noteTrouble 2 none 1 := ⟨w_646, w_7, by decide +kernel, by decide +kernel, by decide +kernel⟩
theorem cb_X8_takeFloods : CB yX8_takeFloods cX8_takeFloods 4 none 1 := ⟨w_625, w_7, by decide +kernel, by decide +kernel, by decide +kernel⟩
theorem cb_X8_lendOn : CB yX8_lendOn cX8_lendOn 6 none 1 := ⟨w_638, w_7, by decide +kernel, by decide +kernel, by decide +kernel⟩
theorem cb_X8_repayTill : CB yX8_repayTill cX8_repayTill 6 none 1 := ⟨w_642, w_7, by decide +kernel, by decide +kernel, by decide +kernel⟩
theorem cb_X8_giveBack : CB yX8_giveBack cX8_giveBack 4 none 1 := ⟨w_650, w_7, by decide +kernel, by decide +kernel, by decide +kernel⟩
theorem cb_X8_drinkCrops : CB yX8_drinkCrops cX8_drinkCrops 5 none 1 := ⟨w_654, w_7, by decide +kernel, by decide +kernel, by decide +kernel⟩
theorem cb_X8_staysDry : CB yX8_staysDry cX8_staysDry 4 none 3 := ⟨w_658, w_7, by decide +kernel, by decide +kernel, by decide +kernel⟩
theorem cb_X8_drinkSky : CB yX8_drinkSky cX8_drinkSky 5 none 1 := ⟨w_662, w_7, by decide +kernel, by decide +kernel, by decide +kernel⟩
theorem cb_X8_seepAway : CB yX8_seepAway cX8_seepAway 5 none 0 := ⟨w_666, w_7, by decide +kernel, by decide +kernel, by decide +kernel⟩
theorem cb_X8_noteWater : CB yX8_noteWater cX8_noteWater 3 none 1 := ⟨w_670, w_7, by decide +kernel, by decide +kernel, by decide +kernel⟩
theorem cb_X9_init : CB yX9_init cX9_init 1 none 0 := ⟨w_24, w_1, by decide +kernel, by decide +kernel, by decide +kernel⟩
theorem cb_X9_feed : CB yX9_feed cX9_feed 6 (some .int) 5 := ⟨w_365, w_1, by decide +kernel, by decide +kernel, by decide +kernel⟩
theorem cb_X9_end : CB yX9_end cX9_end 2 (some .int) 1 := ⟨w_377, w_1, by decide +kernel, by decide +kernel, by decide +kernel⟩
theorem cb_X9_plain : CB yX9_plain cX9_plain 2 (some .int) 0 := ⟨w_381, w_1, by decide +kernel, by decide +kernel, by decide +kernel⟩
theorem cb_X9_fault : CB yX9_fault cX9_fault 2 (some .int) 1 := ⟨w_558, w_1, by decide +kernel, by decide +kernel, by decide +kernel⟩
theorem cb_X9_village : CB yX9_village cX9_village 3 (some .int) 2 := ⟨w_562, w_1, by decide +kernel, by decide +kernel, by decide +kernel⟩
theorem cb_X9_takes : CB yX9_takes cX9_takes 4 (some .int) 2 := ⟨w_574, w_1, by decide +kernel, by decide +kernel, by decide +kernel⟩
theorem cb_X9_more : CB yX9_more cX9_more 3 (some .int) 1 := ⟨w_583, w_1, by decide +kernel, by decide +kernel, by decide +kernel⟩
theorem cb_X9_count : CB yX9_count cX9_count 2 (some .int) 1 := ⟨w_591, w_1, by decide +kernel, by decide +kernel, by decide +kernel⟩
theorem cb_X9_slotsWithRows : CB yX9_slotsWithRows cX9_slotsWithRows 3 (some .int) 0 := ⟨w_595, w_1, by decide +kernel, by decide +kernel, by decide +kernel⟩
theorem cb_X9_hasPlain : CB yX9_hasPlain cX9_hasPlain 1 (some .boolean) 0 := ⟨w_587, w_1, by decide +kernel, by decide +kernel, by decide +kernel⟩
theorem cb_X9_hasVillage : CB yX9_hasVillage cX9_hasVillage 2 (some .boolean) 1 := ⟨w_566, w_1, by decide +kernel, by decide +kernel, by decide +kernel⟩
theorem cb_X9_hasFlood : CB yX9_hasFlood cX9_hasFlood 2 (some .boolean) 1 := ⟨w_578, w_1, by decide +kernel, by decide +kernel, by decide +kernel⟩
theorem cb_X9_hasWeek : CB yX9_hasWeek cX9_hasWeek 2 (some .boolean) 1 := ⟨w_603, w_1, by decide +kernel, by decide +kernel, by decide +kernel⟩
theorem cb_X9_goThroughYear : CB yX9_goThroughYear cX9_goThroughYear 1 none 0 := ⟨w_607, w_1, by decide +kernel, by decide +kernel, by decide +kernel⟩
theorem cb_X9_water : CB yX9_water cX9_water 3 (some .int) 2 := ⟨w_599, w_1, by decide +kernel, by decide +kernel, by decide +kernel⟩
theorem cb_X9_flood : CB yX9_flood cX9_flood 3 (some .int) 2 := ⟨w_678, w_1, by decide +kernel, by decide +kernel, by decide +kernel⟩
theorem cb_X9_loan : CB yX9_loan cX9_loan 3 (some .int) 2 := ⟨w_685, w_1, by decide +kernel, by decide +kernel, by decide +kernel⟩
theorem cb_X9_account : CB yX9_account cX9_account 4 (some .int) 4 := ⟨w_681, w_1, by decide +kernel, by decide +kernel, by decide +kernel⟩
theorem cb_X9_crop : CB yX9_crop cX9_crop 3 (some .int) 2 := ⟨w_689, w_1, by decide +kernel, by decide +kernel, by decide +kernel⟩
theorem cb_X9_sum : CB yX9_sum cX9_sum 2 (some .int) 1 := ⟨w_693, w_1, by decide +kernel, by decide +kernel, by decide +kernel⟩
theorem cb_X9_first : CB yX9_first cX9_first 1 (some .int) 0 := ⟨w_700, w_1, by decide +kernel, by decide +kernel, by decide +kernel⟩
theorem cb_X9_together : CB yX9_together cX9_together 6 (some .int) 1 := ⟨w_696, w_1, by decide +kernel, by decide +kernel, by decide +kernel⟩
theorem cb_X9_best : CB yX9_best cX9_best 2 (some .int) 0 := ⟨w_704, w_1, by decide +kernel, by decide +kernel, by decide +kernel⟩
theorem cb_X9_taker : CB yX9_taker cX9_taker 3 (some .int) 1 := ⟨w_756, w_1, by decide +kernel, by decide +kernel, by decide +kernel⟩
theorem cb_X9_safe : CB yX9_safe cX9_safe 1 (some .int) 0 := ⟨w_761, w_1, by decide +kernel, by decide +kernel, by decide +kernel⟩
theorem cb_X9_hope : CB yX9_hope cX9_hope 3 (some .long) 1 := ⟨w_769, w_1, by decide +kernel, by decide +kernel, by decide +kernel⟩
theorem cb_X9_wise : CB yX9_wise cX9_wise 2 (some .int) 1 := ⟨w_813, w_1, by decide +kernel, by decide +kernel, by decide +kernel⟩
theorem cb_X9_wisest : CB yX9_wisest cX9_wisest 2 (some .long) 1 := ⟨w_822, w_1, by decide +kernel, by decide +kernel, by decide +kernel⟩
theorem cb_X9_fraction : CB yX9_fraction cX9_fraction 9 (some .long) 2 := ⟨w_787, w_1, by decide +kernel, by decide +kernel, by decide +kernel⟩
theorem cb_X9_commonDivisor : CB yX9_commonDivisor cX9_commonDivisor 11 (some .long) 2 := ⟨w_806, w_1, by decide +kernel, by decide +kernel, by decide +kernel⟩
theorem cb_X9_agree : CB yX9_agree cX9_agree 6 (some .int) 1 := ⟨w_826, w_1, by decide +kernel, by decide +kernel, by decide +kernel⟩
theorem cb_X9_who : CB yX9_who cX9_who 9 (some .int) 2 := ⟨w_848, w_1, by decide +kernel, by decide +kernel, by decide +kernel⟩
theorem cb_X9_sure : CB yX9_sure cX9_sure 9 (some .int) 3 := ⟨w_852, w_1, by decide +kernel, by decide +kernel, by decide +kernel⟩
theorem cb_X9_needed : CB yX9_needed cX9_needed 7 (some .int) 1 := ⟨w_856, w_1, by decide +kernel, by decide +kernel, by decide +kernel⟩
theorem cb_X9_marksWrong : CB yX9_marksWrong cX9_marksWrong 9 (some .int) 2 := ⟨w_830, w_1, by decide +kernel, by decide +kernel, by decide +kernel⟩
theorem cb_X9_goThroughYearBy : CB yX9_goThroughYearBy cX9_goThroughYearBy 2 none 1 := ⟨w_839, w_1, by decide +kernel, by decide +kernel, by decide +kernel⟩
theorem cb_X9_missed : CB yX9_missed cX9_missed 7 (some .int) 1 := ⟨w_844, w_1, by decide +kernel, by decide +kernel, by decide +kernel⟩
theorem cb_X9_fair : CB yX9_fair cX9_fair 3 (some .int) 1 := ⟨w_861, w_1, by decide +kernel, by decide +kernel, by decide +kernel⟩
theorem cb_X9_wealth : CB yX9_wealth cX9_wealth 6 (some .int) 3 := ⟨w_865, w_1, by decide +kernel, by decide +kernel, by decide +kernel⟩
theorem cb_X9_melons : CB yX9_melons cX9_melons 3 (some .int) 1 := ⟨w_869, w_1, by decide +kernel, by decide +kernel, by decide +kernel⟩
theorem cb_X9_firstDrink : CB yX9_firstDrink cX9_firstDrink 3 (some .int) 1 := ⟨w_873, w_1, by decide +kernel, by decide +kernel, by decide +kernel⟩
theorem cb_X9_shortOf : CB yX9_shortOf cX9_shortOf 4 (some .int) 1 := ⟨w_877, w_1, by decide +kernel, by decide +kernel, by decide +kernel⟩
theorem cb_X9_share : CB yX9_share cX9_share 5 (some .int) 1 := ⟨w_881, w_1, by decide +kernel, by decide +kernel, by decide +kernel⟩
theorem cb_X9_cutShare : CB yX9_cutShare cX9_cutShare 4 (some .int) 1 := ⟨w_885, w_1, by decide +kernel, by decide +kernel, by decide +kernel⟩
theorem cb_X9_enough : CB yX9_enough cX9_enough 4 (some .int) 1 := ⟨w_892, w_1, by decide +kernel, by decide +kernel, by decide +kernel⟩
theorem cb_X9_neverDry : CB yX9_neverDry cX9_neverDry 4 (some .boolean) 2 := ⟨w_896, w_1, by decide +kernel, by decide +kernel, by decide +kernel⟩
theorem cb_X9_reckonDebts : CB yX9_reckonDebts cX9_reckonDebts 1 none 0 := ⟨w_909, w_1, by decide +kernel, by decide +kernel, by decide +kernel⟩
theorem cb_X9_arePair : CB yX9_arePair cX9_arePair 3 (some .boolean) 2 := ⟨w_905, w_1, by decide +kernel, by decide +kernel, by decide +kernel⟩
theorem cb_X9_owes : CB yX9_owes cX9_owes 3 (some .int) 2 := ⟨w_901, w_1, by decide +kernel, by decide +kernel, by decide +kernel⟩
theorem cb_X9_rings : CB yX9_rings cX9_rings 2 (some .int) 1 := ⟨w_923, w_1, by decide +kernel, by decide +kernel, by decide +kernel⟩
theorem cb_X9_ring : CB yX9_ring cX9_ring 2 (some .int) 1 := ⟨w_947, w_1, by decide +kernel, by decide +kernel, by decide +kernel⟩
theorem cb_X9_left : CB yX9_left cX9_left 3 (some .int) 2 := ⟨w_951, w_1, by decide +kernel, by decide +kernel, by decide +kernel⟩
theorem cb_X9_struck : CB yX9_struck cX9_struck 3 (some .int) 2 := ⟨w_955, w_1, by decide +kernel, by decide +kernel, by decide +kernel⟩
theorem cb_X9_pays : CB yX9_pays cX9_pays 4 (some .int) 3 := ⟨w_980, w_1, by decide +kernel, by decide +kernel, by decide +kernel⟩
theorem cb_X9_law : CB yX9_law cX9_law 5 (some .int) 0 := ⟨w_984, w_1, by decide +kernel, by decide +kernel, by decide +kernel⟩
theorem cb_X9_isSeed : CB yX9_isSeed cX9_isSeed 1 (some .boolean) 1 := ⟨w_997, w_1, by decide +kernel, by decide +kernel, by decide +kernel⟩
theorem cb_X9_year : CB yX9_year cX9_year 5 (some .int) 2 := ⟨w_994, w_1, by decide +kernel, by decide +kernel, by decide +kernel⟩
theorem cb_X9_years : CB yX9_years cX9_years 7 (some .int) 2 := ⟨w_1014, w_1, by decide +kernel, by decide +kernel, by decide +kernel⟩
theorem cb_X9_drawn : CB yX9_drawn cX9_drawn 6 (some .int) 1 := ⟨w_1002, w_1, by decide +kernel, by decide +kernel, by decide +kernel⟩
theorem cb_X9_image : CB yX9_image cX9_image 2 (some .int) 1 := ⟨w_1018, w_1, by decide +kernel, by decide +kernel, by decide +kernel⟩
theorem cb_X9_restore : CB yX9_restore cX9_restore 2 (some .int) 1 := ⟨w_1022, w_1, by decide +kernel, by decide +kernel, by decide +kernel⟩
theorem cb_X9_isSlot : CB yX9_isSlot cX9_isSlot 1 (some .boolean) 1 := ⟨w_1029, w_1, by decide +kernel, by decide +kernel, by decide +kernel⟩
theorem cb_X9_row : CB yX9_row cX9_row 4 (some .int) 3 := ⟨w_1026, w_1, by decide +kernel, by decide +kernel, by decide +kernel⟩
theorem cb_X9_write : CB yX9_write cX9_write 6 (some .int) 3 := ⟨w_1059, w_1, by decide +kernel, by decide +kernel, by decide +kernel⟩
theorem cb_X9_paste : CB yX9_paste cX9_paste 8 (some .int) 5 := ⟨w_1071, w_1, by decide +kernel, by decide +kernel, by decide +kernel⟩
theorem cb_X10_init : CB yX10_init cX10_init 1 none 0 := ⟨w_1081, w_10, by decide +kernel, by decide +kernel, by decide +kernel⟩
theorem cb_X10_in : CB yX10_in cX10_in 6 (some .boolean) 3 := ⟨w_1210, w_10, by decide +kernel, by decide +kernel, by decide +kernel⟩
theorem cb_X10_image : CB yX10_image cX10_image 3 (some .int) 1 := ⟨w_1206, w_10, by decide +kernel, by decide +kernel, by decide +kernel⟩
theorem cb_X10_restore : CB yX10_restore cX10_restore 3 (some .int) 1 := ⟨w_1214, w_10, by decide +kernel, by decide +kernel, by decide +kernel⟩
theorem cb_X10_isPlain : CB yX10_isPlain cX10_isPlain 1 (some .boolean) 0 := ⟨w_1444, w_10, by decide +kernel, by decide +kernel, by decide +kernel⟩
theorem cb_X10_villages : CB yX10_villages cX10_villages 1 (some .int) 0 := ⟨w_1338, w_10, by decide +kernel, by decide +kernel, by decide +kernel⟩
theorem cb_X10_isVillage : CB yX10_isVillage cX10_isVillage 2 (some .boolean) 1 := ⟨w_1334, w_10, by decide +kernel, by decide +kernel, by decide +kernel⟩
theorem cb_X10_isWeek : CB yX10_isWeek cX10_isWeek 2 (some .boolean) 1 := ⟨w_1359, w_10, by decide +kernel, by decide +kernel, by decide +kernel⟩
theorem cb_X10_isFlood : CB yX10_isFlood cX10_isFlood 2 (some .boolean) 1 := ⟨w_1351, w_10, by decide +kernel, by decide +kernel, by decide +kernel⟩
theorem cb_X10_areTwo : CB yX10_areTwo cX10_areTwo 3 (some .boolean) 2 := ⟨w_1586, w_10, by decide +kernel, by decide +kernel, by decide +kernel⟩
theorem cb_X10_of : CB yX10_of cX10_of 3 (some .int) 2 := ⟨w_1343, w_10, by decide +kernel, by decide +kernel, by decide +kernel⟩
theorem cb_X10_ofCrop : CB yX10_ofCrop cX10_ofCrop 3 (some .int) 2 := ⟨w_1411, w_10, by decide +kernel, by decide +kernel, by decide +kernel⟩
theorem cb_X10_ofFlood : CB yX10_ofFlood cX10_ofFlood 3 (some .int) 2 := ⟨w_1379, w_10, by decide +kernel, by decide +kernel, by decide +kernel⟩
theorem cb_X10_ofLoan : CB yX10_ofLoan cX10_ofLoan 3 (some .int) 2 := ⟨w_1395, w_10, by decide +kernel, by decide +kernel, by decide +kernel⟩
theorem cb_X10_feed : CB yX10_feed cX10_feed 7 (some .int) 5 := ⟨w_1218, w_10, by decide +kernel, by decide +kernel, by decide +kernel⟩
theorem cb_X10_end : CB yX10_end cX10_end 2 (some .int) 1 := ⟨w_1222, w_10, by decide +kernel, by decide +kernel, by decide +kernel⟩
theorem cb_X10_see : CB yX10_see cX10_see 2 (some .int) 1 := ⟨w_1238, w_10, by decide +kernel, by decide +kernel, by decide +kernel⟩
theorem cb_X10_advance : CB yX10_advance cX10_advance 2 none 0 := ⟨w_1234, w_10, by decide +kernel, by decide +kernel, by decide +kernel⟩
theorem cb_X10_good : CB yX10_good cX10_good 1 (some .boolean) 0 := ⟨w_1248, w_10, by decide +kernel, by decide +kernel, by decide +kernel⟩
theorem cb_X10_errs : CB yX10_errs cX10_errs 2 none 1 := ⟨w_1271, w_10, by decide +kernel, by decide +kernel, by decide +kernel⟩
theorem cb_X10_is : CB yX10_is cX10_is 4 (some .boolean) 1 := ⟨w_1265, w_10, by decide +kernel, by decide +kernel, by decide +kernel⟩
theorem cb_X10_takes : CB yX10_takes cX10_takes 3 (some .boolean) 1 := ⟨w_1261, w_10, by decide +kernel, by decide +kernel, by decide +kernel⟩
theorem cb_X10_needs : CB yX10_needs cX10_needs 2 none 1 := ⟨w_1257, w_10, by decide +kernel, by decide +kernel, by decide +kernel⟩
theorem cb_X10_number : CB yX10_number cX10_number 4 (some .int) 2 := ⟨w_1280, w_10, by decide +kernel, by decide +kernel, by decide +kernel⟩
theorem cb_X10_told : CB yX10_told cX10_told 4 (some .int) 3 := ⟨w_1276, w_10, by decide +kernel, by decide +kernel, by decide +kernel⟩
theorem cb_X10_fault : CB yX10_fault cX10_fault 2 (some .int) 1 := ⟨w_1226, w_10, by decide +kernel, by decide +kernel, by decide +kernel⟩
theorem cb_X10_freshVillage : CB yX10_freshVillage cX10_freshVillage 1 (some .int) 0 := ⟨w_1308, w_10, by decide +kernel, by decide +kernel, by decide +kernel⟩
theorem cb_X10_readVillage : CB yX10_readVillage cX10_readVillage 2 none 0 := ⟨w_1296, w_10, by decide +kernel, by decide +kernel, by decide +kernel⟩
theorem cb_X10_readCrop : CB yX10_readCrop cX10_readCrop 2 none 0 := ⟨w_1304, w_10, by decide +kernel, by decide +kernel, by decide +kernel⟩
theorem cb_X10_readFlood : CB yX10_readFlood cX10_readFlood 2 none 0 := ⟨w_1317, w_10, by decide +kernel, by decide +kernel, by decide +kernel⟩
theorem cb_X10_readLoan : CB yX10_readLoan cX10_readLoan 3 none 0 := ⟨w_1322, w_10, by decide +kernel, by decide +kernel, by decide +kernel⟩
theorem cb_X10_readNext : CB yX10_readNext cX10_readNext 3 none 0 := ⟨w_1286, w_10, by decide +kernel, by decide +kernel, by decide +kernel⟩
theorem cb_X10_readLine : CB yX10_readLine cX10_readLine 1 none 0 := ⟨w_1252, w_10, by decide +kernel, by decide +kernel, by decide +kernel⟩
theorem cb_X10_plain : CB yX10_plain cX10_plain 2 (some .int) 0 := ⟨w_1230, w_10, by decide +kernel, by decide +kernel, by decide +kernel⟩
theorem cb_X10_room : CB yX10_room cX10_room 2 (some .int) 1 := ⟨w_1383, w_10, by decide +kernel, by decide +kernel, by decide +kernel⟩
theorem cb_X10_owed : CB yX10_owed cX10_owed 2 (some .int) 1 := ⟨w_1387, w_10, by decide +kernel, by decide +kernel, by decide +kernel⟩
theorem cb_X10_takerNow : CB yX10_takerNow cX10_takerNow 2 (some .int) 1 := ⟨w_1375, w_10, by decide +kernel, by decide +kernel, by decide +kernel⟩
theorem cb_X10_wrongIn : CB yX10_wrongIn cX10_wrongIn 2 none 1 := ⟨w_1403, w_10, by decide +kernel, by decide +kernel, by decide +kernel⟩
theorem cb_X10_floodsIn : CB yX10_floodsIn cX10_floodsIn 4 none 1 := ⟨w_1371, w_10, by decide +kernel, by decide +kernel, by decide +kernel⟩
theorem cb_X10_loansIn : CB yX10_loansIn cX10_loansIn 6 none 1 := ⟨w_1391, w_10, by decide +kernel, by decide +kernel, by decide +kernel⟩
theorem cb_X10_dueIn : CB yX10_dueIn cX10_dueIn 6 none 1 := ⟨w_1399, w_10, by decide +kernel, by decide +kernel, by decide +kernel⟩
theorem cb_X10_cropsIn : CB yX10_cropsIn cX10_cropsIn 4 none 1 := ⟨w_1407, w_10, by decide +kernel, by decide +kernel, by decide +kernel⟩
theorem cb_X10_losesIn : CB yX10_losesIn cX10_losesIn 5 none 1 := ⟨w_1415, w_10, by decide +kernel, by decide +kernel, by decide +kernel⟩
theorem cb_X10_runs : CB yX10_runs cX10_runs 4 none 1 := ⟨w_1367, w_10, by decide +kernel, by decide +kernel, by decide +kernel⟩
theorem cb_X10_year : CB yX10_year cX10_year 1 none 0 := ⟨w_1363, w_10, by decide +kernel, by decide +kernel, by decide +kernel⟩
theorem cb_X10_brought : CB yX10_brought cX10_brought 3 (some .int) 0 := ⟨w_1449, w_10, by decide +kernel, by decide +kernel, by decide +kernel⟩
theorem cb_X10_shortOfFlood : CB yX10_shortOfFlood cX10_shortOfFlood 2 (some .int) 1 := ⟨w_1424, w_10, by decide +kernel, by decide +kernel, by decide +kernel⟩
theorem cb_X10_shortOfLoan : CB yX10_shortOfLoan cX10_shortOfLoan 2 (some .int) 1 := ⟨w_1432, w_10, by decide +kernel, by decide +kernel, by decide +kernel⟩
theorem cb_X10_shortOfFloods : CB yX10_shortOfFloods cX10_shortOfFloods 3 (some .int) 0 := ⟨w_1453, w_10, by decide +kernel, by decide +kernel, by decide +kernel⟩
theorem cb_X10_shortOfLoans : CB yX10_shortOfLoans cX10_shortOfLoans 3 (some .int) 0 := ⟨w_1457, w_10, by decide +kernel, by decide +kernel, by decide +kernel⟩
theorem cb_X10_shortOfAll : CB yX10_shortOfAll cX10_shortOfAll 1 (some .int) 0 := ⟨w_1489, w_10, by decide +kernel, by decide +kernel, by decide +kernel⟩
theorem cb_X10_village : CB yX10_village cX10_village 3 (some .int) 2 := ⟨w_1330, w_10, by decide +kernel, by decide +kernel, by decide +kernel⟩
theorem cb_X10_takes_ : CB yX10_takes_ cX10_takes_ 4 (some .int) 2 := ⟨w_1347, w_10, by decide +kernel, by decide +kernel, by decide +kernel⟩
theorem cb_X10_water : CB yX10_water cX10_water 3 (some .int) 2 := ⟨w_1355, w_10, by decide +kernel, by decide +kernel, by decide +kernel⟩
theorem cb_X10_flood : CB yX10_flood cX10_flood 3 (some .int) 2 := ⟨w_1419, w_10, by decide +kernel, by decide +kernel, by decide +kernel⟩
theorem cb_X10_loan : CB yX10_loan cX10_loan 3 (some .int) 2 := ⟨w_1428, w_10, by decide +kernel, by decide +kernel, by decide +kernel⟩
theorem cb_X10_crop : CB yX10_crop cX10_crop 3 (some .int) 2 := ⟨w_1436, w_10, by decide +kernel, by decide +kernel, by decide +kernel⟩
theorem cb_X10_floodSum : CB yX10_floodSum cX10_floodSum 4 (some .int) 1 := ⟨w_1461, w_10, by decide +kernel, by decide +kernel, by decide +kernel⟩
theorem cb_X10_sum : CB yX10_sum cX10_sum 4 (some .int) 1 := ⟨w_1440, w_10, by decide +kernel, by decide +kernel, by decide +kernel⟩
theorem cb_X10_first : CB yX10_first cX10_first 1 (some .int) 0 := ⟨w_1465, w_10, by decide +kernel, by decide +kernel, by decide +kernel⟩
theorem cb_X10_takersMany : CB yX10_takersMany cX10_takersMany 3 (some .int) 0 := ⟨w_1481, w_10, by decide +kernel, by decide +kernel, by decide +kernel⟩
theorem cb_X10_keepsTakers : CB yX10_keepsTakers cX10_keepsTakers 2 none 0 := ⟨w_1477, w_10, by decide +kernel, by decide +kernel, by decide +kernel⟩
theorem cb_X10_bringsTakersBack : CB yX10_bringsTakersBack cX10_bringsTakersBack 2 none 0 := ⟨w_1493, w_10, by decide +kernel, by decide +kernel, by decide +kernel⟩
theorem cb_X10_takersAre : CB yX10_takersAre cX10_takersAre 4 none 1 := ⟨w_1485, w_10, by decide +kernel, by decide +kernel, by decide +kernel⟩
theorem cb_X10_takerIn : CB yX10_takerIn cX10_takerIn 5 (some .int) 2 := ⟨w_1501, w_10, by decide +kernel, by decide +kernel, by decide +kernel⟩
theorem cb_X10_bestTakers : CB yX10_bestTakers cX10_bestTakers 4 (some .int) 0 := ⟨w_1473, w_10, by decide +kernel, by decide +kernel, by decide +kernel⟩
theorem cb_X10_best : CB yX10_best cX10_best 1 (some .int) 0 := ⟨w_1469, w_10, by decide +kernel, by decide +kernel, by decide +kernel⟩
theorem cb_X10_taker : CB yX10_taker cX10_taker 3 (some .int) 1 := ⟨w_1497, w_10, by decide +kernel, by decide +kernel, by decide +kernel⟩
theorem cb_X10_safe : CB yX10_safe cX10_safe 4 (some .int) 0 := ⟨w_1505, w_10, by decide +kernel, by decide +kernel, by decide +kernel⟩
theorem cb_X10_hopeBelow : CB yX10_hopeBelow cX10_hopeBelow 4 (some .long) 0 := ⟨w_1517, w_10, by decide +kernel, by decide +kernel, by decide +kernel⟩
theorem cb_X10_hopeAbove : CB yX10_hopeAbove cX10_hopeAbove 7 (some .long) 0 := ⟨w_1513, w_10, by decide +kernel, by decide +kernel, by decide +kernel⟩
theorem cb_X10_part : CB yX10_part cX10_part 11 (some .long) 3 := ⟨w_1521, w_10, by decide +kernel, by decide +kernel, by decide +kernel⟩
theorem cb_X10_hope : CB yX10_hope cX10_hope 2 (some .long) 1 := ⟨w_1509, w_10, by decide +kernel, by decide +kernel, by decide +kernel⟩
theorem cb_X10_wiseTakers : CB yX10_wiseTakers cX10_wiseTakers 6 (some .int) 0 := ⟨w_1531, w_10, by decide +kernel, by decide +kernel, by decide +kernel⟩
theorem cb_X10_wise : CB yX10_wise cX10_wise 2 (some .int) 1 := ⟨w_1527, w_10, by decide +kernel, by decide +kernel, by decide +kernel⟩
theorem cb_X10_wisest : CB yX10_wisest cX10_wisest 2 (some .long) 1 := ⟨w_1535, w_10, by decide +kernel, by decide +kernel, by decide +kernel⟩
theorem cb_X10_asksMarks : CB yX10_asksMarks cX10_asksMarks 4 (some .int) 2 := ⟨w_1543, w_10, by decide +kernel, by decide +kernel, by decide +kernel⟩
theorem cb_X10_agrees : CB yX10_agrees cX10_agrees 5 (some .boolean) 2 := ⟨w_1554, w_10, by decide +kernel, by decide +kernel, by decide +kernel⟩
theorem cb_X10_agreeBut : CB yX10_agreeBut cX10_agreeBut 6 (some .int) 2 := ⟨w_1550, w_10, by decide +kernel, by decide +kernel, by decide +kernel⟩
theorem cb_X10_agree : CB yX10_agree cX10_agree 3 (some .int) 1 := ⟨w_1539, w_10, by decide +kernel, by decide +kernel, by decide +kernel⟩
theorem cb_X10_who : CB yX10_who cX10_who 9 (some .int) 2 := ⟨w_1558, w_10, by decide +kernel, by decide +kernel, by decide +kernel⟩
theorem cb_X10_sure : CB yX10_sure cX10_sure 9 (some .int) 3 := ⟨w_1562, w_10, by decide +kernel, by decide +kernel, by decide +kernel⟩
theorem cb_X10_needed : CB yX10_needed cX10_needed 5 (some .int) 1 := ⟨w_1566, w_10, by decide +kernel, by decide +kernel, by decide +kernel⟩
theorem cb_X10_haveOf : CB yX10_haveOf cX10_haveOf 4 (some .int) 1 := ⟨w_1574, w_10, by decide +kernel, by decide +kernel, by decide +kernel⟩
theorem cb_X10_fair : CB yX10_fair cX10_fair 6 (some .int) 1 := ⟨w_1570, w_10, by decide +kernel, by decide +kernel, by decide +kernel⟩
theorem cb_X10_more : CB yX10_more cX10_more 3 (some .int) 1 := ⟨w_1578, w_10, by decide +kernel, by decide +kernel, by decide +kernel⟩
theorem cb_X10_fillDebts : CB yX10_fillDebts cX10_fillDebts 2 none 0 := ⟨w_1590, w_10, by decide +kernel, by decide +kernel, by decide +kernel⟩
theorem cb_X10_debt : CB yX10_debt cX10_debt 3 (some .int) 2 := ⟨w_1594, w_10, by decide +kernel, by decide +kernel, by decide +kernel⟩
theorem cb_X10_isRing : CB yX10_isRing cX10_isRing 4 (some .boolean) 1 := ⟨w_1614, w_10, by decide +kernel, by decide +kernel, by decide +kernel⟩
theorem cb_X10_findsRing : CB yX10_findsRing cX10_findsRing 6 (some .boolean) 1 := ⟨w_1610, w_10, by decide +kernel, by decide +kernel, by decide +kernel⟩
theorem cb_X10_ringSize : CB yX10_ringSize cX10_ringSize 2 (some .int) 0 := ⟨w_1606, w_10, by decide +kernel, by decide +kernel, by decide +kernel⟩
theorem cb_X10_clears : CB yX10_clears cX10_clears 5 none 0 := ⟨w_1602, w_10, by decide +kernel, by decide +kernel, by decide +kernel⟩
theorem cb_X10_owes : CB yX10_owes cX10_owes 3 (some .int) 2 := ⟨w_1582, w_10, by decide +kernel, by decide +kernel, by decide +kernel⟩
theorem cb_X10_rings : CB yX10_rings cX10_rings 2 (some .int) 1 := ⟨w_1598, w_10, by decide +kernel, by decide +kernel, by decide +kernel⟩
theorem cb_X10_ring : CB yX10_ring cX10_ring 2 (some .int) 1 := ⟨w_1618, w_10, by decide +kernel, by decide +kernel, by decide +kernel⟩
theorem cb_X10_left : CB yX10_left cX10_left 3 (some .int) 2 := ⟨w_1622, w_10, by decide +kernel, by decide +kernel, by decide +kernel⟩
theorem cb_X10_allDebts : CB yX10_allDebts cX10_allDebts 4 (some .int) 1 := ⟨w_1634, w_10, by decide +kernel, by decide +kernel, by decide +kernel⟩
theorem cb_X10_nextPaid : CB yX10_nextPaid cX10_nextPaid 6 (some .int) 3 := ⟨w_1638, w_10, by decide +kernel, by decide +kernel, by decide +kernel⟩
theorem cb_X10_strikes : CB yX10_strikes cX10_strikes 8 none 1 := ⟨w_1630, w_10, by decide +kernel, by decide +kernel, by decide +kernel⟩
theorem cb_X10_ruined : CB yX10_ruined cX10_ruined 6 (some .int) 0 := ⟨w_1642, w_10, by decide +kernel, by decide +kernel, by decide +kernel⟩
theorem cb_X10_bits : CB yX10_bits cX10_bits 3 (some .int) 1 := ⟨w_1653, w_10, by decide +kernel, by decide +kernel, by decide +kernel⟩
theorem cb_X10_struck : CB yX10_struck cX10_struck 5 (some .int) 2 := ⟨w_1626, w_10, by decide +kernel, by decide +kernel, by decide +kernel⟩
theorem cb_X10_pays : CB yX10_pays cX10_pays 4 (some .int) 3 := ⟨w_1646, w_10, by decide +kernel, by decide +kernel, by decide +kernel⟩
theorem cb_X10_law : CB yX10_law cX10_law 4 (some .int) 0 := ⟨w_1650, w_10, by decide +kernel, by decide +kernel, by decide +kernel⟩
theorem cb_X10_firstCrop : CB yX10_firstCrop cX10_firstCrop 3 (some .int) 1 := ⟨w_1661, w_10, by decide +kernel, by decide +kernel, by decide +kernel⟩
theorem cb_X10_melons : CB yX10_melons cX10_melons 5 (some .int) 1 := ⟨w_1657, w_10, by decide +kernel, by decide +kernel, by decide +kernel⟩
theorem cb_X10_shareOf : CB yX10_shareOf cX10_shareOf 4 (some .int) 1 := ⟨w_1669, w_10, by decide +kernel, by decide +kernel, by decide +kernel⟩
theorem cb_X10_share : CB yX10_share cX10_share 4 (some .int) 1 := ⟨w_1665, w_10, by decide +kernel, by decide +kernel, by decide +kernel⟩
theorem cb_X10_isNeverDry : CB yX10_isNeverDry cX10_isNeverDry 3 (some .boolean) 1 := ⟨w_1677, w_10, by decide +kernel, by decide +kernel, by decide +kernel⟩
theorem cb_X10_enough : CB yX10_enough cX10_enough 6 (some .int) 1 := ⟨w_1673, w_10, by decide +kernel, by decide +kernel, by decide +kernel⟩
theorem cb_X10_draw : CB yX10_draw cX10_draw 1 (some .int) 0 := ⟨w_1690, w_10, by decide +kernel, by decide +kernel, by decide +kernel⟩
theorem cb_X10_floodsDrawn : CB yX10_floodsDrawn cX10_floodsDrawn 5 (some .int) 1 := ⟨w_1686, w_10, by decide +kernel, by decide +kernel, by decide +kernel⟩
theorem cb_X10_year_ : CB yX10_year_ cX10_year_ 4 (some .int) 2 := ⟨w_1681, w_10, by decide +kernel, by decide +kernel, by decide +kernel⟩
theorem cb_X10_years : CB yX10_years cX10_years 5 (some .int) 2 := ⟨w_1698, w_10, by decide +kernel, by decide +kernel, by decide +kernel⟩
theorem cb_X10_count : CB yX10_count cX10_count 4 (some .int) 1 := ⟨w_1703, w_10, by decide +kernel, by decide +kernel, by decide +kernel⟩
theorem cb_X10_isSlot : CB yX10_isSlot cX10_isSlot 1 (some .boolean) 1 := ⟨w_1546, w_10, by decide +kernel, by decide +kernel, by decide +kernel⟩
theorem cb_X10_cut : CB yX10_cut cX10_cut 4 (some .long) 2 := ⟨w_1714, w_10, by decide +kernel, by decide +kernel, by decide +kernel⟩
theorem cb_X10_row : CB yX10_row cX10_row 5 (some .int) 3 := ⟨w_1707, w_10, by decide +kernel, by decide +kernel, by decide +kernel⟩
theorem cb_X10_write : CB yX10_write cX10_write 5 (some .int) 3 := ⟨w_1711, w_10, by decide +kernel, by decide +kernel, by decide +kernel⟩
theorem cb_X10_paste : CB yX10_paste cX10_paste 7 (some .int) 5 := ⟨w_1718, w_10, by decide +kernel, by decide +kernel, by decide +kernel⟩
theorem cb_J6_bitCount_0f7a4 : CB yJ6_bitCount_0f7a4 cJ6_bitCount_0f7a4 1 (some .int) 1 := ⟨w_987, w_18, by decide +kernel, by decide +kernel, by decide +kernel⟩
theorem cb_J9_abs_067f4 : CB yJ9_abs_067f4 cJ9_abs_067f4 2 (some .long) 1 := ⟨w_803, w_12, by decide +kernel, by decide +kernel, by decide +kernel⟩
theorem cb_J9_max_7cf53 : CB yJ9_max_7cf53 cJ9_max_7cf53 2 (some .int) 2 := ⟨w_888, w_12, by decide +kernel, by decide +kernel, by decide +kernel⟩
theorem cb_J9_max_f86c9 : CB yJ9_max_f86c9 cJ9_max_f86c9 4 (some .long) 2 := ⟨w_809, w_12, by decide +kernel, by decide +kernel, by decide +kernel⟩
theorem cb_J9_min_7cf53 : CB yJ9_min_7cf53 cJ9_min_7cf53 2 (some .int) 2 := ⟨w_421, w_12, by decide +kernel, by decide +kernel, by decide +kernel⟩
theorem cb_J0_length_8abf5 : CB yJ0_length_8abf5 cJ0_length_8abf5 1 (some .int) 0 := ⟨w_446, w_13, by decide +kernel, by decide +kernel, by decide +kernel⟩
theorem cb_J0_charAt_5068e : CB yJ0_charAt_5068e cJ0_charAt_5068e 2 (some .char) 1 := ⟨w_456, w_13, by decide +kernel, by decide +kernel, by decide +kernel⟩
theorem cb_J0_coder_7d493 : CB yJ0_coder_7d493 cJ0_coder_7d493 1 (some .byte) 0 := ⟨w_450, w_13, by decide +kernel, by decide +kernel, by decide +kernel⟩
theorem cb_J0_isLatin1_aae02 : CB yJ0_isLatin1_aae02 cJ0_isLatin1_aae02 1 (some .boolean) 0 := ⟨w_460, w_13, by decide +kernel, by decide +kernel, by decide +kernel⟩
theorem cb_J0_checkIndex_df160 : CB yJ0_checkIndex_df160 cJ0_checkIndex_df160 2 none 2 := ⟨w_466, w_13, by decide +kernel, by decide +kernel, by decide +kernel⟩
theorem cb_J1_charAt_3b067 : CB yJ1_charAt_3b067 cJ1_charAt_3b067 2 (some .char) 2 := ⟨w_463, w_14, by decide +kernel, by decide +kernel, by decide +kernel⟩
theorem cb_J2_getChar_3b067 : CB yJ2_getChar_3b067 cJ2_getChar_3b067 2 (some .char) 2 := ⟨w_484, w_16, by decide +kernel, by decide +kernel, by decide +kernel⟩
theorem cb_J2_length_9d52b : CB yJ2_length_9d52b cJ2_length_9d52b 1 (some .int) 1 := ⟨w_480, w_16, by decide +kernel, by decide +kernel, by decide +kernel⟩
theorem cb_J2_charAt_3b067 : CB yJ2_charAt_3b067 cJ2_charAt_3b067 2 (some .char) 2 := ⟨w_474, w_16, by decide +kernel, by decide +kernel, by decide +kernel⟩
theorem cb_J2_checkIndex_2214a : CB yJ2_checkIndex_2214a cJ2_checkIndex_2214a 2 none 2 := ⟨w_477, w_16, by decide +kernel, by decide +kernel, by decide +kernel⟩
theorem cb_J7_fill_d0a16 : CB yJ7_fill_d0a16 cJ7_fill_d0a16 5 none 2 := ⟨w_1055, w_11, by decide +kernel, by decide +kernel, by decide +kernel⟩
theorem cb_J7_fill_53178 : CB yJ7_fill_53178 cJ7_fill_53178 4 none 2 := ⟨w_392, w_11, by decide +kernel, by decide +kernel, by decide +kernel⟩
theorem cb_J3_checkIndex_8e157 : CB yJ3_checkIndex_8e157 cJ3_checkIndex_8e157 3 (some .int) 3 := ⟨w_471, w_15, by decide +kernel, by decide +kernel, by decide +kernel⟩
theorem m_L_9 : CI RL 9 yX9_init := ⟨w_22, rfl, w_23⟩
theorem m_X9_9 : CIN RX9 9 yX6_init := ⟨by simp [nestW, yX6_init, RX6, RX9], rfl, w_31⟩
theorem m_X9_18 : CI RX9 18 yX4_init := ⟨w_47, rfl, w_48⟩
theorem m_X4_21 : CI RX4 21 yX7_init := ⟨w_53, rfl, w_54⟩
theorem m_X9_27 : CIN RX9 27 yX2_init := ⟨by simp [nestW, yX2_init, RX2, RX9], rfl, w_98⟩
theorem m_X2_11 : CI RX2 11 yX3_init := ⟨w_103, rfl, w_104⟩
theorem m_X9_47 : CI RX9 47 yX8_init := ⟨w_184, rfl, w_185⟩
theorem m_X9_56 : CI RX9 56 yX1_init := ⟨w_273, rfl, w_274⟩
theorem m_X9_65 : CI RX9 65 yX0_init := ⟨w_296, rfl, w_297⟩
theorem m_L_13 : CV RL 13 yX9_feed := ⟨w_362, w_363, w_364⟩
theorem m_X9_70 : CV RX9 70 yX6_hasPlaceFor := ⟨w_366, w_367, w_368⟩
theorem m_X9_74 : CV RX9 74 yX6_append := ⟨w_370, w_371, w_372⟩
theorem m_L_18 : CV RL 18 yX9_end := ⟨w_374, w_375, w_376⟩
theorem m_L_23 : CV RL 23 yX9_plain := ⟨w_378, w_379, w_380⟩
theorem m_X9_82 : CV RX9 82 yX4_reads := ⟨w_382, w_383, w_384⟩
theorem m_X4_32 : CV RX4 32 yX2_clear := ⟨w_386, w_387, w_388⟩
theorem m_X2_37 : CS RX2 37 yJ7_fill_53178 := ⟨w_390, w_391⟩
theorem m_X4_40 : CV RX4 40 yX7_begin := ⟨w_393, w_394, w_395⟩
theorem m_X4_48 : CV RX4 48 yX7_step := ⟨w_397, w_398, w_399⟩
theorem m_X7_33 : CV RX7 33 yX6_at := ⟨w_401, w_402, w_403⟩
theorem m_X7_37 : CS RX7 37 yX7_isBlank := ⟨w_405, w_406⟩
theorem m_X7_41 : CS RX7 41 yX7_isLetter := ⟨w_408, w_409⟩
theorem m_X7_44 : CS RX7 44 yX7_isDigit := ⟨w_411, w_412⟩
theorem m_X7_47 : CV RX7 47 yX7_stepNumber := ⟨w_414, w_416, ws_0⟩
theorem m_X7_51 : CS RX7 51 yJ9_min_7cf53 := ⟨w_419, w_420⟩
theorem m_X4_54 : CV RX4 54 yX4_readsLine := ⟨w_422, w_424, ws_1⟩
theorem m_X4_58 : CV RX4 58 yX4_lineOfWord := ⟨w_426, w_428, ws_2⟩
theorem m_X4_73 : CS RX4 73 yX4_formOf := ⟨w_430, w_431⟩
theorem m_X4_77 : CS RX4 77 yX4_wordEnd := ⟨w_440, w_441⟩
theorem m_X4_81 : CV RX4 81 yJ0_length_8abf5 := ⟨w_443, w_444, w_445⟩
theorem m_J0_335 : CV RJ0 335 yJ0_coder_7d493 := ⟨w_447, w_448, w_449⟩
theorem m_X4_85 : CV RX4 85 yJ0_charAt_5068e := ⟨w_453, w_454, w_455⟩
theorem m_J0_492 : CV RJ0 492 yJ0_isLatin1_aae02 := ⟨w_457, w_458, w_459⟩
theorem m_J0_495 : CS RJ0 495 yJ1_charAt_3b067 := ⟨w_461, w_462⟩
theorem m_J1_9 : CS RJ1 9 yJ0_checkIndex_df160 := ⟨w_464, w_465⟩
theorem m_J0_1059 : CS RJ0 1059 yJ3_checkIndex_8e157 := ⟨w_469, w_470⟩
theorem m_J0_498 : CS RJ0 498 yJ2_charAt_3b067 := ⟨w_472, w_473⟩
theorem m_J2_67 : CS RJ2 67 yJ2_checkIndex_2214a := ⟨w_475, w_476⟩
theorem m_J2_48 : CS RJ2 48 yJ2_length_9d52b := ⟨w_478, w_479⟩
theorem m_J2_414 : CS RJ2 414 yJ0_checkIndex_df160 := ⟨w_481, w_465⟩
theorem m_J2_71 : CS RJ2 71 yJ2_getChar_3b067 := ⟨w_482, w_483⟩
theorem m_X4_89 : CV RX4 89 yX7_isWord := ⟨w_491, w_492, w_493⟩
theorem m_X7_57 : CV RX7 57 yJ0_length_8abf5 := ⟨w_495, w_444, w_445⟩
theorem m_X7_62 : CV RX7 62 yJ0_charAt_5068e := ⟨w_496, w_454, w_455⟩
theorem m_X4_65 : CV RX4 65 yX4_fails := ⟨w_497, w_499, ws_3⟩
theorem m_X4_69 : CS RX4 69 yX4_isFull := ⟨w_501, w_502⟩
theorem m_X4_133 : CV RX4 133 yX3_isFull := ⟨w_504, w_505, w_506⟩
theorem m_X4_93 : CV RX4 93 yX4_readsNumber := ⟨w_508, w_510, ws_4⟩
theorem m_X4_104 : CV RX4 104 yX4_least := ⟨w_512, w_514, ws_5⟩
theorem m_X4_108 : CV RX4 108 yX4_most := ⟨w_516, w_518, ws_6⟩
theorem m_X4_97 : CV RX4 97 yX4_keep := ⟨w_520, w_522, ws_7⟩
theorem m_X4_159 : CV RX4 159 yX3_add := ⟨w_524, w_525, w_526⟩
theorem m_X3_20 : CV RX3 20 yX3_isFull := ⟨w_528, w_505, w_506⟩
theorem m_X3_24 : CV RX3 24 yX3_put := ⟨w_529, w_530, w_531⟩
theorem m_X4_163 : CV RX4 163 yX3_put := ⟨w_533, w_530, w_531⟩
theorem m_X4_167 : CV RX4 167 yX2_shines := ⟨w_534, w_535, w_536⟩
theorem m_X9_86 : CV RX9 86 yX2_copy := ⟨w_538, w_539, w_540⟩
theorem m_X2_55 : CV RX2 55 yX3_copy := ⟨w_542, w_543, w_544⟩
theorem m_X3_28 : CS RX3 28 yJ9_min_7cf53 := ⟨w_546, w_420⟩
theorem m_X9_89 : CV RX9 89 yX1_forget := ⟨w_551, w_552, w_553⟩
theorem m_L_28 : CV RL 28 yX9_fault := ⟨w_555, w_556, w_557⟩
theorem m_L_32 : CV RL 32 yX9_village := ⟨w_559, w_560, w_561⟩
theorem m_X9_101 : CV RX9 101 yX9_hasVillage := ⟨w_563, w_565, ws_8⟩
theorem m_X9_108 : CV RX9 108 yX3_at := ⟨w_567, w_568, w_569⟩
theorem m_L_37 : CV RL 37 yX9_takes := ⟨w_571, w_572, w_573⟩
theorem m_X9_114 : CV RX9 114 yX9_hasFlood := ⟨w_575, w_577, ws_9⟩
theorem m_X9_120 : CV RX9 120 yX3_put := ⟨w_579, w_530, w_531⟩
theorem m_L_111 : CV RL 111 yX9_more := ⟨w_580, w_581, w_582⟩
theorem m_X9_124 : CV RX9 124 yX9_hasPlain := ⟨w_584, w_586, ws_10⟩
theorem m_L_163 : CV RL 163 yX9_count := ⟨w_588, w_589, w_590⟩
theorem m_X9_146 : CV RX9 146 yX9_slotsWithRows := ⟨w_592, w_594, ws_11⟩
theorem m_L_41 : CV RL 41 yX9_water := ⟨w_596, w_597, w_598⟩
theorem m_X9_156 : CV RX9 156 yX9_hasWeek := ⟨w_600, w_602, ws_12⟩
theorem m_X9_159 : CV RX9 159 yX9_goThroughYear := ⟨w_604, w_606, ws_13⟩
theorem m_X9_150 : CV RX9 150 yX8_begin := ⟨w_608, w_609, w_610⟩
theorem m_X8_71 : CV RX8 71 yX3_at := ⟨w_612, w_568, w_569⟩
theorem m_X8_80 : CS RX8 80 yJ7_fill_53178 := ⟨w_613, w_391⟩
theorem m_X9_153 : CV RX9 153 yX8_run := ⟨w_614, w_615, w_616⟩
theorem m_X8_101 : CV RX8 101 yX8_pass := ⟨w_618, w_619, w_620⟩
theorem m_X8_105 : CV RX8 105 yX8_takeFloods := ⟨w_622, w_624, ws_14⟩
theorem m_X8_139 : CV RX8 139 yX8_roomOf := ⟨w_626, w_628, ws_15⟩
theorem m_X8_143 : CS RX8 143 yJ9_min_7cf53 := ⟨w_630, w_420⟩
theorem m_X8_148 : CV RX8 148 yX8_withMore := ⟨w_631, w_633, ws_16⟩
theorem m_X8_108 : CV RX8 108 yX8_lendOn := ⟨w_635, w_637, ws_17⟩
theorem m_X8_111 : CV RX8 111 yX8_repayTill := ⟨w_639, w_641, ws_18⟩
theorem m_X8_154 : CV RX8 154 yX8_noteTrouble := ⟨w_643, w_645, ws_19⟩
theorem m_X8_117 : CV RX8 117 yX8_giveBack := ⟨w_647, w_649, ws_20⟩
theorem m_X8_120 : CV RX8 120 yX8_drinkCrops := ⟨w_651, w_653, ws_21⟩
theorem m_X8_160 : CV RX8 160 yX8_staysDry := ⟨w_655, w_657, ws_22⟩
theorem m_X8_123 : CV RX8 123 yX8_drinkSky := ⟨w_659, w_661, ws_23⟩
theorem m_X8_126 : CV RX8 126 yX8_seepAway := ⟨w_663, w_665, ws_24⟩
theorem m_X8_129 : CV RX8 129 yX8_noteWater := ⟨w_667, w_669, ws_25⟩
theorem m_X9_162 : CV RX9 162 yX8_waterBehind := ⟨w_671, w_672, w_673⟩
theorem m_L_45 : CV RL 45 yX9_flood := ⟨w_675, w_676, w_677⟩
theorem m_X9_175 : CS RX9 175 yX9_account := ⟨w_679, w_680⟩
theorem m_L_49 : CV RL 49 yX9_loan := ⟨w_682, w_683, w_684⟩
theorem m_L_53 : CV RL 53 yX9_crop := ⟨w_686, w_687, w_688⟩
theorem m_L_57 : CV RL 57 yX9_sum := ⟨w_690, w_691, w_692⟩
theorem m_X9_197 : CS RX9 197 yX9_together := ⟨w_694, w_695⟩
theorem m_L_61 : CV RL 61 yX9_first := ⟨w_697, w_698, w_699⟩
theorem m_L_65 : CV RL 65 yX9_best := ⟨w_701, w_702, w_703⟩
theorem m_X9_216 : CV RX9 216 yX1_knowAll := ⟨w_705, w_706, w_707⟩
theorem m_X1_85 : CV RX1 85 yX1_total := ⟨w_709, w_710, w_711⟩
theorem m_X1_42 : CV RX1 42 yX1_choices := ⟨w_713, w_715, ws_26⟩
theorem m_X1_88 : CV RX1 88 yX1_know := ⟨w_717, w_718, w_719⟩
theorem m_X1_64 : CS RX1 64 yX1_isCode := ⟨w_721, w_722⟩
theorem m_X1_68 : CV RX1 68 yX1_lead := ⟨w_724, w_725, w_726⟩
theorem m_X1_56 : CV RX1 56 yX8_begin := ⟨w_728, w_609, w_610⟩
theorem m_X1_53 : CV RX1 53 yX1_takerIn := ⟨w_729, w_730, w_731⟩
theorem m_X1_72 : CV RX1 72 yX8_run := ⟨w_733, w_615, w_616⟩
theorem m_X1_78 : CSN RX1 78 yX9_together := ⟨by simp [nestW, yX9_together, RX9, RX1], w_695⟩
theorem m_X1_82 : CV RX1 82 yX8_shortInAll := ⟨w_735, w_736, w_737⟩
theorem m_X8_132 : CSN RX8 132 yX9_together := ⟨by simp [nestW, yX9_together, RX9, RX8], w_695⟩
theorem m_X9_219 : CV RX9 219 yX1_bestCode := ⟨w_740, w_741, w_742⟩
theorem m_X1_94 : CV RX1 94 yX1_shortBy := ⟨w_744, w_745, w_746⟩
theorem m_X1_98 : CV RX1 98 yX1_broughtBy := ⟨w_748, w_749, w_750⟩
theorem m_X9_222 : CV RX9 222 yX1_broughtBy := ⟨w_752, w_749, w_750⟩
theorem m_L_69 : CV RL 69 yX9_taker := ⟨w_753, w_754, w_755⟩
theorem m_X9_226 : CV RX9 226 yX1_takerIn := ⟨w_757, w_730, w_731⟩
theorem m_L_73 : CV RL 73 yX9_safe := ⟨w_758, w_759, w_760⟩
theorem m_X9_229 : CV RX9 229 yX1_safeCodes := ⟨w_762, w_763, w_764⟩
theorem m_L_77 : CV RL 77 yX9_hope := ⟨w_766, w_767, w_768⟩
theorem m_X9_234 : CV RX9 234 yX1_codeNow := ⟨w_771, w_772, w_773⟩
theorem m_X1_49 : CV RX1 49 yX3_at := ⟨w_775, w_568, w_569⟩
theorem m_X9_237 : CV RX9 237 yX1_knowWays := ⟨w_776, w_777, w_778⟩
theorem m_X1_91 : CV RX1 91 yX1_onlyComing := ⟨w_780, w_781, w_782⟩
theorem m_X9_240 : CV RX9 240 yX9_fraction := ⟨w_784, w_786, ws_27⟩
theorem m_X9_247 : CV RX9 247 yX1_hopeAbove := ⟨w_788, w_789, w_790⟩
theorem m_X1_105 : CV RX1 105 yX1_chance := ⟨w_792, w_794, ws_28⟩
theorem m_X9_251 : CV RX9 251 yX1_hopeBelow := ⟨w_796, w_797, w_798⟩
theorem m_X9_255 : CS RX9 255 yJ9_abs_067f4 := ⟨w_801, w_802⟩
theorem m_X9_261 : CS RX9 261 yX9_commonDivisor := ⟨w_804, w_805⟩
theorem m_X9_265 : CS RX9 265 yJ9_max_f86c9 := ⟨w_807, w_808⟩
theorem m_L_82 : CV RL 82 yX9_wise := ⟨w_810, w_811, w_812⟩
theorem m_X9_244 : CV RX9 244 yX1_wiseCode := ⟨w_814, w_815, w_816⟩
theorem m_X1_101 : CV RX1 101 yX1_hopeAbove := ⟨w_818, w_789, w_790⟩
theorem m_L_86 : CV RL 86 yX9_wisest := ⟨w_819, w_820, w_821⟩
theorem m_L_90 : CV RL 90 yX9_agree := ⟨w_823, w_824, w_825⟩
theorem m_X9_268 : CV RX9 268 yX9_marksWrong := ⟨w_827, w_829, ws_29⟩
theorem m_X9_285 : CV RX9 285 yX5_number := ⟨w_831, w_832, w_833⟩
theorem m_X9_272 : CV RX9 272 yX1_total := ⟨w_835, w_710, w_711⟩
theorem m_X9_275 : CV RX9 275 yX9_goThroughYearBy := ⟨w_836, w_838, ws_30⟩
theorem m_X9_288 : CV RX9 288 yX1_lead := ⟨w_840, w_725, w_726⟩
theorem m_X9_278 : CV RX9 278 yX9_missed := ⟨w_841, w_843, ws_31⟩
theorem m_L_94 : CV RL 94 yX9_who := ⟨w_845, w_846, w_847⟩
theorem m_L_98 : CV RL 98 yX9_sure := ⟨w_849, w_850, w_851⟩
theorem m_L_103 : CV RL 103 yX9_needed := ⟨w_853, w_854, w_855⟩
theorem m_X9_281 : CS RX9 281 yJ9_min_7cf53 := ⟨w_857, w_420⟩
theorem m_L_107 : CV RL 107 yX9_fair := ⟨w_858, w_859, w_860⟩
theorem m_X9_291 : CV RX9 291 yX9_wealth := ⟨w_862, w_864, ws_32⟩
theorem m_L_143 : CV RL 143 yX9_melons := ⟨w_866, w_867, w_868⟩
theorem m_X9_301 : CV RX9 301 yX9_firstDrink := ⟨w_870, w_872, ws_33⟩
theorem m_X9_304 : CV RX9 304 yX9_shortOf := ⟨w_874, w_876, ws_34⟩
theorem m_L_147 : CV RL 147 yX9_share := ⟨w_878, w_879, w_880⟩
theorem m_X9_307 : CV RX9 307 yX9_cutShare := ⟨w_882, w_884, ws_35⟩
theorem m_X9_310 : CS RX9 310 yJ9_max_7cf53 := ⟨w_886, w_887⟩
theorem m_L_151 : CV RL 151 yX9_enough := ⟨w_889, w_890, w_891⟩
theorem m_X9_312 : CV RX9 312 yX9_neverDry := ⟨w_893, w_895, ws_36⟩
theorem m_X9_316 : CV RX9 316 yX8_pass := ⟨w_897, w_619, w_620⟩
theorem m_L_115 : CV RL 115 yX9_owes := ⟨w_898, w_899, w_900⟩
theorem m_X9_325 : CV RX9 325 yX9_arePair := ⟨w_902, w_904, ws_37⟩
theorem m_X9_328 : CV RX9 328 yX9_reckonDebts := ⟨w_906, w_908, ws_38⟩
theorem m_X9_322 : CV RX9 322 yX0_reckon := ⟨w_910, w_911, w_912⟩
theorem m_X0_35 : CS RX0 35 yJ7_fill_53178 := ⟨w_914, w_391⟩
theorem m_X0_53 : CV RX0 53 yX3_at := ⟨w_915, w_568, w_569⟩
theorem m_X0_57 : CS RX0 57 yX0_pair := ⟨w_916, w_917⟩
theorem m_X9_334 : CS RX9 334 yX0_pair := ⟨w_919, w_917⟩
theorem m_L_119 : CV RL 119 yX9_rings := ⟨w_920, w_921, w_922⟩
theorem m_X9_337 : CV RX9 337 yX0_clearRings := ⟨w_924, w_925, w_926⟩
theorem m_X0_80 : CV RX0 80 yX0_findRing := ⟨w_929, w_931, ws_39⟩
theorem m_X0_91 : CS RX0 91 yX0_closes := ⟨w_933, w_934⟩
theorem m_X0_95 : CS RX0 95 yX0_holds := ⟨w_936, w_937⟩
theorem m_X0_84 : CV RX0 84 yX0_clearRound := ⟨w_939, w_941, ws_40⟩
theorem m_X0_99 : CS RX0 99 yJ9_min_7cf53 := ⟨w_943, w_420⟩
theorem m_L_123 : CV RL 123 yX9_ring := ⟨w_944, w_945, w_946⟩
theorem m_L_127 : CV RL 127 yX9_left := ⟨w_948, w_949, w_950⟩
theorem m_L_131 : CV RL 131 yX9_struck := ⟨w_952, w_953, w_954⟩
theorem m_X9_352 : CV RX9 352 yX0_strike := ⟨w_956, w_957, w_958⟩
theorem m_X0_104 : CV RX0 104 yX0_payParts := ⟨w_960, w_962, ws_41⟩
theorem m_X0_114 : CS RX0 114 yJ9_max_f86c9 := ⟨w_964, w_808⟩
theorem m_X0_107 : CV RX0 107 yX0_payInTurn := ⟨w_965, w_967, ws_42⟩
theorem m_X0_118 : CV RX0 118 yX0_nextToPay := ⟨w_969, w_971, ws_43⟩
theorem m_X9_358 : CV RX9 358 yX0_ruined := ⟨w_973, w_974, w_975⟩
theorem m_L_135 : CV RL 135 yX9_pays := ⟨w_977, w_978, w_979⟩
theorem m_L_139 : CV RL 139 yX9_law := ⟨w_981, w_982, w_983⟩
theorem m_X9_361 : CS RX9 361 yJ6_bitCount_0f7a4 := ⟨w_985, w_986⟩
theorem m_L_155 : CV RL 155 yX9_year := ⟨w_991, w_992, w_993⟩
theorem m_X9_367 : CS RX9 367 yX9_isSeed := ⟨w_995, w_996⟩
theorem m_X9_370 : CV RX9 370 yX9_drawn := ⟨w_999, w_1001, ws_44⟩
theorem m_X9_373 : CV RX9 373 yX1_onlyComing := ⟨w_1008, w_781, w_782⟩
theorem m_X9_376 : CV RX9 376 yX1_know := ⟨w_1009, w_718, w_719⟩
theorem m_X9_379 : CV RX9 379 yX1_shortBy := ⟨w_1010, w_745, w_746⟩
theorem m_L_159 : CV RL 159 yX9_years := ⟨w_1011, w_1012, w_1013⟩
theorem m_L_167 : CV RL 167 yX9_image := ⟨w_1015, w_1016, w_1017⟩
theorem m_L_171 : CV RL 171 yX9_restore := ⟨w_1019, w_1020, w_1021⟩
theorem m_L_175 : CV RL 175 yX9_row := ⟨w_1023, w_1024, w_1025⟩
theorem m_X9_392 : CS RX9 392 yX9_isSlot := ⟨w_1027, w_1028⟩
theorem m_X9_395 : CIN RX9 395 yX5_init := ⟨by simp [nestW, yX5_init, RX5, RX9], rfl, w_1032⟩
theorem m_X9_396 : CV RX9 396 yX5_begin := ⟨w_1049, w_1050, w_1051⟩
theorem m_X5_20 : CS RX5 20 yJ7_fill_d0a16 := ⟨w_1053, w_1054⟩
theorem m_L_181 : CV RL 181 yX9_write := ⟨w_1056, w_1057, w_1058⟩
theorem m_X9_399 : CV RX9 399 yX5_put := ⟨w_1060, w_1061, w_1062⟩
theorem m_X5_26 : CV RX5 26 yX5_cut := ⟨w_1064, w_1066, ws_45⟩
theorem m_L_186 : CV RL 186 yX9_paste := ⟨w_1068, w_1069, w_1070⟩
theorem m_X9_405 : CV RX9 405 yX5_has := ⟨w_1072, w_1073, w_1074⟩
theorem m_L_12 : CI RL 12 yX10_init := ⟨w_1079, rfl, w_1080⟩
theorem m_L_170 : CV RL 170 yX10_image := ⟨w_1203, w_1204, w_1205⟩
theorem m_X10_85 : CS RX10 85 yX10_in := ⟨w_1208, w_1209⟩
theorem m_L_174 : CV RL 174 yX10_restore := ⟨w_1211, w_1212, w_1213⟩
theorem m_L_17 : CV RL 17 yX10_feed := ⟨w_1215, w_1216, w_1217⟩
theorem m_L_22 : CV RL 22 yX10_end := ⟨w_1219, w_1220, w_1221⟩
theorem m_L_31 : CV RL 31 yX10_fault := ⟨w_1223, w_1224, w_1225⟩
theorem m_L_27 : CV RL 27 yX10_plain := ⟨w_1227, w_1228, w_1229⟩
theorem m_X10_154 : CV RX10 154 yX10_advance := ⟨w_1231, w_1233, ws_46⟩
theorem m_X10_106 : CV RX10 106 yX10_see := ⟨w_1235, w_1237, ws_47⟩
theorem m_X10_128 : CS RX10 128 yJ9_min_7cf53 := ⟨w_1244, w_420⟩
theorem m_X10_137 : CV RX10 137 yX10_good := ⟨w_1245, w_1247, ws_48⟩
theorem m_X10_238 : CV RX10 238 yX10_readLine := ⟨w_1249, w_1251, ws_49⟩
theorem m_X10_164 : CV RX10 164 yX10_needs := ⟨w_1254, w_1256, ws_50⟩
theorem m_X10_157 : CV RX10 157 yX10_takes := ⟨w_1258, w_1260, ws_51⟩
theorem m_X10_150 : CV RX10 150 yX10_is := ⟨w_1262, w_1264, ws_52⟩
theorem m_X10_141 : CV RX10 141 yJ0_length_8abf5 := ⟨w_1266, w_444, w_445⟩
theorem m_X10_146 : CV RX10 146 yJ0_charAt_5068e := ⟨w_1267, w_454, w_455⟩
theorem m_X10_160 : CV RX10 160 yX10_errs := ⟨w_1268, w_1270, ws_53⟩
theorem m_X10_173 : CV RX10 173 yX10_told := ⟨w_1273, w_1275, ws_54⟩
theorem m_X10_168 : CV RX10 168 yX10_number := ⟨w_1277, w_1279, ws_55⟩
theorem m_X10_235 : CV RX10 235 yX10_readNext := ⟨w_1283, w_1285, ws_56⟩
theorem m_X10_212 : CV RX10 212 yX10_readVillage := ⟨w_1293, w_1295, ws_57⟩
theorem m_X10_215 : CV RX10 215 yX10_readCrop := ⟨w_1301, w_1303, ws_58⟩
theorem m_X10_182 : CV RX10 182 yX10_freshVillage := ⟨w_1305, w_1307, ws_59⟩
theorem m_X10_219 : CV RX10 219 yX10_readFlood := ⟨w_1314, w_1316, ws_60⟩
theorem m_X10_222 : CV RX10 222 yX10_readLoan := ⟨w_1319, w_1321, ws_61⟩
theorem m_L_36 : CV RL 36 yX10_village := ⟨w_1327, w_1328, w_1329⟩
theorem m_X10_93 : CV RX10 93 yX10_isVillage := ⟨w_1331, w_1333, ws_62⟩
theorem m_X10_89 : CV RX10 89 yX10_villages := ⟨w_1335, w_1337, ws_63⟩
theorem m_X10_241 : CV RX10 241 yX10_of := ⟨w_1340, w_1342, ws_64⟩
theorem m_L_40 : CV RL 40 yX10_takes_ := ⟨w_1344, w_1345, w_1346⟩
theorem m_X10_311 : CV RX10 311 yX10_isFlood := ⟨w_1348, w_1350, ws_65⟩
theorem m_L_44 : CV RL 44 yX10_water := ⟨w_1352, w_1353, w_1354⟩
theorem m_X10_314 : CV RX10 314 yX10_isWeek := ⟨w_1356, w_1358, ws_66⟩
theorem m_X10_317 : CV RX10 317 yX10_year := ⟨w_1360, w_1362, ws_67⟩
theorem m_X10_294 : CV RX10 294 yX10_runs := ⟨w_1364, w_1366, ws_68⟩
theorem m_X10_279 : CV RX10 279 yX10_floodsIn := ⟨w_1368, w_1370, ws_69⟩
theorem m_X10_249 : CV RX10 249 yX10_takerNow := ⟨w_1372, w_1374, ws_70⟩
theorem m_X10_252 : CV RX10 252 yX10_ofFlood := ⟨w_1376, w_1378, ws_71⟩
theorem m_X10_255 : CV RX10 255 yX10_room := ⟨w_1380, w_1382, ws_72⟩
theorem m_X10_258 : CV RX10 258 yX10_owed := ⟨w_1384, w_1386, ws_73⟩
theorem m_X10_282 : CV RX10 282 yX10_loansIn := ⟨w_1388, w_1390, ws_74⟩
theorem m_X10_261 : CV RX10 261 yX10_ofLoan := ⟨w_1392, w_1394, ws_75⟩
theorem m_X10_285 : CV RX10 285 yX10_dueIn := ⟨w_1396, w_1398, ws_76⟩
theorem m_X10_264 : CV RX10 264 yX10_wrongIn := ⟨w_1400, w_1402, ws_77⟩
theorem m_X10_288 : CV RX10 288 yX10_cropsIn := ⟨w_1404, w_1406, ws_78⟩
theorem m_X10_267 : CV RX10 267 yX10_ofCrop := ⟨w_1408, w_1410, ws_79⟩
theorem m_X10_291 : CV RX10 291 yX10_losesIn := ⟨w_1412, w_1414, ws_80⟩
theorem m_L_48 : CV RL 48 yX10_flood := ⟨w_1416, w_1417, w_1418⟩
theorem m_X10_297 : CV RX10 297 yX10_shortOfFlood := ⟨w_1421, w_1423, ws_81⟩
theorem m_L_52 : CV RL 52 yX10_loan := ⟨w_1425, w_1426, w_1427⟩
theorem m_X10_300 : CV RX10 300 yX10_shortOfLoan := ⟨w_1429, w_1431, ws_82⟩
theorem m_L_56 : CV RL 56 yX10_crop := ⟨w_1433, w_1434, w_1435⟩
theorem m_L_60 : CV RL 60 yX10_sum := ⟨w_1437, w_1438, w_1439⟩
theorem m_X10_322 : CV RX10 322 yX10_isPlain := ⟨w_1441, w_1443, ws_83⟩
theorem m_X10_327 : CV RX10 327 yX10_brought := ⟨w_1446, w_1448, ws_84⟩
theorem m_X10_303 : CV RX10 303 yX10_shortOfFloods := ⟨w_1450, w_1452, ws_85⟩
theorem m_X10_306 : CV RX10 306 yX10_shortOfLoans := ⟨w_1454, w_1456, ws_86⟩
theorem m_X10_330 : CV RX10 330 yX10_floodSum := ⟨w_1458, w_1460, ws_87⟩
theorem m_L_64 : CV RL 64 yX10_first := ⟨w_1462, w_1463, w_1464⟩
theorem m_L_68 : CV RL 68 yX10_best := ⟨w_1466, w_1467, w_1468⟩
theorem m_X10_351 : CV RX10 351 yX10_bestTakers := ⟨w_1470, w_1472, ws_88⟩
theorem m_X10_333 : CV RX10 333 yX10_keepsTakers := ⟨w_1474, w_1476, ws_89⟩
theorem m_X10_339 : CV RX10 339 yX10_takersMany := ⟨w_1478, w_1480, ws_90⟩
theorem m_X10_342 : CV RX10 342 yX10_takersAre := ⟨w_1482, w_1484, ws_91⟩
theorem m_X10_345 : CV RX10 345 yX10_shortOfAll := ⟨w_1486, w_1488, ws_92⟩
theorem m_X10_348 : CV RX10 348 yX10_bringsTakersBack := ⟨w_1490, w_1492, ws_93⟩
theorem m_L_72 : CV RL 72 yX10_taker := ⟨w_1494, w_1495, w_1496⟩
theorem m_X10_354 : CV RX10 354 yX10_takerIn := ⟨w_1498, w_1500, ws_94⟩
theorem m_L_76 : CV RL 76 yX10_safe := ⟨w_1502, w_1503, w_1504⟩
theorem m_L_81 : CV RL 81 yX10_hope := ⟨w_1506, w_1507, w_1508⟩
theorem m_X10_363 : CV RX10 363 yX10_hopeAbove := ⟨w_1510, w_1512, ws_95⟩
theorem m_X10_367 : CV RX10 367 yX10_hopeBelow := ⟨w_1514, w_1516, ws_96⟩
theorem m_X10_370 : CS RX10 370 yX10_part := ⟨w_1519, w_1520⟩
theorem m_X10_359 : CS RX10 359 yJ9_abs_067f4 := ⟨w_1522, w_802⟩
theorem m_L_85 : CV RL 85 yX10_wise := ⟨w_1524, w_1525, w_1526⟩
theorem m_X10_380 : CV RX10 380 yX10_wiseTakers := ⟨w_1528, w_1530, ws_97⟩
theorem m_L_89 : CV RL 89 yX10_wisest := ⟨w_1532, w_1533, w_1534⟩
theorem m_L_93 : CV RL 93 yX10_agree := ⟨w_1536, w_1537, w_1538⟩
theorem m_X10_390 : CV RX10 390 yX10_asksMarks := ⟨w_1540, w_1542, ws_98⟩
theorem m_X10_383 : CS RX10 383 yX10_isSlot := ⟨w_1544, w_1545⟩
theorem m_X10_394 : CV RX10 394 yX10_agreeBut := ⟨w_1547, w_1549, ws_99⟩
theorem m_X10_386 : CV RX10 386 yX10_agrees := ⟨w_1551, w_1553, ws_100⟩
theorem m_L_97 : CV RL 97 yX10_who := ⟨w_1555, w_1556, w_1557⟩
theorem m_L_102 : CV RL 102 yX10_sure := ⟨w_1559, w_1560, w_1561⟩
theorem m_L_106 : CV RL 106 yX10_needed := ⟨w_1563, w_1564, w_1565⟩
theorem m_L_110 : CV RL 110 yX10_fair := ⟨w_1567, w_1568, w_1569⟩
theorem m_X10_397 : CV RX10 397 yX10_haveOf := ⟨w_1571, w_1573, ws_101⟩
theorem m_L_114 : CV RL 114 yX10_more := ⟨w_1575, w_1576, w_1577⟩
theorem m_L_118 : CV RL 118 yX10_owes := ⟨w_1579, w_1580, w_1581⟩
theorem m_X10_421 : CV RX10 421 yX10_areTwo := ⟨w_1583, w_1585, ws_102⟩
theorem m_X10_409 : CV RX10 409 yX10_fillDebts := ⟨w_1587, w_1589, ws_103⟩
theorem m_X10_400 : CV RX10 400 yX10_debt := ⟨w_1591, w_1593, ws_104⟩
theorem m_L_122 : CV RL 122 yX10_rings := ⟨w_1595, w_1596, w_1597⟩
theorem m_X10_424 : CV RX10 424 yX10_clears := ⟨w_1599, w_1601, ws_105⟩
theorem m_X10_418 : CV RX10 418 yX10_ringSize := ⟨w_1603, w_1605, ws_106⟩
theorem m_X10_406 : CV RX10 406 yX10_findsRing := ⟨w_1607, w_1609, ws_107⟩
theorem m_X10_403 : CV RX10 403 yX10_isRing := ⟨w_1611, w_1613, ws_108⟩
theorem m_L_126 : CV RL 126 yX10_ring := ⟨w_1615, w_1616, w_1617⟩
theorem m_L_130 : CV RL 130 yX10_left := ⟨w_1619, w_1620, w_1621⟩
theorem m_L_134 : CV RL 134 yX10_struck := ⟨w_1623, w_1624, w_1625⟩
theorem m_X10_434 : CV RX10 434 yX10_strikes := ⟨w_1627, w_1629, ws_109⟩
theorem m_X10_427 : CV RX10 427 yX10_allDebts := ⟨w_1631, w_1633, ws_110⟩
theorem m_X10_430 : CV RX10 430 yX10_nextPaid := ⟨w_1635, w_1637, ws_111⟩
theorem m_X10_437 : CV RX10 437 yX10_ruined := ⟨w_1639, w_1641, ws_112⟩
theorem m_L_138 : CV RL 138 yX10_pays := ⟨w_1643, w_1644, w_1645⟩
theorem m_L_142 : CV RL 142 yX10_law := ⟨w_1647, w_1648, w_1649⟩
theorem m_X10_440 : CS RX10 440 yX10_bits := ⟨w_1651, w_1652⟩
theorem m_L_146 : CV RL 146 yX10_melons := ⟨w_1654, w_1655, w_1656⟩
theorem m_X10_443 : CV RX10 443 yX10_firstCrop := ⟨w_1658, w_1660, ws_113⟩
theorem m_L_150 : CV RL 150 yX10_share := ⟨w_1662, w_1663, w_1664⟩
theorem m_X10_446 : CV RX10 446 yX10_shareOf := ⟨w_1666, w_1668, ws_114⟩
theorem m_L_154 : CV RL 154 yX10_enough := ⟨w_1670, w_1671, w_1672⟩
theorem m_X10_449 : CV RX10 449 yX10_isNeverDry := ⟨w_1674, w_1676, ws_115⟩
theorem m_L_158 : CV RL 158 yX10_year_ := ⟨w_1678, w_1679, w_1680⟩
theorem m_X10_468 : CV RX10 468 yX10_floodsDrawn := ⟨w_1683, w_1685, ws_116⟩
theorem m_X10_463 : CV RX10 463 yX10_draw := ⟨w_1687, w_1689, ws_117⟩
theorem m_L_162 : CV RL 162 yX10_years := ⟨w_1695, w_1696, w_1697⟩
theorem m_L_166 : CV RL 166 yX10_count := ⟨w_1700, w_1701, w_1702⟩
theorem m_L_178 : CV RL 178 yX10_row := ⟨w_1704, w_1705, w_1706⟩
theorem m_L_185 : CV RL 185 yX10_write := ⟨w_1708, w_1709, w_1710⟩
theorem m_X10_474 : CS RX10 474 yX10_cut := ⟨w_1712, w_1713⟩
theorem m_L_189 : CV RL 189 yX10_paste := ⟨w_1715, w_1716, w_1717⟩
