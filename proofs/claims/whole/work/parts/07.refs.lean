theorem f_X6_11 : FA RX6 11 6 0 := ⟨_, rfl, by decide, w_35⟩
theorem f_X6_15 : FA RX6 15 6 1 := ⟨_, rfl, by decide, w_36⟩
theorem f_X4_43 : FA RX4 43 6 1 := ⟨_, rfl, by decide, w_37⟩
theorem f_X9_78 : FA RX9 78 6 1 := ⟨_, rfl, by decide, w_38⟩
theorem f_X7_28 : FA RX7 28 6 1 := ⟨_, rfl, by decide, w_39⟩
theorem f_X7_9 : FA RX7 9 7 0 := ⟨_, rfl, by decide, w_58⟩
theorem f_X7_15 : FA RX7 15 7 1 := ⟨_, rfl, by decide, w_59⟩
theorem f_X4_51 : FA RX4 51 7 1 := ⟨_, rfl, by decide, w_60⟩
theorem f_X7_19 : FA RX7 19 7 2 := ⟨_, rfl, by decide, w_61⟩
theorem f_X4_116 : FA RX4 116 7 2 := ⟨_, rfl, by decide, w_62⟩
theorem f_X7_22 : FA RX7 22 7 3 := ⟨_, rfl, by decide, w_63⟩
theorem f_X7_25 : FA RX7 25 7 4 := ⟨_, rfl, by decide, w_64⟩
theorem f_X4_105 : FA RX4 105 7 4 := ⟨_, rfl, by decide, w_65⟩
theorem f_X4_15 : FA RX4 15 4 0 := ⟨_, rfl, by decide, w_78⟩
theorem f_X4_24 : FA RX4 24 4 1 := ⟨_, rfl, by decide, w_79⟩
theorem f_X4_11 : FA RX4 11 4 2 := ⟨_, rfl, by decide, w_80⟩
theorem f_X4_37 : FA RX4 37 4 3 := ⟨_, rfl, by decide, w_81⟩
theorem f_X9_95 : FA RX9 95 4 3 := ⟨_, rfl, by decide, w_82⟩
theorem f_X4_28 : FA RX4 28 4 4 := ⟨_, rfl, by decide, w_83⟩
theorem f_X9_98 : FA RX9 98 4 4 := ⟨_, rfl, by decide, w_84⟩
theorem f_X3_7 : FA RX3 7 3 0 := ⟨_, rfl, by decide, w_108⟩
theorem f_X3_13 : FA RX3 13 3 1 := ⟨_, rfl, by decide, w_109⟩
theorem f_X3_16 : FA RX3 16 3 2 := ⟨_, rfl, by decide, w_110⟩
theorem f_X3_20 : FA RX3 20 3 3 := ⟨_, rfl, by decide, w_111⟩
theorem f_X2_33 : FA RX2 33 3 3 := ⟨_, rfl, by decide, w_112⟩
theorem f_X0_48 : FA RX0 48 3 3 := ⟨_, rfl, by decide, w_113⟩
theorem f_X1_36 : FA RX1 36 3 3 := ⟨_, rfl, by decide, w_114⟩
theorem f_X9_134 : FA RX9 134 3 3 := ⟨_, rfl, by decide, w_115⟩
theorem f_X4_154 : FA RX4 154 3 3 := ⟨_, rfl, by decide, w_116⟩
theorem f_X8_141 : FA RX8 141 3 3 := ⟨_, rfl, by decide, w_117⟩
theorem f_X2_14 : FA RX2 14 2 0 := ⟨_, rfl, by decide, w_127⟩
theorem f_X8_78 : FA RX8 78 2 0 := ⟨_, rfl, by decide, w_128⟩
theorem f_X1_46 : FA RX1 46 2 0 := ⟨_, rfl, by decide, w_129⟩
theorem f_X0_93 : FA RX0 93 2 0 := ⟨_, rfl, by decide, w_130⟩
theorem f_X9_104 : FA RX9 104 2 0 := ⟨_, rfl, by decide, w_131⟩
theorem f_X4_133 : FA RX4 133 2 0 := ⟨_, rfl, by decide, w_132⟩
theorem f_X2_20 : FA RX2 20 2 1 := ⟨_, rfl, by decide, w_133⟩
theorem f_X9_137 : FA RX9 137 2 1 := ⟨_, rfl, by decide, w_134⟩
theorem f_X4_142 : FA RX4 142 2 1 := ⟨_, rfl, by decide, w_135⟩
theorem f_X8_165 : FA RX8 165 2 1 := ⟨_, rfl, by decide, w_136⟩
theorem f_X2_23 : FA RX2 23 2 2 := ⟨_, rfl, by decide, w_137⟩
theorem f_X8_68 : FA RX8 68 2 2 := ⟨_, rfl, by decide, w_138⟩
theorem f_X1_30 : FA RX1 30 2 2 := ⟨_, rfl, by decide, w_139⟩
theorem f_X9_117 : FA RX9 117 2 2 := ⟨_, rfl, by decide, w_140⟩
theorem f_X4_145 : FA RX4 145 2 2 := ⟨_, rfl, by decide, w_141⟩
theorem f_X2_26 : FA RX2 26 2 3 := ⟨_, rfl, by decide, w_142⟩
theorem f_X0_42 : FA RX0 42 2 3 := ⟨_, rfl, by decide, w_143⟩
theorem f_X9_140 : FA RX9 140 2 3 := ⟨_, rfl, by decide, w_144⟩
theorem f_X4_148 : FA RX4 148 2 3 := ⟨_, rfl, by decide, w_145⟩
theorem f_X8_159 : FA RX8 159 2 3 := ⟨_, rfl, by decide, w_146⟩
theorem f_X2_29 : FA RX2 29 2 4 := ⟨_, rfl, by decide, w_147⟩
theorem f_X2_43 : FA RX2 43 2 5 := ⟨_, rfl, by decide, w_148⟩
theorem f_X4_62 : FA RX4 62 2 5 := ⟨_, rfl, by decide, w_149⟩
theorem f_X9_92 : FA RX9 92 2 5 := ⟨_, rfl, by decide, w_150⟩
theorem f_X2_46 : FA RX2 46 2 6 := ⟨_, rfl, by decide, w_151⟩
theorem f_X8_99 : FA RX8 99 2 6 := ⟨_, rfl, by decide, w_152⟩
theorem f_X9_131 : FA RX9 131 2 6 := ⟨_, rfl, by decide, w_153⟩
theorem f_X4_151 : FA RX4 151 2 6 := ⟨_, rfl, by decide, w_154⟩
theorem f_X8_56 : FA RX8 56 2 7 := ⟨_, rfl, by decide, w_155⟩
theorem f_X2_49 : FA RX2 49 2 7 := ⟨_, rfl, by decide, w_156⟩
theorem f_X9_128 : FA RX9 128 2 7 := ⟨_, rfl, by decide, w_157⟩
theorem f_X4_157 : FA RX4 157 2 7 := ⟨_, rfl, by decide, w_158⟩
theorem f_X2_52 : FA RX2 52 2 8 := ⟨_, rfl, by decide, w_159⟩
theorem f_X8_115 : FA RX8 115 2 8 := ⟨_, rfl, by decide, w_160⟩
theorem f_X9_143 : FA RX9 143 2 8 := ⟨_, rfl, by decide, w_161⟩
theorem f_X4_160 : FA RX4 160 2 8 := ⟨_, rfl, by decide, w_162⟩
theorem f_X8_52 : FA RX8 52 8 0 := ⟨_, rfl, by decide, w_191⟩
theorem f_X8_9 : FA RX8 9 8 1 := ⟨_, rfl, by decide, w_192⟩
theorem f_X1_66 : FA RX1 66 8 1 := ⟨_, rfl, by decide, w_193⟩
theorem f_X8_62 : FA RX8 62 8 2 := ⟨_, rfl, by decide, w_194⟩
theorem f_X9_305 : FA RX9 305 8 2 := ⟨_, rfl, by decide, w_195⟩
theorem f_X8_65 : FA RX8 65 8 3 := ⟨_, rfl, by decide, w_196⟩
theorem f_X9_308 : FA RX9 308 8 3 := ⟨_, rfl, by decide, w_197⟩
theorem f_X8_15 : FA RX8 15 8 4 := ⟨_, rfl, by decide, w_198⟩
theorem f_X9_213 : FA RX9 213 8 4 := ⟨_, rfl, by decide, w_199⟩
theorem f_X8_18 : FA RX8 18 8 5 := ⟨_, rfl, by decide, w_200⟩
theorem f_X8_21 : FA RX8 21 8 6 := ⟨_, rfl, by decide, w_201⟩
theorem f_X9_168 : FA RX9 168 8 6 := ⟨_, rfl, by decide, w_202⟩
theorem f_X8_24 : FA RX8 24 8 7 := ⟨_, rfl, by decide, w_203⟩
theorem f_X9_172 : FA RX9 172 8 7 := ⟨_, rfl, by decide, w_204⟩
theorem f_X8_27 : FA RX8 27 8 8 := ⟨_, rfl, by decide, w_205⟩
theorem f_X9_175 : FA RX9 175 8 8 := ⟨_, rfl, by decide, w_206⟩
theorem f_X8_30 : FA RX8 30 8 9 := ⟨_, rfl, by decide, w_207⟩
theorem f_X9_182 : FA RX9 182 8 9 := ⟨_, rfl, by decide, w_208⟩
theorem f_X8_33 : FA RX8 33 8 10 := ⟨_, rfl, by decide, w_209⟩
theorem f_X0_58 : FA RX0 58 8 10 := ⟨_, rfl, by decide, w_210⟩
theorem f_X9_185 : FA RX9 185 8 10 := ⟨_, rfl, by decide, w_211⟩
theorem f_X8_36 : FA RX8 36 8 11 := ⟨_, rfl, by decide, w_212⟩
theorem f_X0_63 : FA RX0 63 8 11 := ⟨_, rfl, by decide, w_213⟩
theorem f_X9_188 : FA RX9 188 8 11 := ⟨_, rfl, by decide, w_214⟩
theorem f_X8_39 : FA RX8 39 8 12 := ⟨_, rfl, by decide, w_215⟩
theorem f_X1_80 : FA RX1 80 8 12 := ⟨_, rfl, by decide, w_216⟩
theorem f_X9_191 : FA RX9 191 8 12 := ⟨_, rfl, by decide, w_217⟩
theorem f_X8_42 : FA RX8 42 8 13 := ⟨_, rfl, by decide, w_218⟩
theorem f_X9_194 : FA RX9 194 8 13 := ⟨_, rfl, by decide, w_219⟩
theorem f_X8_45 : FA RX8 45 8 14 := ⟨_, rfl, by decide, w_220⟩
theorem f_X9_197 : FA RX9 197 8 14 := ⟨_, rfl, by decide, w_221⟩
theorem f_X8_48 : FA RX8 48 8 15 := ⟨_, rfl, by decide, w_222⟩
theorem f_X8_87 : FA RX8 87 8 16 := ⟨_, rfl, by decide, w_223⟩
theorem f_X9_204 : FA RX9 204 8 16 := ⟨_, rfl, by decide, w_224⟩
theorem f_X8_90 : FA RX8 90 8 17 := ⟨_, rfl, by decide, w_225⟩
theorem f_X9_207 : FA RX9 207 8 17 := ⟨_, rfl, by decide, w_226⟩
theorem f_X8_93 : FA RX8 93 8 18 := ⟨_, rfl, by decide, w_227⟩
theorem f_X9_210 : FA RX9 210 8 18 := ⟨_, rfl, by decide, w_228⟩
theorem f_X8_96 : FA RX8 96 8 19 := ⟨_, rfl, by decide, w_229⟩
theorem f_X9_216 : FA RX9 216 8 19 := ⟨_, rfl, by decide, w_230⟩
theorem f_X1_22 : FA RX1 22 1 0 := ⟨_, rfl, by decide, w_279⟩
theorem f_X1_26 : FA RX1 26 1 1 := ⟨_, rfl, by decide, w_280⟩
theorem f_X1_11 : FA RX1 11 1 2 := ⟨_, rfl, by decide, w_281⟩
theorem f_X1_15 : FA RX1 15 1 3 := ⟨_, rfl, by decide, w_282⟩
theorem f_X1_18 : FA RX1 18 1 4 := ⟨_, rfl, by decide, w_283⟩
theorem f_X11_9 : FA RX11 9 11 0 := ⟨_, rfl, by decide, w_307⟩
theorem f_X0_31 : FA RX0 31 0 0 := ⟨_, rfl, by decide, w_311⟩
theorem f_X0_35 : FA RX0 35 0 1 := ⟨_, rfl, by decide, w_312⟩
theorem f_X0_12 : FA RX0 12 0 2 := ⟨_, rfl, by decide, w_313⟩
theorem f_X9_348 : FA RX9 348 0 2 := ⟨_, rfl, by decide, w_314⟩
theorem f_X0_18 : FA RX0 18 0 3 := ⟨_, rfl, by decide, w_315⟩
theorem f_X9_367 : FA RX9 367 0 3 := ⟨_, rfl, by decide, w_316⟩
theorem f_X0_21 : FA RX0 21 0 4 := ⟨_, rfl, by decide, w_317⟩
theorem f_X9_373 : FA RX9 373 0 4 := ⟨_, rfl, by decide, w_318⟩
theorem f_X0_24 : FA RX0 24 0 5 := ⟨_, rfl, by decide, w_319⟩
theorem f_X0_28 : FA RX0 28 0 6 := ⟨_, rfl, by decide, w_320⟩
theorem f_X0_74 : FA RX0 74 0 7 := ⟨_, rfl, by decide, w_321⟩
theorem f_X9_358 : FA RX9 358 0 7 := ⟨_, rfl, by decide, w_322⟩
theorem f_X0_77 : FA RX0 77 0 8 := ⟨_, rfl, by decide, w_323⟩
theorem f_X9_361 : FA RX9 361 0 8 := ⟨_, rfl, by decide, w_324⟩
theorem f_X9_10 : FA RX9 10 9 0 := ⟨_, rfl, by decide, w_344⟩
theorem f_X9_21 : FA RX9 21 9 1 := ⟨_, rfl, by decide, w_345⟩
theorem f_X9_28 : FA RX9 28 9 2 := ⟨_, rfl, by decide, w_346⟩
theorem f_X9_32 : FA RX9 32 9 3 := ⟨_, rfl, by decide, w_347⟩
theorem f_X9_35 : FA RX9 35 9 4 := ⟨_, rfl, by decide, w_348⟩
theorem f_X9_41 : FA RX9 41 9 5 := ⟨_, rfl, by decide, w_349⟩
theorem f_X9_50 : FA RX9 50 9 6 := ⟨_, rfl, by decide, w_350⟩
theorem f_X9_59 : FA RX9 59 9 7 := ⟨_, rfl, by decide, w_351⟩
theorem f_X9_66 : FA RX9 66 9 8 := ⟨_, rfl, by decide, w_352⟩
theorem f_X5_9 : FA RX5 9 5 0 := ⟨_, rfl, by decide, w_1116⟩
theorem f_X9_426 : FA RX9 426 5 0 := ⟨_, rfl, by decide, w_1117⟩
theorem f_X5_13 : FA RX5 13 5 1 := ⟨_, rfl, by decide, w_1118⟩
theorem f_X9_420 : FA RX9 420 5 1 := ⟨_, rfl, by decide, w_1119⟩
theorem f_X5_26 : FA RX5 26 5 2 := ⟨_, rfl, by decide, w_1120⟩
theorem f_X9_294 : FA RX9 294 5 2 := ⟨_, rfl, by decide, w_1121⟩
theorem f_X10_9 : FA RX10 9 10 1 := ⟨_, rfl, by decide, w_1167⟩
theorem f_X10_13 : FA RX10 13 10 2 := ⟨_, rfl, by decide, w_1168⟩
theorem f_X10_16 : FA RX10 16 10 3 := ⟨_, rfl, by decide, w_1169⟩
theorem f_X10_20 : FA RX10 20 10 4 := ⟨_, rfl, by decide, w_1170⟩
theorem f_X10_97 : FA RX10 97 10 5 := ⟨_, rfl, by decide, w_1171⟩
theorem f_X10_24 : FA RX10 24 10 6 := ⟨_, rfl, by decide, w_1172⟩
theorem f_X10_100 : FA RX10 100 10 7 := ⟨_, rfl, by decide, w_1173⟩
theorem f_X10_103 : FA RX10 103 10 8 := ⟨_, rfl, by decide, w_1174⟩
theorem f_X10_110 : FA RX10 110 10 9 := ⟨_, rfl, by decide, w_1175⟩
theorem f_X10_113 : FA RX10 113 10 10 := ⟨_, rfl, by decide, w_1176⟩
theorem f_X10_124 : FA RX10 124 10 11 := ⟨_, rfl, by decide, w_1177⟩
theorem f_X10_134 : FA RX10 134 10 12 := ⟨_, rfl, by decide, w_1178⟩
theorem f_X10_27 : FA RX10 27 10 13 := ⟨_, rfl, by decide, w_1179⟩
theorem f_X10_31 : FA RX10 31 10 14 := ⟨_, rfl, by decide, w_1180⟩
theorem f_X10_34 : FA RX10 34 10 15 := ⟨_, rfl, by decide, w_1181⟩
theorem f_X10_37 : FA RX10 37 10 16 := ⟨_, rfl, by decide, w_1182⟩
theorem f_X10_40 : FA RX10 40 10 17 := ⟨_, rfl, by decide, w_1183⟩
theorem f_X10_43 : FA RX10 43 10 18 := ⟨_, rfl, by decide, w_1184⟩
theorem f_X10_46 : FA RX10 46 10 19 := ⟨_, rfl, by decide, w_1185⟩
theorem f_X10_273 : FA RX10 273 10 20 := ⟨_, rfl, by decide, w_1186⟩
theorem f_X10_276 : FA RX10 276 10 21 := ⟨_, rfl, by decide, w_1187⟩
theorem f_X10_270 : FA RX10 270 10 22 := ⟨_, rfl, by decide, w_1188⟩
theorem f_X10_246 : FA RX10 246 10 23 := ⟨_, rfl, by decide, w_1189⟩
theorem f_X10_243 : FA RX10 243 10 24 := ⟨_, rfl, by decide, w_1190⟩
theorem f_X10_49 : FA RX10 49 10 25 := ⟨_, rfl, by decide, w_1191⟩
theorem f_X10_52 : FA RX10 52 10 26 := ⟨_, rfl, by decide, w_1192⟩
theorem f_X10_336 : FA RX10 336 10 27 := ⟨_, rfl, by decide, w_1193⟩
theorem f_X10_376 : FA RX10 376 10 28 := ⟨_, rfl, by decide, w_1194⟩
theorem f_X10_55 : FA RX10 55 10 29 := ⟨_, rfl, by decide, w_1195⟩
theorem f_X10_58 : FA RX10 58 10 30 := ⟨_, rfl, by decide, w_1196⟩
theorem f_X10_412 : FA RX10 412 10 31 := ⟨_, rfl, by decide, w_1197⟩
theorem f_X10_415 : FA RX10 415 10 32 := ⟨_, rfl, by decide, w_1198⟩
theorem f_X10_61 : FA RX10 61 10 33 := ⟨_, rfl, by decide, w_1199⟩
theorem f_X10_64 : FA RX10 64 10 34 := ⟨_, rfl, by decide, w_1200⟩
theorem f_X10_454 : FA RX10 454 10 35 := ⟨_, rfl, by decide, w_1201⟩
theorem f_X10_67 : FA RX10 67 10 36 := ⟨_, rfl, by decide, w_1202⟩
theorem f_X10_70 : FA RX10 70 10 37 := ⟨_, rfl, by decide, w_1203⟩
theorem f_X10_73 : FA RX10 73 10 38 := ⟨_, rfl, by decide, w_1204⟩
theorem f_X10_77 : FA RX10 77 10 39 := ⟨_, rfl, by decide, w_1205⟩
theorem p_X0_12 : FP RX0 12 0 2 (.object "FloodLent$Pairs") true := ⟨f_X0_12, fun r hr => by cases hr; exact ⟨by decide +kernel, rfl, fun _ => rfl⟩⟩
theorem p_X0_18 : FP RX0 18 0 3 (.object "FloodLent$Pairs") true := ⟨f_X0_18, fun r hr => by cases hr; exact ⟨by decide +kernel, rfl, fun _ => rfl⟩⟩
theorem p_X0_21 : FP RX0 21 0 4 (.object "FloodLent$Pairs") true := ⟨f_X0_21, fun r hr => by cases hr; exact ⟨by decide +kernel, rfl, fun _ => rfl⟩⟩
theorem p_X0_24 : FP RX0 24 0 5 (.array .int) true := ⟨f_X0_24, fun r hr => by cases hr; exact ⟨by decide +kernel, rfl, fun _ => rfl⟩⟩
theorem p_X0_28 : FP RX0 28 0 6 (.array .int) true := ⟨f_X0_28, fun r hr => by cases hr; exact ⟨by decide +kernel, rfl, fun _ => rfl⟩⟩
theorem p_X0_31 : FP RX0 31 0 0 (.object "FloodLent$Plain") true := ⟨f_X0_31, fun r hr => by cases hr; exact ⟨by decide +kernel, rfl, fun _ => rfl⟩⟩
theorem p_X0_35 : FP RX0 35 0 1 (.object "FloodLent$Year") true := ⟨f_X0_35, fun r hr => by cases hr; exact ⟨by decide +kernel, rfl, fun _ => rfl⟩⟩
theorem p_X0_74 : FP RX0 74 0 7 .int false := ⟨f_X0_74, fun r hr => by cases hr; exact ⟨by decide +kernel, rfl, fun h => by cases h⟩⟩
theorem p_X0_77 : FP RX0 77 0 8 .int false := ⟨f_X0_77, fun r hr => by cases hr; exact ⟨by decide +kernel, rfl, fun h => by cases h⟩⟩
theorem p_X1_11 : FP RX1 11 1 2 (.array .int) true := ⟨f_X1_11, fun r hr => by cases hr; exact ⟨by decide +kernel, rfl, fun _ => rfl⟩⟩
theorem p_X1_15 : FP RX1 15 1 3 (.array .int) true := ⟨f_X1_15, fun r hr => by cases hr; exact ⟨by decide +kernel, rfl, fun _ => rfl⟩⟩
theorem p_X1_18 : FP RX1 18 1 4 (.array .boolean) true := ⟨f_X1_18, fun r hr => by cases hr; exact ⟨by decide +kernel, rfl, fun _ => rfl⟩⟩
theorem p_X1_22 : FP RX1 22 1 0 (.object "FloodLent$Plain") true := ⟨f_X1_22, fun r hr => by cases hr; exact ⟨by decide +kernel, rfl, fun _ => rfl⟩⟩
theorem p_X1_26 : FP RX1 26 1 1 (.object "FloodLent$Year") true := ⟨f_X1_26, fun r hr => by cases hr; exact ⟨by decide +kernel, rfl, fun _ => rfl⟩⟩
theorem p_X10_9 : FP RX10 9 10 1 (.array .int) true := ⟨f_X10_9, fun r hr => by cases hr; exact ⟨by decide +kernel, rfl, fun _ => rfl⟩⟩
theorem p_X10_13 : FP RX10 13 10 2 (.array .int) true := ⟨f_X10_13, fun r hr => by cases hr; exact ⟨by decide +kernel, rfl, fun _ => rfl⟩⟩
theorem p_X10_16 : FP RX10 16 10 3 (.array .boolean) true := ⟨f_X10_16, fun r hr => by cases hr; exact ⟨by decide +kernel, rfl, fun _ => rfl⟩⟩
theorem p_X10_20 : FP RX10 20 10 4 (.array .byte) true := ⟨f_X10_20, fun r hr => by cases hr; exact ⟨by decide +kernel, rfl, fun _ => rfl⟩⟩
theorem p_X10_24 : FP RX10 24 10 6 (.array .int) true := ⟨f_X10_24, fun r hr => by cases hr; exact ⟨by decide +kernel, rfl, fun _ => rfl⟩⟩
theorem p_X10_27 : FP RX10 27 10 13 .int false := ⟨f_X10_27, fun r hr => by cases hr; exact ⟨by decide +kernel, rfl, fun h => by cases h⟩⟩
theorem p_X10_31 : FP RX10 31 10 14 (.array .int) true := ⟨f_X10_31, fun r hr => by cases hr; exact ⟨by decide +kernel, rfl, fun _ => rfl⟩⟩
theorem p_X10_34 : FP RX10 34 10 15 (.array .int) true := ⟨f_X10_34, fun r hr => by cases hr; exact ⟨by decide +kernel, rfl, fun _ => rfl⟩⟩
theorem p_X10_37 : FP RX10 37 10 16 (.array .int) true := ⟨f_X10_37, fun r hr => by cases hr; exact ⟨by decide +kernel, rfl, fun _ => rfl⟩⟩
theorem p_X10_40 : FP RX10 40 10 17 (.array .int) true := ⟨f_X10_40, fun r hr => by cases hr; exact ⟨by decide +kernel, rfl, fun _ => rfl⟩⟩
theorem p_X10_43 : FP RX10 43 10 18 (.array .int) true := ⟨f_X10_43, fun r hr => by cases hr; exact ⟨by decide +kernel, rfl, fun _ => rfl⟩⟩
theorem p_X10_46 : FP RX10 46 10 19 (.array .int) true := ⟨f_X10_46, fun r hr => by cases hr; exact ⟨by decide +kernel, rfl, fun _ => rfl⟩⟩
theorem p_X10_49 : FP RX10 49 10 25 .int false := ⟨f_X10_49, fun r hr => by cases hr; exact ⟨by decide +kernel, rfl, fun h => by cases h⟩⟩
theorem p_X10_52 : FP RX10 52 10 26 (.array .int) true := ⟨f_X10_52, fun r hr => by cases hr; exact ⟨by decide +kernel, rfl, fun _ => rfl⟩⟩
theorem p_X10_55 : FP RX10 55 10 29 (.array .int) true := ⟨f_X10_55, fun r hr => by cases hr; exact ⟨by decide +kernel, rfl, fun _ => rfl⟩⟩
theorem p_X10_58 : FP RX10 58 10 30 (.array .int) true := ⟨f_X10_58, fun r hr => by cases hr; exact ⟨by decide +kernel, rfl, fun _ => rfl⟩⟩
theorem p_X10_61 : FP RX10 61 10 33 (.array .int) true := ⟨f_X10_61, fun r hr => by cases hr; exact ⟨by decide +kernel, rfl, fun _ => rfl⟩⟩
theorem p_X10_64 : FP RX10 64 10 34 (.array .int) true := ⟨f_X10_64, fun r hr => by cases hr; exact ⟨by decide +kernel, rfl, fun _ => rfl⟩⟩
theorem p_X10_67 : FP RX10 67 10 36 (.array .int) true := ⟨f_X10_67, fun r hr => by cases hr; exact ⟨by decide +kernel, rfl, fun _ => rfl⟩⟩
theorem p_X10_70 : FP RX10 70 10 37 (.array .int) true := ⟨f_X10_70, fun r hr => by cases hr; exact ⟨by decide +kernel, rfl, fun _ => rfl⟩⟩
theorem p_X10_73 : FP RX10 73 10 38 (.array .long) true := ⟨f_X10_73, fun r hr => by cases hr; exact ⟨by decide +kernel, rfl, fun _ => rfl⟩⟩
theorem p_X10_77 : FP RX10 77 10 39 (.array .long) true := ⟨f_X10_77, fun r hr => by cases hr; exact ⟨by decide +kernel, rfl, fun _ => rfl⟩⟩
theorem p_X10_97 : FP RX10 97 10 5 .int false := ⟨f_X10_97, fun r hr => by cases hr; exact ⟨by decide +kernel, rfl, fun h => by cases h⟩⟩
theorem p_X10_100 : FP RX10 100 10 7 .int false := ⟨f_X10_100, fun r hr => by cases hr; exact ⟨by decide +kernel, rfl, fun h => by cases h⟩⟩
theorem p_X10_103 : FP RX10 103 10 8 .int false := ⟨f_X10_103, fun r hr => by cases hr; exact ⟨by decide +kernel, rfl, fun h => by cases h⟩⟩
theorem p_X10_110 : FP RX10 110 10 9 .int false := ⟨f_X10_110, fun r hr => by cases hr; exact ⟨by decide +kernel, rfl, fun h => by cases h⟩⟩
theorem p_X10_113 : FP RX10 113 10 10 .int false := ⟨f_X10_113, fun r hr => by cases hr; exact ⟨by decide +kernel, rfl, fun h => by cases h⟩⟩
theorem p_X10_124 : FP RX10 124 10 11 .int false := ⟨f_X10_124, fun r hr => by cases hr; exact ⟨by decide +kernel, rfl, fun h => by cases h⟩⟩
theorem p_X10_134 : FP RX10 134 10 12 .int false := ⟨f_X10_134, fun r hr => by cases hr; exact ⟨by decide +kernel, rfl, fun h => by cases h⟩⟩
theorem p_X10_243 : FP RX10 243 10 24 .int false := ⟨f_X10_243, fun r hr => by cases hr; exact ⟨by decide +kernel, rfl, fun h => by cases h⟩⟩
theorem p_X10_246 : FP RX10 246 10 23 .int false := ⟨f_X10_246, fun r hr => by cases hr; exact ⟨by decide +kernel, rfl, fun h => by cases h⟩⟩
theorem p_X10_270 : FP RX10 270 10 22 .int false := ⟨f_X10_270, fun r hr => by cases hr; exact ⟨by decide +kernel, rfl, fun h => by cases h⟩⟩
theorem p_X10_273 : FP RX10 273 10 20 .int false := ⟨f_X10_273, fun r hr => by cases hr; exact ⟨by decide +kernel, rfl, fun h => by cases h⟩⟩
theorem p_X10_276 : FP RX10 276 10 21 .int false := ⟨f_X10_276, fun r hr => by cases hr; exact ⟨by decide +kernel, rfl, fun h => by cases h⟩⟩
theorem p_X10_336 : FP RX10 336 10 27 .int false := ⟨f_X10_336, fun r hr => by cases hr; exact ⟨by decide +kernel, rfl, fun h => by cases h⟩⟩
theorem p_X10_376 : FP RX10 376 10 28 .long false := ⟨f_X10_376, fun r hr => by cases hr; exact ⟨by decide +kernel, rfl, fun h => by cases h⟩⟩
theorem p_X10_412 : FP RX10 412 10 31 .int false := ⟨f_X10_412, fun r hr => by cases hr; exact ⟨by decide +kernel, rfl, fun h => by cases h⟩⟩
theorem p_X10_415 : FP RX10 415 10 32 .int false := ⟨f_X10_415, fun r hr => by cases hr; exact ⟨by decide +kernel, rfl, fun h => by cases h⟩⟩
theorem p_X10_454 : FP RX10 454 10 35 .long false := ⟨f_X10_454, fun r hr => by cases hr; exact ⟨by decide +kernel, rfl, fun h => by cases h⟩⟩
theorem p_X11_9 : FP RX11 9 11 0 (.array .int) true := ⟨f_X11_9, fun r hr => by cases hr; exact ⟨by decide +kernel, rfl, fun _ => rfl⟩⟩
theorem p_X2_14 : FP RX2 14 2 0 (.object "FloodLent$Records") true := ⟨f_X2_14, fun r hr => by cases hr; exact ⟨by decide +kernel, rfl, fun _ => rfl⟩⟩
theorem p_X2_20 : FP RX2 20 2 1 (.object "FloodLent$Records") true := ⟨f_X2_20, fun r hr => by cases hr; exact ⟨by decide +kernel, rfl, fun _ => rfl⟩⟩
theorem p_X2_23 : FP RX2 23 2 2 (.object "FloodLent$Records") true := ⟨f_X2_23, fun r hr => by cases hr; exact ⟨by decide +kernel, rfl, fun _ => rfl⟩⟩
theorem p_X2_26 : FP RX2 26 2 3 (.object "FloodLent$Records") true := ⟨f_X2_26, fun r hr => by cases hr; exact ⟨by decide +kernel, rfl, fun _ => rfl⟩⟩
theorem p_X2_29 : FP RX2 29 2 4 (.array .int) true := ⟨f_X2_29, fun r hr => by cases hr; exact ⟨by decide +kernel, rfl, fun _ => rfl⟩⟩
theorem p_X2_33 : FP RX2 33 3 3 .int false := ⟨f_X2_33, fun r hr => by cases hr; exact ⟨by decide +kernel, rfl, fun h => by cases h⟩⟩
theorem p_X2_43 : FP RX2 43 2 5 .int false := ⟨f_X2_43, fun r hr => by cases hr; exact ⟨by decide +kernel, rfl, fun h => by cases h⟩⟩
theorem p_X2_46 : FP RX2 46 2 6 .int false := ⟨f_X2_46, fun r hr => by cases hr; exact ⟨by decide +kernel, rfl, fun h => by cases h⟩⟩
theorem p_X2_49 : FP RX2 49 2 7 .int false := ⟨f_X2_49, fun r hr => by cases hr; exact ⟨by decide +kernel, rfl, fun h => by cases h⟩⟩
theorem p_X2_52 : FP RX2 52 2 8 .int false := ⟨f_X2_52, fun r hr => by cases hr; exact ⟨by decide +kernel, rfl, fun h => by cases h⟩⟩
theorem p_X3_7 : FP RX3 7 3 0 .int true := ⟨f_X3_7, fun r hr => by cases hr; exact ⟨by decide +kernel, rfl, fun _ => rfl⟩⟩
theorem p_X3_13 : FP RX3 13 3 1 .int true := ⟨f_X3_13, fun r hr => by cases hr; exact ⟨by decide +kernel, rfl, fun _ => rfl⟩⟩
theorem p_X3_16 : FP RX3 16 3 2 (.array .int) true := ⟨f_X3_16, fun r hr => by cases hr; exact ⟨by decide +kernel, rfl, fun _ => rfl⟩⟩
theorem p_X3_20 : FP RX3 20 3 3 .int false := ⟨f_X3_20, fun r hr => by cases hr; exact ⟨by decide +kernel, rfl, fun h => by cases h⟩⟩
theorem p_X4_11 : FP RX4 11 4 2 (.array .int) true := ⟨f_X4_11, fun r hr => by cases hr; exact ⟨by decide +kernel, rfl, fun _ => rfl⟩⟩
theorem p_X4_15 : FP RX4 15 4 0 (.object "FloodLent$Tape") true := ⟨f_X4_15, fun r hr => by cases hr; exact ⟨by decide +kernel, rfl, fun _ => rfl⟩⟩
theorem p_X4_24 : FP RX4 24 4 1 (.object "FloodLent$Tokens") true := ⟨f_X4_24, fun r hr => by cases hr; exact ⟨by decide +kernel, rfl, fun _ => rfl⟩⟩
theorem p_X4_28 : FP RX4 28 4 4 .int false := ⟨f_X4_28, fun r hr => by cases hr; exact ⟨by decide +kernel, rfl, fun h => by cases h⟩⟩
theorem p_X4_37 : FP RX4 37 4 3 .int false := ⟨f_X4_37, fun r hr => by cases hr; exact ⟨by decide +kernel, rfl, fun h => by cases h⟩⟩
theorem p_X4_62 : FP RX4 62 2 5 .int false := ⟨f_X4_62, fun r hr => by cases hr; exact ⟨by decide +kernel, rfl, fun h => by cases h⟩⟩
theorem p_X4_151 : FP RX4 151 2 6 .int false := ⟨f_X4_151, fun r hr => by cases hr; exact ⟨by decide +kernel, rfl, fun h => by cases h⟩⟩
theorem p_X4_157 : FP RX4 157 2 7 .int false := ⟨f_X4_157, fun r hr => by cases hr; exact ⟨by decide +kernel, rfl, fun h => by cases h⟩⟩
theorem p_X4_160 : FP RX4 160 2 8 .int false := ⟨f_X4_160, fun r hr => by cases hr; exact ⟨by decide +kernel, rfl, fun h => by cases h⟩⟩
theorem p_X5_9 : FP RX5 9 5 0 (.array .long) true := ⟨f_X5_9, fun r hr => by cases hr; exact ⟨by decide +kernel, rfl, fun _ => rfl⟩⟩
theorem p_X5_13 : FP RX5 13 5 1 .int false := ⟨f_X5_13, fun r hr => by cases hr; exact ⟨by decide +kernel, rfl, fun h => by cases h⟩⟩
theorem p_X5_26 : FP RX5 26 5 2 .int false := ⟨f_X5_26, fun r hr => by cases hr; exact ⟨by decide +kernel, rfl, fun h => by cases h⟩⟩
theorem p_X6_11 : FP RX6 11 6 0 (.array .byte) true := ⟨f_X6_11, fun r hr => by cases hr; exact ⟨by decide +kernel, rfl, fun _ => rfl⟩⟩
theorem p_X6_15 : FP RX6 15 6 1 .int false := ⟨f_X6_15, fun r hr => by cases hr; exact ⟨by decide +kernel, rfl, fun h => by cases h⟩⟩
theorem p_X7_9 : FP RX7 9 7 0 (.object "FloodLent$Tape") true := ⟨f_X7_9, fun r hr => by cases hr; exact ⟨by decide +kernel, rfl, fun _ => rfl⟩⟩
theorem p_X7_15 : FP RX7 15 7 1 .int false := ⟨f_X7_15, fun r hr => by cases hr; exact ⟨by decide +kernel, rfl, fun h => by cases h⟩⟩
theorem p_X7_19 : FP RX7 19 7 2 .int false := ⟨f_X7_19, fun r hr => by cases hr; exact ⟨by decide +kernel, rfl, fun h => by cases h⟩⟩
theorem p_X7_22 : FP RX7 22 7 3 .int false := ⟨f_X7_22, fun r hr => by cases hr; exact ⟨by decide +kernel, rfl, fun h => by cases h⟩⟩
theorem p_X7_25 : FP RX7 25 7 4 .int false := ⟨f_X7_25, fun r hr => by cases hr; exact ⟨by decide +kernel, rfl, fun h => by cases h⟩⟩
theorem p_X8_9 : FP RX8 9 8 1 (.array .int) true := ⟨f_X8_9, fun r hr => by cases hr; exact ⟨by decide +kernel, rfl, fun _ => rfl⟩⟩
theorem p_X8_15 : FP RX8 15 8 4 (.array .int) true := ⟨f_X8_15, fun r hr => by cases hr; exact ⟨by decide +kernel, rfl, fun _ => rfl⟩⟩
theorem p_X8_18 : FP RX8 18 8 5 (.array .int) true := ⟨f_X8_18, fun r hr => by cases hr; exact ⟨by decide +kernel, rfl, fun _ => rfl⟩⟩
theorem p_X8_21 : FP RX8 21 8 6 (.array .int) true := ⟨f_X8_21, fun r hr => by cases hr; exact ⟨by decide +kernel, rfl, fun _ => rfl⟩⟩
theorem p_X8_24 : FP RX8 24 8 7 (.array .int) true := ⟨f_X8_24, fun r hr => by cases hr; exact ⟨by decide +kernel, rfl, fun _ => rfl⟩⟩
theorem p_X8_27 : FP RX8 27 8 8 (.array .int) true := ⟨f_X8_27, fun r hr => by cases hr; exact ⟨by decide +kernel, rfl, fun _ => rfl⟩⟩
theorem p_X8_30 : FP RX8 30 8 9 (.array .int) true := ⟨f_X8_30, fun r hr => by cases hr; exact ⟨by decide +kernel, rfl, fun _ => rfl⟩⟩
theorem p_X8_33 : FP RX8 33 8 10 (.array .int) true := ⟨f_X8_33, fun r hr => by cases hr; exact ⟨by decide +kernel, rfl, fun _ => rfl⟩⟩
theorem p_X8_36 : FP RX8 36 8 11 (.array .int) true := ⟨f_X8_36, fun r hr => by cases hr; exact ⟨by decide +kernel, rfl, fun _ => rfl⟩⟩
theorem p_X8_39 : FP RX8 39 8 12 (.array .int) true := ⟨f_X8_39, fun r hr => by cases hr; exact ⟨by decide +kernel, rfl, fun _ => rfl⟩⟩
theorem p_X8_42 : FP RX8 42 8 13 (.array .int) true := ⟨f_X8_42, fun r hr => by cases hr; exact ⟨by decide +kernel, rfl, fun _ => rfl⟩⟩
theorem p_X8_45 : FP RX8 45 8 14 (.array .int) true := ⟨f_X8_45, fun r hr => by cases hr; exact ⟨by decide +kernel, rfl, fun _ => rfl⟩⟩
theorem p_X8_48 : FP RX8 48 8 15 (.array .boolean) true := ⟨f_X8_48, fun r hr => by cases hr; exact ⟨by decide +kernel, rfl, fun _ => rfl⟩⟩
theorem p_X8_52 : FP RX8 52 8 0 (.object "FloodLent$Plain") true := ⟨f_X8_52, fun r hr => by cases hr; exact ⟨by decide +kernel, rfl, fun _ => rfl⟩⟩
theorem p_X8_62 : FP RX8 62 8 2 .int false := ⟨f_X8_62, fun r hr => by cases hr; exact ⟨by decide +kernel, rfl, fun h => by cases h⟩⟩
theorem p_X8_65 : FP RX8 65 8 3 .int false := ⟨f_X8_65, fun r hr => by cases hr; exact ⟨by decide +kernel, rfl, fun h => by cases h⟩⟩
theorem p_X8_87 : FP RX8 87 8 16 .int false := ⟨f_X8_87, fun r hr => by cases hr; exact ⟨by decide +kernel, rfl, fun h => by cases h⟩⟩
theorem p_X8_90 : FP RX8 90 8 17 .int false := ⟨f_X8_90, fun r hr => by cases hr; exact ⟨by decide +kernel, rfl, fun h => by cases h⟩⟩
theorem p_X8_93 : FP RX8 93 8 18 .int false := ⟨f_X8_93, fun r hr => by cases hr; exact ⟨by decide +kernel, rfl, fun h => by cases h⟩⟩
theorem p_X8_96 : FP RX8 96 8 19 .int false := ⟨f_X8_96, fun r hr => by cases hr; exact ⟨by decide +kernel, rfl, fun h => by cases h⟩⟩
theorem p_X9_10 : FP RX9 10 9 0 (.object "FloodLent$Tape") true := ⟨f_X9_10, fun r hr => by cases hr; exact ⟨by decide +kernel, rfl, fun _ => rfl⟩⟩
theorem p_X9_21 : FP RX9 21 9 1 (.object "FloodLent$Scribe") true := ⟨f_X9_21, fun r hr => by cases hr; exact ⟨by decide +kernel, rfl, fun _ => rfl⟩⟩
theorem p_X9_28 : FP RX9 28 9 2 (.object "FloodLent$Plain") true := ⟨f_X9_28, fun r hr => by cases hr; exact ⟨by decide +kernel, rfl, fun _ => rfl⟩⟩
theorem p_X9_32 : FP RX9 32 9 3 (.object "FloodLent$Plain") true := ⟨f_X9_32, fun r hr => by cases hr; exact ⟨by decide +kernel, rfl, fun _ => rfl⟩⟩
theorem p_X9_35 : FP RX9 35 9 4 (.array (.object "FloodLent$Plain")) true := ⟨f_X9_35, fun r hr => by cases hr; exact ⟨by decide +kernel, rfl, fun _ => rfl⟩⟩
theorem p_X9_41 : FP RX9 41 9 5 (.array (.object "FloodLent$Slot")) true := ⟨f_X9_41, fun r hr => by cases hr; exact ⟨by decide +kernel, rfl, fun _ => rfl⟩⟩
theorem p_X9_50 : FP RX9 50 9 6 (.object "FloodLent$Year") true := ⟨f_X9_50, fun r hr => by cases hr; exact ⟨by decide +kernel, rfl, fun _ => rfl⟩⟩
theorem p_X9_59 : FP RX9 59 9 7 (.object "FloodLent$Outcomes") true := ⟨f_X9_59, fun r hr => by cases hr; exact ⟨by decide +kernel, rfl, fun _ => rfl⟩⟩
theorem p_X9_66 : FP RX9 66 9 8 (.object "FloodLent$Debts") true := ⟨f_X9_66, fun r hr => by cases hr; exact ⟨by decide +kernel, rfl, fun _ => rfl⟩⟩
theorem p_X9_78 : FP RX9 78 6 1 .int false := ⟨f_X9_78, fun r hr => by cases hr; exact ⟨by decide +kernel, rfl, fun h => by cases h⟩⟩
theorem p_X9_128 : FP RX9 128 2 7 .int false := ⟨f_X9_128, fun r hr => by cases hr; exact ⟨by decide +kernel, rfl, fun h => by cases h⟩⟩
theorem p_X9_305 : FP RX9 305 8 2 .int false := ⟨f_X9_305, fun r hr => by cases hr; exact ⟨by decide +kernel, rfl, fun h => by cases h⟩⟩
theorem p_X9_308 : FP RX9 308 8 3 .int false := ⟨f_X9_308, fun r hr => by cases hr; exact ⟨by decide +kernel, rfl, fun h => by cases h⟩⟩
theorem cb_X0_init : CB yX0_init cX0_init 3 none 2 := ⟨w_299, w_9, by decide +kernel, by decide +kernel, by decide +kernel⟩
theorem cb_X0_reckon : CB yX0_reckon cX0_reckon 2 none 0 := ⟨w_961, w_9, by decide +kernel, by decide +kernel, by decide +kernel⟩
theorem cb_X0_clearRings : CB yX0_clearRings cX0_clearRings 3 none 0 := ⟨w_991, w_9, by decide +kernel, by decide +kernel, by decide +kernel⟩
theorem cb_X0_bitsOf : CB yX0_bitsOf cX0_bitsOf 2 (some .int) 1 := ⟨w_1024, w_9, by decide +kernel, by decide +kernel, by decide +kernel⟩
theorem cb_X0_findRing : CB yX0_findRing cX0_findRing 4 (some .int) 0 := ⟨w_1000, w_9, by decide +kernel, by decide +kernel, by decide +kernel⟩
theorem cb_X0_closes : CB yX0_closes cX0_closes 7 (some .boolean) 5 := ⟨w_1003, w_9, by decide +kernel, by decide +kernel, by decide +kernel⟩
theorem cb_X0_holds : CB yX0_holds cX0_holds 4 (some .boolean) 3 := ⟨w_1007, w_9, by decide +kernel, by decide +kernel, by decide +kernel⟩
theorem cb_X0_clearRound : CB yX0_clearRound cX0_clearRound 6 (some .int) 1 := ⟨w_1011, w_9, by decide +kernel, by decide +kernel, by decide +kernel⟩
theorem cb_X0_inRound : CB yX0_inRound cX0_inRound 2 (some .int) 1 := ⟨w_1015, w_9, by decide +kernel, by decide +kernel, by decide +kernel⟩
theorem cb_X0_strike : CB yX0_strike cX0_strike 3 none 1 := ⟨w_1036, w_9, by decide +kernel, by decide +kernel, by decide +kernel⟩
theorem cb_X0_payParts : CB yX0_payParts cX0_payParts 8 none 1 := ⟨w_1040, w_9, by decide +kernel, by decide +kernel, by decide +kernel⟩
theorem cb_X0_payInTurn : CB yX0_payInTurn cX0_payInTurn 8 none 2 := ⟨w_1047, w_9, by decide +kernel, by decide +kernel, by decide +kernel⟩
theorem cb_X0_nextToPay : CB yX0_nextToPay cX0_nextToPay 7 (some .int) 3 := ⟨w_1051, w_9, by decide +kernel, by decide +kernel, by decide +kernel⟩
theorem cb_X0_ruined : CB yX0_ruined cX0_ruined 6 (some .int) 0 := ⟨w_1060, w_9, by decide +kernel, by decide +kernel, by decide +kernel⟩
theorem cb_X1_init : CB yX1_init cX1_init 3 none 2 := ⟨w_277, w_8, by decide +kernel, by decide +kernel, by decide +kernel⟩
theorem cb_X1_forget : CB yX1_forget cX1_forget 2 none 0 := ⟨w_568, w_8, by decide +kernel, by decide +kernel, by decide +kernel⟩
theorem cb_X1_total : CB yX1_total cX1_total 3 (some .int) 0 := ⟨w_742, w_8, by decide +kernel, by decide +kernel, by decide +kernel⟩
theorem cb_X1_choices : CB yX1_choices cX1_choices 1 (some .int) 0 := ⟨w_746, w_8, by decide +kernel, by decide +kernel, by decide +kernel⟩
theorem cb_X1_takerIn : CB yX1_takerIn cX1_takerIn 6 (some .int) 2 := ⟨w_765, w_8, by decide +kernel, by decide +kernel, by decide +kernel⟩
theorem cb_X1_codeNow : CB yX1_codeNow cX1_codeNow 3 (some .int) 0 := ⟨w_807, w_8, by decide +kernel, by decide +kernel, by decide +kernel⟩
theorem cb_X1_onlyComing : CB yX1_onlyComing cX1_onlyComing 6 (some .int) 2 := ⟨w_816, w_8, by decide +kernel, by decide +kernel, by decide +kernel⟩
theorem cb_X1_lead : CB yX1_lead cX1_lead 3 none 1 := ⟨w_760, w_8, by decide +kernel, by decide +kernel, by decide +kernel⟩
theorem cb_X1_know : CB yX1_know cX1_know 2 none 1 := ⟨w_753, w_8, by decide +kernel, by decide +kernel, by decide +kernel⟩
theorem cb_X1_knowAll : CB yX1_knowAll cX1_knowAll 3 none 0 := ⟨w_738, w_8, by decide +kernel, by decide +kernel, by decide +kernel⟩
theorem cb_X1_knowWays : CB yX1_knowWays cX1_knowWays 4 none 1 := ⟨w_812, w_8, by decide +kernel, by decide +kernel, by decide +kernel⟩
theorem cb_X1_isCode : CB yX1_isCode cX1_isCode 1 (some .boolean) 1 := ⟨w_756, w_8, by decide +kernel, by decide +kernel, by decide +kernel⟩
theorem cb_X1_broughtBy : CB yX1_broughtBy cX1_broughtBy 2 (some .int) 1 := ⟨w_784, w_8, by decide +kernel, by decide +kernel, by decide +kernel⟩
theorem cb_X1_shortBy : CB yX1_shortBy cX1_shortBy 2 (some .int) 1 := ⟨w_780, w_8, by decide +kernel, by decide +kernel, by decide +kernel⟩
theorem cb_X1_safeCodes : CB yX1_safeCodes cX1_safeCodes 4 (some .int) 0 := ⟨w_798, w_8, by decide +kernel, by decide +kernel, by decide +kernel⟩
theorem cb_X1_bestCode : CB yX1_bestCode cX1_bestCode 4 (some .int) 0 := ⟨w_776, w_8, by decide +kernel, by decide +kernel, by decide +kernel⟩
theorem cb_X1_wiseCode : CB yX1_wiseCode cX1_wiseCode 8 (some .int) 0 := ⟨w_850, w_8, by decide +kernel, by decide +kernel, by decide +kernel⟩
theorem cb_X1_hopeAbove : CB yX1_hopeAbove cX1_hopeAbove 7 (some .long) 1 := ⟨w_824, w_8, by decide +kernel, by decide +kernel, by decide +kernel⟩
theorem cb_X1_hopeBelow : CB yX1_hopeBelow cX1_hopeBelow 4 (some .long) 0 := ⟨w_832, w_8, by decide +kernel, by decide +kernel, by decide +kernel⟩
theorem cb_X1_chance : CB yX1_chance cX1_chance 6 (some .long) 1 := ⟨w_828, w_8, by decide +kernel, by decide +kernel, by decide +kernel⟩
theorem cb_X11_init : CB yX11_init cX11_init 1 none 0 := ⟨w_305, w_10, by decide +kernel, by decide +kernel, by decide +kernel⟩
theorem cb_X11_has : CB yX11_has cX11_has 2 (some .boolean) 2 := ⟨w_978, w_10, by decide +kernel, by decide +kernel, by decide +kernel⟩
theorem cb_X11_at : CB yX11_at cX11_at 3 (some .int) 2 := ⟨w_975, w_10, by decide +kernel, by decide +kernel, by decide +kernel⟩
theorem cb_X11_put : CB yX11_put cX11_put 4 none 3 := ⟨w_982, w_10, by decide +kernel, by decide +kernel, by decide +kernel⟩
theorem cb_X11_add : CB yX11_add cX11_add 4 none 3 := ⟨w_971, w_10, by decide +kernel, by decide +kernel, by decide +kernel⟩
theorem cb_X11_inAll : CB yX11_inAll cX11_inAll 1 (some .int) 0 := ⟨w_1055, w_10, by decide +kernel, by decide +kernel, by decide +kernel⟩
theorem cb_X11_clear : CB yX11_clear cX11_clear 1 none 0 := ⟨w_965, w_10, by decide +kernel, by decide +kernel, by decide +kernel⟩
theorem cb_X11_copy : CB yX11_copy cX11_copy 2 none 1 := ⟨w_995, w_10, by decide +kernel, by decide +kernel, by decide +kernel⟩
theorem cb_X2_init : CB yX2_init cX2_init 1 none 0 := ⟨w_100, w_5, by decide +kernel, by decide +kernel, by decide +kernel⟩
theorem cb_X2_clear : CB yX2_clear cX2_clear 1 none 0 := ⟨w_399, w_5, by decide +kernel, by decide +kernel, by decide +kernel⟩
theorem cb_X2_copy : CB yX2_copy cX2_copy 2 none 1 := ⟨w_555, w_5, by decide +kernel, by decide +kernel, by decide +kernel⟩
theorem cb_X2_shines : CB yX2_shines cX2_shines 3 none 2 := ⟨w_551, w_5, by decide +kernel, by decide +kernel, by decide +kernel⟩
theorem cb_X2_sunIn : CB yX2_sunIn cX2_sunIn 2 (some .int) 1 := ⟨w_692, w_5, by decide +kernel, by decide +kernel, by decide +kernel⟩
theorem cb_X3_init : CB yX3_init cX3_init 3 none 2 := ⟨w_106, w_6, by decide +kernel, by decide +kernel, by decide +kernel⟩
theorem cb_X3_isFull : CB yX3_isFull cX3_isFull 1 (some .boolean) 0 := ⟨w_517, w_6, by decide +kernel, by decide +kernel, by decide +kernel⟩
theorem cb_X3_has : CB yX3_has cX3_has 2 (some .boolean) 1 := ⟨w_584, w_6, by decide +kernel, by decide +kernel, by decide +kernel⟩
theorem cb_X3_add : CB yX3_add cX3_add 3 none 1 := ⟨w_541, w_6, by decide +kernel, by decide +kernel, by decide +kernel⟩
theorem cb_X3_at : CB yX3_at cX3_at 3 (some .int) 2 := ⟨w_588, w_6, by decide +kernel, by decide +kernel, by decide +kernel⟩
theorem cb_X3_put : CB yX3_put cX3_put 4 none 3 := ⟨w_546, w_6, by decide +kernel, by decide +kernel, by decide +kernel⟩
theorem cb_X3_copy : CB yX3_copy cX3_copy 2 none 1 := ⟨w_559, w_6, by decide +kernel, by decide +kernel, by decide +kernel⟩
theorem cb_X4_init : CB yX4_init cX4_init 2 none 1 := ⟨w_50, w_3, by decide +kernel, by decide +kernel, by decide +kernel⟩
theorem cb_X4_reads : CB yX4_reads cX4_reads 3 (some .boolean) 1 := ⟨w_395, w_3, by decide +kernel, by decide +kernel, by decide +kernel⟩
theorem cb_X4_readsLine : CB yX4_readsLine cX4_readsLine 7 (some .boolean) 1 := ⟨w_435, w_3, by decide +kernel, by decide +kernel, by decide +kernel⟩
theorem cb_X4_readsWord : CB yX4_readsWord cX4_readsWord 3 (some .boolean) 2 := ⟨w_533, w_3, by decide +kernel, by decide +kernel, by decide +kernel⟩
theorem cb_X4_readsNumber : CB yX4_readsNumber cX4_readsNumber 5 (some .boolean) 3 := ⟨w_521, w_3, by decide +kernel, by decide +kernel, by decide +kernel⟩
theorem cb_X4_fails : CB yX4_fails cX4_fails 2 (some .boolean) 1 := ⟨w_510, w_3, by decide +kernel, by decide +kernel, by decide +kernel⟩
theorem cb_X4_lineOfWord : CB yX4_lineOfWord cX4_lineOfWord 3 (some .int) 0 := ⟨w_439, w_3, by decide +kernel, by decide +kernel, by decide +kernel⟩
theorem cb_X4_formOf : CB yX4_formOf cX4_formOf 1 (some (.object "java/lang/String")) 1 := ⟨w_442, w_3, by decide +kernel, by decide +kernel, by decide +kernel⟩
theorem cb_X4_wordEnd : CB yX4_wordEnd cX4_wordEnd 3 (some .int) 2 := ⟨w_452, w_3, by decide +kernel, by decide +kernel, by decide +kernel⟩
theorem cb_X4_isFull : CB yX4_isFull cX4_isFull 2 (some .boolean) 2 := ⟨w_513, w_3, by decide +kernel, by decide +kernel, by decide +kernel⟩
theorem cb_X4_least : CB yX4_least cX4_least 3 (some .int) 2 := ⟨w_525, w_3, by decide +kernel, by decide +kernel, by decide +kernel⟩
theorem cb_X4_most : CB yX4_most cX4_most 6 (some .int) 3 := ⟨w_529, w_3, by decide +kernel, by decide +kernel, by decide +kernel⟩
theorem cb_X4_keep : CB yX4_keep cX4_keep 3 none 2 := ⟨w_537, w_3, by decide +kernel, by decide +kernel, by decide +kernel⟩
theorem cb_X5_init : CB yX5_init cX5_init 1 none 0 := ⟨w_1114, w_20, by decide +kernel, by decide +kernel, by decide +kernel⟩
theorem cb_X5_begin : CB yX5_begin cX5_begin 3 none 2 := ⟨w_1133, w_20, by decide +kernel, by decide +kernel, by decide +kernel⟩
theorem cb_X5_has : CB yX5_has cX5_has 2 (some .boolean) 1 := ⟨w_878, w_20, by decide +kernel, by decide +kernel, by decide +kernel⟩
theorem cb_X5_hasAll : CB yX5_hasAll cX5_hasAll 3 (some .boolean) 2 := ⟨w_1159, w_20, by decide +kernel, by decide +kernel, by decide +kernel⟩
theorem cb_X5_number : CB yX5_number cX5_number 2 (some .long) 1 := ⟨w_874, w_20, by decide +kernel, by decide +kernel, by decide +kernel⟩
theorem cb_X5_put : CB yX5_put cX5_put 4 none 2 := ⟨w_1147, w_20, by decide +kernel, by decide +kernel, by decide +kernel⟩
theorem cb_X5_cut : CB yX5_cut cX5_cut 3 (some .long) 1 := ⟨w_1151, w_20, by decide +kernel, by decide +kernel, by decide +kernel⟩
theorem cb_X6_init : CB yX6_init cX6_init 1 none 0 := ⟨w_33, w_2, by decide +kernel, by decide +kernel, by decide +kernel⟩
theorem cb_X6_hasPlaceFor : CB yX6_hasPlaceFor cX6_hasPlaceFor 2 (some .boolean) 1 := ⟨w_379, w_2, by decide +kernel, by decide +kernel, by decide +kernel⟩
theorem cb_X6_append : CB yX6_append cX6_append 3 none 1 := ⟨w_383, w_2, by decide +kernel, by decide +kernel, by decide +kernel⟩
theorem cb_X6_at : CB yX6_at cX6_at 2 (some .int) 1 := ⟨w_414, w_2, by decide +kernel, by decide +kernel, by decide +kernel⟩
theorem cb_X7_init : CB yX7_init cX7_init 2 none 1 := ⟨w_56, w_4, by decide +kernel, by decide +kernel, by decide +kernel⟩
theorem cb_X7_begin : CB yX7_begin cX7_begin 1 none 0 := ⟨w_406, w_4, by decide +kernel, by decide +kernel, by decide +kernel⟩
theorem cb_X7_step : CB yX7_step cX7_step 2 none 0 := ⟨w_410, w_4, by decide +kernel, by decide +kernel, by decide +kernel⟩
theorem cb_X7_stepNumber : CB yX7_stepNumber cX7_stepNumber 1 none 0 := ⟨w_427, w_4, by decide +kernel, by decide +kernel, by decide +kernel⟩
theorem cb_X7_isWord : CB yX7_isWord cX7_isWord 5 (some .boolean) 3 := ⟨w_504, w_4, by decide +kernel, by decide +kernel, by decide +kernel⟩
theorem cb_X7_isBlank : CB yX7_isBlank cX7_isBlank 1 (some .boolean) 1 := ⟨w_417, w_4, by decide +kernel, by decide +kernel, by decide +kernel⟩
theorem cb_X7_isLetter : CB yX7_isLetter cX7_isLetter 1 (some .boolean) 1 := ⟨w_420, w_4, by decide +kernel, by decide +kernel, by decide +kernel⟩
theorem cb_X7_isDigit : CB yX7_isDigit cX7_isDigit 1 (some .boolean) 1 := ⟨w_423, w_4, by decide +kernel, by decide +kernel, by decide +kernel⟩
theorem cb_X8_init : CB yX8_init cX8_init 2 none 1 := ⟨w_189, w_7, by decide +kernel, by decide +kernel, by decide +kernel⟩
theorem cb_X8_begin : CB yX8_begin cX8_begin 2 none 0 := ⟨w_629, w_7, by decide +kernel, by decide +kernel, by decide +kernel⟩
theorem cb_X8_run : CB yX8_run cX8_run 2 none 0 := ⟨w_635, w_7, by decide +kernel, by decide +kernel, by decide +kernel⟩
theorem cb_X8_pass : CB yX8_pass cX8_pass 2 none 1 := ⟨w_639, w_7, by decide +kernel, by decide +kernel, by decide +kernel⟩
theorem cb_X8_waterBehind : CB yX8_waterBehind cX8_waterBehind 3 (some .int) 2 := ⟨w_704, w_7, by decide +kernel, by decide +kernel, by decide +kernel⟩
theorem cb_X8_waterOf : CB yX8_waterOf cX8_waterOf 2 (some .int) 1 := ⟨w_651, w_7, by decide +kernel, by decide +kernel, by decide +kernel⟩
theorem cb_X8_add : CB yX8_add cX8_add 3 none 2 := ⟨w_660, w_7, by decide +kernel, by decide +kernel, by decide +kernel⟩
theorem cb_X8_wasDry : CB yX8_wasDry cX8_wasDry 2 (some .boolean) 1 := ⟨w_945, w_7, by decide +kernel, by decide +kernel, by decide +kernel⟩
theorem cb_X8_shortInAll : CB yX8_shortInAll cX8_shortInAll 1 (some .int) 0 := ⟨w_771, w_7, by decide +kernel, by decide +kernel, by decide +kernel⟩
theorem cb_X8_roomOf : CB yX8_roomOf cX8_roomOf 2 (some .int) 1 := ⟨w_647, w_7, by decide +kernel, by decide +kernel, by decide +kernel⟩
theorem cb_X8_withMore : CB yX8_withMore cX8_withMore 2 (some .int) 1 := ⟨w_656, w_7, by decide +kernel, by decide +kernel, by decide +kernel⟩
theorem cb_X8_noteTrouble : CB yX8_noteTrouble cX8_noteTrouble 2 none 1 := ⟨w_672, w_7, by decide +kernel, by decide +kernel, by decide +kernel⟩
theorem cb_X8_takeFloods : CB yX8_takeFloods cX8_takeFloods 4 none 1 := ⟨w_643, w_7, by decide +kernel, by decide +kernel, by decide +kernel⟩
theorem cb_X8_lendOn : CB yX8_lendOn cX8_lendOn 6 none 1 := ⟨w_664, w_7, by decide +kernel, by decide +kernel, by decide +kernel⟩
theorem cb_X8_repayTill : CB yX8_repayTill cX8_repayTill 6 none 1 := ⟨w_668, w_7, by decide +kernel, by decide +kernel, by decide +kernel⟩
theorem cb_X8_giveBack : CB yX8_giveBack cX8_giveBack 4 none 1 := ⟨w_676, w_7, by decide +kernel, by decide +kernel, by decide +kernel⟩
theorem cb_X8_drinkCrops : CB yX8_drinkCrops cX8_drinkCrops 5 none 1 := ⟨w_680, w_7, by decide +kernel, by decide +kernel, by decide +kernel⟩
theorem cb_X8_staysDry : CB yX8_staysDry cX8_staysDry 4 none 3 := ⟨w_684, w_7, by decide +kernel, by decide +kernel, by decide +kernel⟩
theorem cb_X8_drinkSky : CB yX8_drinkSky cX8_drinkSky 5 none 1 := ⟨w_688, w_7, by decide +kernel, by decide +kernel, by decide +kernel⟩
theorem cb_X8_seepAway : CB yX8_seepAway cX8_seepAway 5 none 0 := ⟨w_696, w_7, by decide +kernel, by decide +kernel, by decide +kernel⟩
theorem cb_X8_noteWater : CB yX8_noteWater cX8_noteWater 3 none 1 := ⟨w_700, w_7, by decide +kernel, by decide +kernel, by decide +kernel⟩
theorem cb_X9_init : CB yX9_init cX9_init 1 none 0 := ⟨w_25, w_1, by decide +kernel, by decide +kernel, by decide +kernel⟩
theorem cb_X9_feed : CB yX9_feed cX9_feed 6 (some .int) 5 := ⟨w_375, w_1, by decide +kernel, by decide +kernel, by decide +kernel⟩
theorem cb_X9_end : CB yX9_end cX9_end 2 (some .int) 1 := ⟨w_387, w_1, by decide +kernel, by decide +kernel, by decide +kernel⟩
theorem cb_X9_plain : CB yX9_plain cX9_plain 2 (some .int) 0 := ⟨w_391, w_1, by decide +kernel, by decide +kernel, by decide +kernel⟩
theorem cb_X9_fault : CB yX9_fault cX9_fault 2 (some .int) 1 := ⟨w_572, w_1, by decide +kernel, by decide +kernel, by decide +kernel⟩
theorem cb_X9_village : CB yX9_village cX9_village 3 (some .int) 2 := ⟨w_576, w_1, by decide +kernel, by decide +kernel, by decide +kernel⟩
theorem cb_X9_takes : CB yX9_takes cX9_takes 4 (some .int) 2 := ⟨w_592, w_1, by decide +kernel, by decide +kernel, by decide +kernel⟩
theorem cb_X9_more : CB yX9_more cX9_more 3 (some .int) 1 := ⟨w_601, w_1, by decide +kernel, by decide +kernel, by decide +kernel⟩
theorem cb_X9_count : CB yX9_count cX9_count 2 (some .int) 1 := ⟨w_609, w_1, by decide +kernel, by decide +kernel, by decide +kernel⟩
theorem cb_X9_slotsWithRows : CB yX9_slotsWithRows cX9_slotsWithRows 3 (some .int) 0 := ⟨w_613, w_1, by decide +kernel, by decide +kernel, by decide +kernel⟩
theorem cb_X9_hasPlain : CB yX9_hasPlain cX9_hasPlain 1 (some .boolean) 0 := ⟨w_605, w_1, by decide +kernel, by decide +kernel, by decide +kernel⟩
theorem cb_X9_hasVillage : CB yX9_hasVillage cX9_hasVillage 2 (some .boolean) 1 := ⟨w_580, w_1, by decide +kernel, by decide +kernel, by decide +kernel⟩
theorem cb_X9_hasFlood : CB yX9_hasFlood cX9_hasFlood 2 (some .boolean) 1 := ⟨w_596, w_1, by decide +kernel, by decide +kernel, by decide +kernel⟩
theorem cb_X9_hasWeek : CB yX9_hasWeek cX9_hasWeek 2 (some .boolean) 1 := ⟨w_621, w_1, by decide +kernel, by decide +kernel, by decide +kernel⟩
theorem cb_X9_goThroughYear : CB yX9_goThroughYear cX9_goThroughYear 1 none 0 := ⟨w_625, w_1, by decide +kernel, by decide +kernel, by decide +kernel⟩
theorem cb_X9_water : CB yX9_water cX9_water 3 (some .int) 2 := ⟨w_617, w_1, by decide +kernel, by decide +kernel, by decide +kernel⟩
theorem cb_X9_flood : CB yX9_flood cX9_flood 3 (some .int) 2 := ⟨w_708, w_1, by decide +kernel, by decide +kernel, by decide +kernel⟩
theorem cb_X9_loan : CB yX9_loan cX9_loan 3 (some .int) 2 := ⟨w_715, w_1, by decide +kernel, by decide +kernel, by decide +kernel⟩
theorem cb_X9_account : CB yX9_account cX9_account 4 (some .int) 4 := ⟨w_711, w_1, by decide +kernel, by decide +kernel, by decide +kernel⟩
theorem cb_X9_crop : CB yX9_crop cX9_crop 3 (some .int) 2 := ⟨w_719, w_1, by decide +kernel, by decide +kernel, by decide +kernel⟩
theorem cb_X9_sum : CB yX9_sum cX9_sum 2 (some .int) 1 := ⟨w_723, w_1, by decide +kernel, by decide +kernel, by decide +kernel⟩
theorem cb_X9_first : CB yX9_first cX9_first 1 (some .int) 0 := ⟨w_730, w_1, by decide +kernel, by decide +kernel, by decide +kernel⟩
theorem cb_X9_together : CB yX9_together cX9_together 6 (some .int) 1 := ⟨w_726, w_1, by decide +kernel, by decide +kernel, by decide +kernel⟩
theorem cb_X9_best : CB yX9_best cX9_best 2 (some .int) 0 := ⟨w_734, w_1, by decide +kernel, by decide +kernel, by decide +kernel⟩
theorem cb_X9_taker : CB yX9_taker cX9_taker 3 (some .int) 1 := ⟨w_789, w_1, by decide +kernel, by decide +kernel, by decide +kernel⟩
theorem cb_X9_safe : CB yX9_safe cX9_safe 1 (some .int) 0 := ⟨w_794, w_1, by decide +kernel, by decide +kernel, by decide +kernel⟩
theorem cb_X9_hope : CB yX9_hope cX9_hope 3 (some .long) 1 := ⟨w_802, w_1, by decide +kernel, by decide +kernel, by decide +kernel⟩
theorem cb_X9_wise : CB yX9_wise cX9_wise 2 (some .int) 1 := ⟨w_846, w_1, by decide +kernel, by decide +kernel, by decide +kernel⟩
theorem cb_X9_wisest : CB yX9_wisest cX9_wisest 2 (some .long) 1 := ⟨w_855, w_1, by decide +kernel, by decide +kernel, by decide +kernel⟩
theorem cb_X9_fraction : CB yX9_fraction cX9_fraction 9 (some .long) 2 := ⟨w_820, w_1, by decide +kernel, by decide +kernel, by decide +kernel⟩
theorem cb_X9_commonDivisor : CB yX9_commonDivisor cX9_commonDivisor 11 (some .long) 2 := ⟨w_839, w_1, by decide +kernel, by decide +kernel, by decide +kernel⟩
theorem cb_X9_agree : CB yX9_agree cX9_agree 6 (some .int) 1 := ⟨w_859, w_1, by decide +kernel, by decide +kernel, by decide +kernel⟩
theorem cb_X9_who : CB yX9_who cX9_who 9 (some .int) 2 := ⟨w_892, w_1, by decide +kernel, by decide +kernel, by decide +kernel⟩
theorem cb_X9_sure : CB yX9_sure cX9_sure 9 (some .int) 3 := ⟨w_896, w_1, by decide +kernel, by decide +kernel, by decide +kernel⟩
theorem cb_X9_needed : CB yX9_needed cX9_needed 7 (some .int) 1 := ⟨w_900, w_1, by decide +kernel, by decide +kernel, by decide +kernel⟩
theorem cb_X9_marksWrong : CB yX9_marksWrong cX9_marksWrong 9 (some .int) 2 := ⟨w_863, w_1, by decide +kernel, by decide +kernel, by decide +kernel⟩
theorem cb_X9_goThroughYearBy : CB yX9_goThroughYearBy cX9_goThroughYearBy 2 none 1 := ⟨w_883, w_1, by decide +kernel, by decide +kernel, by decide +kernel⟩
theorem cb_X9_missed : CB yX9_missed cX9_missed 7 (some .int) 1 := ⟨w_888, w_1, by decide +kernel, by decide +kernel, by decide +kernel⟩
theorem cb_X9_fair : CB yX9_fair cX9_fair 3 (some .int) 1 := ⟨w_905, w_1, by decide +kernel, by decide +kernel, by decide +kernel⟩
theorem cb_X9_wealth : CB yX9_wealth cX9_wealth 6 (some .int) 3 := ⟨w_909, w_1, by decide +kernel, by decide +kernel, by decide +kernel⟩
theorem cb_X9_melons : CB yX9_melons cX9_melons 3 (some .int) 1 := ⟨w_914, w_1, by decide +kernel, by decide +kernel, by decide +kernel⟩
theorem cb_X9_firstDrink : CB yX9_firstDrink cX9_firstDrink 3 (some .int) 1 := ⟨w_918, w_1, by decide +kernel, by decide +kernel, by decide +kernel⟩
theorem cb_X9_shortOf : CB yX9_shortOf cX9_shortOf 4 (some .int) 1 := ⟨w_922, w_1, by decide +kernel, by decide +kernel, by decide +kernel⟩
theorem cb_X9_share : CB yX9_share cX9_share 5 (some .int) 1 := ⟨w_926, w_1, by decide +kernel, by decide +kernel, by decide +kernel⟩
theorem cb_X9_cutShare : CB yX9_cutShare cX9_cutShare 4 (some .int) 1 := ⟨w_930, w_1, by decide +kernel, by decide +kernel, by decide +kernel⟩
theorem cb_X9_enough : CB yX9_enough cX9_enough 4 (some .int) 1 := ⟨w_935, w_1, by decide +kernel, by decide +kernel, by decide +kernel⟩
theorem cb_X9_neverDry : CB yX9_neverDry cX9_neverDry 4 (some .boolean) 2 := ⟨w_939, w_1, by decide +kernel, by decide +kernel, by decide +kernel⟩
theorem cb_X9_reckonDebts : CB yX9_reckonDebts cX9_reckonDebts 1 none 0 := ⟨w_957, w_1, by decide +kernel, by decide +kernel, by decide +kernel⟩
theorem cb_X9_arePair : CB yX9_arePair cX9_arePair 3 (some .boolean) 2 := ⟨w_953, w_1, by decide +kernel, by decide +kernel, by decide +kernel⟩
theorem cb_X9_owes : CB yX9_owes cX9_owes 3 (some .int) 2 := ⟨w_949, w_1, by decide +kernel, by decide +kernel, by decide +kernel⟩
theorem cb_X9_rings : CB yX9_rings cX9_rings 2 (some .int) 1 := ⟨w_987, w_1, by decide +kernel, by decide +kernel, by decide +kernel⟩
theorem cb_X9_ring : CB yX9_ring cX9_ring 2 (some .int) 1 := ⟨w_1020, w_1, by decide +kernel, by decide +kernel, by decide +kernel⟩
theorem cb_X9_left : CB yX9_left cX9_left 3 (some .int) 2 := ⟨w_1028, w_1, by decide +kernel, by decide +kernel, by decide +kernel⟩
theorem cb_X9_struck : CB yX9_struck cX9_struck 3 (some .int) 2 := ⟨w_1032, w_1, by decide +kernel, by decide +kernel, by decide +kernel⟩
theorem cb_X9_pays : CB yX9_pays cX9_pays 4 (some .int) 3 := ⟨w_1064, w_1, by decide +kernel, by decide +kernel, by decide +kernel⟩
theorem cb_X9_law : CB yX9_law cX9_law 5 (some .int) 0 := ⟨w_1068, w_1, by decide +kernel, by decide +kernel, by decide +kernel⟩
theorem cb_X9_isSeed : CB yX9_isSeed cX9_isSeed 1 (some .boolean) 1 := ⟨w_1081, w_1, by decide +kernel, by decide +kernel, by decide +kernel⟩
theorem cb_X9_year : CB yX9_year cX9_year 5 (some .int) 2 := ⟨w_1078, w_1, by decide +kernel, by decide +kernel, by decide +kernel⟩
theorem cb_X9_years : CB yX9_years cX9_years 7 (some .int) 2 := ⟨w_1098, w_1, by decide +kernel, by decide +kernel, by decide +kernel⟩
theorem cb_X9_drawn : CB yX9_drawn cX9_drawn 6 (some .int) 1 := ⟨w_1086, w_1, by decide +kernel, by decide +kernel, by decide +kernel⟩
theorem cb_X9_image : CB yX9_image cX9_image 2 (some .int) 1 := ⟨w_1102, w_1, by decide +kernel, by decide +kernel, by decide +kernel⟩
theorem cb_X9_restore : CB yX9_restore cX9_restore 2 (some .int) 1 := ⟨w_1106, w_1, by decide +kernel, by decide +kernel, by decide +kernel⟩
theorem cb_X9_isSlot : CB yX9_isSlot cX9_isSlot 1 (some .boolean) 1 := ⟨w_866, w_1, by decide +kernel, by decide +kernel, by decide +kernel⟩
theorem cb_X9_slotAt : CB yX9_slotAt cX9_slotAt 2 (some (.object "FloodLent$Slot")) 1 := ⟨w_870, w_1, by decide +kernel, by decide +kernel, by decide +kernel⟩
theorem cb_X9_row : CB yX9_row cX9_row 4 (some .int) 3 := ⟨w_1110, w_1, by decide +kernel, by decide +kernel, by decide +kernel⟩
theorem cb_X9_write : CB yX9_write cX9_write 6 (some .int) 3 := ⟨w_1142, w_1, by decide +kernel, by decide +kernel, by decide +kernel⟩
theorem cb_X9_paste : CB yX9_paste cX9_paste 8 (some .int) 5 := ⟨w_1155, w_1, by decide +kernel, by decide +kernel, by decide +kernel⟩
theorem cb_X10_init : CB yX10_init cX10_init 1 none 0 := ⟨w_1165, w_11, by decide +kernel, by decide +kernel, by decide +kernel⟩
theorem cb_X10_in : CB yX10_in cX10_in 6 (some .boolean) 3 := ⟨w_1294, w_11, by decide +kernel, by decide +kernel, by decide +kernel⟩
theorem cb_X10_image : CB yX10_image cX10_image 3 (some .int) 1 := ⟨w_1290, w_11, by decide +kernel, by decide +kernel, by decide +kernel⟩
theorem cb_X10_restore : CB yX10_restore cX10_restore 3 (some .int) 1 := ⟨w_1298, w_11, by decide +kernel, by decide +kernel, by decide +kernel⟩
theorem cb_X10_isPlain : CB yX10_isPlain cX10_isPlain 1 (some .boolean) 0 := ⟨w_1528, w_11, by decide +kernel, by decide +kernel, by decide +kernel⟩
theorem cb_X10_villages : CB yX10_villages cX10_villages 1 (some .int) 0 := ⟨w_1422, w_11, by decide +kernel, by decide +kernel, by decide +kernel⟩
theorem cb_X10_isVillage : CB yX10_isVillage cX10_isVillage 2 (some .boolean) 1 := ⟨w_1418, w_11, by decide +kernel, by decide +kernel, by decide +kernel⟩
theorem cb_X10_isWeek : CB yX10_isWeek cX10_isWeek 2 (some .boolean) 1 := ⟨w_1443, w_11, by decide +kernel, by decide +kernel, by decide +kernel⟩
theorem cb_X10_isFlood : CB yX10_isFlood cX10_isFlood 2 (some .boolean) 1 := ⟨w_1435, w_11, by decide +kernel, by decide +kernel, by decide +kernel⟩
theorem cb_X10_areTwo : CB yX10_areTwo cX10_areTwo 3 (some .boolean) 2 := ⟨w_1670, w_11, by decide +kernel, by decide +kernel, by decide +kernel⟩
theorem cb_X10_of : CB yX10_of cX10_of 3 (some .int) 2 := ⟨w_1427, w_11, by decide +kernel, by decide +kernel, by decide +kernel⟩
theorem cb_X10_ofCrop : CB yX10_ofCrop cX10_ofCrop 3 (some .int) 2 := ⟨w_1495, w_11, by decide +kernel, by decide +kernel, by decide +kernel⟩
theorem cb_X10_ofFlood : CB yX10_ofFlood cX10_ofFlood 3 (some .int) 2 := ⟨w_1463, w_11, by decide +kernel, by decide +kernel, by decide +kernel⟩
theorem cb_X10_ofLoan : CB yX10_ofLoan cX10_ofLoan 3 (some .int) 2 := ⟨w_1479, w_11, by decide +kernel, by decide +kernel, by decide +kernel⟩
theorem cb_X10_feed : CB yX10_feed cX10_feed 7 (some .int) 5 := ⟨w_1302, w_11, by decide +kernel, by decide +kernel, by decide +kernel⟩
theorem cb_X10_end : CB yX10_end cX10_end 2 (some .int) 1 := ⟨w_1306, w_11, by decide +kernel, by decide +kernel, by decide +kernel⟩
theorem cb_X10_see : CB yX10_see cX10_see 2 (some .int) 1 := ⟨w_1322, w_11, by decide +kernel, by decide +kernel, by decide +kernel⟩
theorem cb_X10_advance : CB yX10_advance cX10_advance 2 none 0 := ⟨w_1318, w_11, by decide +kernel, by decide +kernel, by decide +kernel⟩
theorem cb_X10_good : CB yX10_good cX10_good 1 (some .boolean) 0 := ⟨w_1332, w_11, by decide +kernel, by decide +kernel, by decide +kernel⟩
theorem cb_X10_errs : CB yX10_errs cX10_errs 2 none 1 := ⟨w_1355, w_11, by decide +kernel, by decide +kernel, by decide +kernel⟩
theorem cb_X10_is : CB yX10_is cX10_is 4 (some .boolean) 1 := ⟨w_1349, w_11, by decide +kernel, by decide +kernel, by decide +kernel⟩
theorem cb_X10_takes : CB yX10_takes cX10_takes 3 (some .boolean) 1 := ⟨w_1345, w_11, by decide +kernel, by decide +kernel, by decide +kernel⟩
theorem cb_X10_needs : CB yX10_needs cX10_needs 2 none 1 := ⟨w_1341, w_11, by decide +kernel, by decide +kernel, by decide +kernel⟩
theorem cb_X10_number : CB yX10_number cX10_number 4 (some .int) 2 := ⟨w_1364, w_11, by decide +kernel, by decide +kernel, by decide +kernel⟩
theorem cb_X10_told : CB yX10_told cX10_told 4 (some .int) 3 := ⟨w_1360, w_11, by decide +kernel, by decide +kernel, by decide +kernel⟩
theorem cb_X10_fault : CB yX10_fault cX10_fault 2 (some .int) 1 := ⟨w_1310, w_11, by decide +kernel, by decide +kernel, by decide +kernel⟩
theorem cb_X10_freshVillage : CB yX10_freshVillage cX10_freshVillage 1 (some .int) 0 := ⟨w_1392, w_11, by decide +kernel, by decide +kernel, by decide +kernel⟩
theorem cb_X10_readVillage : CB yX10_readVillage cX10_readVillage 2 none 0 := ⟨w_1380, w_11, by decide +kernel, by decide +kernel, by decide +kernel⟩
theorem cb_X10_readCrop : CB yX10_readCrop cX10_readCrop 2 none 0 := ⟨w_1388, w_11, by decide +kernel, by decide +kernel, by decide +kernel⟩
theorem cb_X10_readFlood : CB yX10_readFlood cX10_readFlood 2 none 0 := ⟨w_1401, w_11, by decide +kernel, by decide +kernel, by decide +kernel⟩
theorem cb_X10_readLoan : CB yX10_readLoan cX10_readLoan 3 none 0 := ⟨w_1406, w_11, by decide +kernel, by decide +kernel, by decide +kernel⟩
theorem cb_X10_readNext : CB yX10_readNext cX10_readNext 3 none 0 := ⟨w_1370, w_11, by decide +kernel, by decide +kernel, by decide +kernel⟩
theorem cb_X10_readLine : CB yX10_readLine cX10_readLine 1 none 0 := ⟨w_1336, w_11, by decide +kernel, by decide +kernel, by decide +kernel⟩
theorem cb_X10_plain : CB yX10_plain cX10_plain 2 (some .int) 0 := ⟨w_1314, w_11, by decide +kernel, by decide +kernel, by decide +kernel⟩
theorem cb_X10_room : CB yX10_room cX10_room 2 (some .int) 1 := ⟨w_1467, w_11, by decide +kernel, by decide +kernel, by decide +kernel⟩
theorem cb_X10_owed : CB yX10_owed cX10_owed 2 (some .int) 1 := ⟨w_1471, w_11, by decide +kernel, by decide +kernel, by decide +kernel⟩
theorem cb_X10_takerNow : CB yX10_takerNow cX10_takerNow 2 (some .int) 1 := ⟨w_1459, w_11, by decide +kernel, by decide +kernel, by decide +kernel⟩
theorem cb_X10_wrongIn : CB yX10_wrongIn cX10_wrongIn 2 none 1 := ⟨w_1487, w_11, by decide +kernel, by decide +kernel, by decide +kernel⟩
theorem cb_X10_floodsIn : CB yX10_floodsIn cX10_floodsIn 4 none 1 := ⟨w_1455, w_11, by decide +kernel, by decide +kernel, by decide +kernel⟩
theorem cb_X10_loansIn : CB yX10_loansIn cX10_loansIn 6 none 1 := ⟨w_1475, w_11, by decide +kernel, by decide +kernel, by decide +kernel⟩
theorem cb_X10_dueIn : CB yX10_dueIn cX10_dueIn 6 none 1 := ⟨w_1483, w_11, by decide +kernel, by decide +kernel, by decide +kernel⟩
theorem cb_X10_cropsIn : CB yX10_cropsIn cX10_cropsIn 4 none 1 := ⟨w_1491, w_11, by decide +kernel, by decide +kernel, by decide +kernel⟩
theorem cb_X10_losesIn : CB yX10_losesIn cX10_losesIn 5 none 1 := ⟨w_1499, w_11, by decide +kernel, by decide +kernel, by decide +kernel⟩
theorem cb_X10_runs : CB yX10_runs cX10_runs 4 none 1 := ⟨w_1451, w_11, by decide +kernel, by decide +kernel, by decide +kernel⟩
theorem cb_X10_year : CB yX10_year cX10_year 1 none 0 := ⟨w_1447, w_11, by decide +kernel, by decide +kernel, by decide +kernel⟩
theorem cb_X10_brought : CB yX10_brought cX10_brought 3 (some .int) 0 := ⟨w_1533, w_11, by decide +kernel, by decide +kernel, by decide +kernel⟩
theorem cb_X10_shortOfFlood : CB yX10_shortOfFlood cX10_shortOfFlood 2 (some .int) 1 := ⟨w_1508, w_11, by decide +kernel, by decide +kernel, by decide +kernel⟩
theorem cb_X10_shortOfLoan : CB yX10_shortOfLoan cX10_shortOfLoan 2 (some .int) 1 := ⟨w_1516, w_11, by decide +kernel, by decide +kernel, by decide +kernel⟩
theorem cb_X10_shortOfFloods : CB yX10_shortOfFloods cX10_shortOfFloods 3 (some .int) 0 := ⟨w_1537, w_11, by decide +kernel, by decide +kernel, by decide +kernel⟩
theorem cb_X10_shortOfLoans : CB yX10_shortOfLoans cX10_shortOfLoans 3 (some .int) 0 := ⟨w_1541, w_11, by decide +kernel, by decide +kernel, by decide +kernel⟩
theorem cb_X10_shortOfAll : CB yX10_shortOfAll cX10_shortOfAll 1 (some .int) 0 := ⟨w_1573, w_11, by decide +kernel, by decide +kernel, by decide +kernel⟩
theorem cb_X10_village : CB yX10_village cX10_village 3 (some .int) 2 := ⟨w_1414, w_11, by decide +kernel, by decide +kernel, by decide +kernel⟩
theorem cb_X10_takes_ : CB yX10_takes_ cX10_takes_ 4 (some .int) 2 := ⟨w_1431, w_11, by decide +kernel, by decide +kernel, by decide +kernel⟩
theorem cb_X10_water : CB yX10_water cX10_water 3 (some .int) 2 := ⟨w_1439, w_11, by decide +kernel, by decide +kernel, by decide +kernel⟩
theorem cb_X10_flood : CB yX10_flood cX10_flood 3 (some .int) 2 := ⟨w_1503, w_11, by decide +kernel, by decide +kernel, by decide +kernel⟩
theorem cb_X10_loan : CB yX10_loan cX10_loan 3 (some .int) 2 := ⟨w_1512, w_11, by decide +kernel, by decide +kernel, by decide +kernel⟩
theorem cb_X10_crop : CB yX10_crop cX10_crop 3 (some .int) 2 := ⟨w_1520, w_11, by decide +kernel, by decide +kernel, by decide +kernel⟩
theorem cb_X10_floodSum : CB yX10_floodSum cX10_floodSum 4 (some .int) 1 := ⟨w_1545, w_11, by decide +kernel, by decide +kernel, by decide +kernel⟩
theorem cb_X10_sum : CB yX10_sum cX10_sum 4 (some .int) 1 := ⟨w_1524, w_11, by decide +kernel, by decide +kernel, by decide +kernel⟩
theorem cb_X10_first : CB yX10_first cX10_first 1 (some .int) 0 := ⟨w_1549, w_11, by decide +kernel, by decide +kernel, by decide +kernel⟩
theorem cb_X10_takersMany : CB yX10_takersMany cX10_takersMany 3 (some .int) 0 := ⟨w_1565, w_11, by decide +kernel, by decide +kernel, by decide +kernel⟩
theorem cb_X10_keepsTakers : CB yX10_keepsTakers cX10_keepsTakers 2 none 0 := ⟨w_1561, w_11, by decide +kernel, by decide +kernel, by decide +kernel⟩
theorem cb_X10_bringsTakersBack : CB yX10_bringsTakersBack cX10_bringsTakersBack 2 none 0 := ⟨w_1577, w_11, by decide +kernel, by decide +kernel, by decide +kernel⟩
theorem cb_X10_takersAre : CB yX10_takersAre cX10_takersAre 4 none 1 := ⟨w_1569, w_11, by decide +kernel, by decide +kernel, by decide +kernel⟩
theorem cb_X10_takerIn : CB yX10_takerIn cX10_takerIn 5 (some .int) 2 := ⟨w_1585, w_11, by decide +kernel, by decide +kernel, by decide +kernel⟩
theorem cb_X10_bestTakers : CB yX10_bestTakers cX10_bestTakers 4 (some .int) 0 := ⟨w_1557, w_11, by decide +kernel, by decide +kernel, by decide +kernel⟩
theorem cb_X10_best : CB yX10_best cX10_best 1 (some .int) 0 := ⟨w_1553, w_11, by decide +kernel, by decide +kernel, by decide +kernel⟩
theorem cb_X10_taker : CB yX10_taker cX10_taker 3 (some .int) 1 := ⟨w_1581, w_11, by decide +kernel, by decide +kernel, by decide +kernel⟩
theorem cb_X10_safe : CB yX10_safe cX10_safe 4 (some .int) 0 := ⟨w_1589, w_11, by decide +kernel, by decide +kernel, by decide +kernel⟩
theorem cb_X10_hopeBelow : CB yX10_hopeBelow cX10_hopeBelow 4 (some .long) 0 := ⟨w_1601, w_11, by decide +kernel, by decide +kernel, by decide +kernel⟩
theorem cb_X10_hopeAbove : CB yX10_hopeAbove cX10_hopeAbove 7 (some .long) 0 := ⟨w_1597, w_11, by decide +kernel, by decide +kernel, by decide +kernel⟩
theorem cb_X10_part : CB yX10_part cX10_part 11 (some .long) 3 := ⟨w_1605, w_11, by decide +kernel, by decide +kernel, by decide +kernel⟩
theorem cb_X10_hope : CB yX10_hope cX10_hope 2 (some .long) 1 := ⟨w_1593, w_11, by decide +kernel, by decide +kernel, by decide +kernel⟩
theorem cb_X10_wiseTakers : CB yX10_wiseTakers cX10_wiseTakers 6 (some .int) 0 := ⟨w_1615, w_11, by decide +kernel, by decide +kernel, by decide +kernel⟩
theorem cb_X10_wise : CB yX10_wise cX10_wise 2 (some .int) 1 := ⟨w_1611, w_11, by decide +kernel, by decide +kernel, by decide +kernel⟩
theorem cb_X10_wisest : CB yX10_wisest cX10_wisest 2 (some .long) 1 := ⟨w_1619, w_11, by decide +kernel, by decide +kernel, by decide +kernel⟩
theorem cb_X10_asksMarks : CB yX10_asksMarks cX10_asksMarks 4 (some .int) 2 := ⟨w_1627, w_11, by decide +kernel, by decide +kernel, by decide +kernel⟩
theorem cb_X10_agrees : CB yX10_agrees cX10_agrees 5 (some .boolean) 2 := ⟨w_1638, w_11, by decide +kernel, by decide +kernel, by decide +kernel⟩
theorem cb_X10_agreeBut : CB yX10_agreeBut cX10_agreeBut 6 (some .int) 2 := ⟨w_1634, w_11, by decide +kernel, by decide +kernel, by decide +kernel⟩
theorem cb_X10_agree : CB yX10_agree cX10_agree 3 (some .int) 1 := ⟨w_1623, w_11, by decide +kernel, by decide +kernel, by decide +kernel⟩
theorem cb_X10_who : CB yX10_who cX10_who 9 (some .int) 2 := ⟨w_1642, w_11, by decide +kernel, by decide +kernel, by decide +kernel⟩
theorem cb_X10_sure : CB yX10_sure cX10_sure 9 (some .int) 3 := ⟨w_1646, w_11, by decide +kernel, by decide +kernel, by decide +kernel⟩
theorem cb_X10_needed : CB yX10_needed cX10_needed 5 (some .int) 1 := ⟨w_1650, w_11, by decide +kernel, by decide +kernel, by decide +kernel⟩
theorem cb_X10_haveOf : CB yX10_haveOf cX10_haveOf 4 (some .int) 1 := ⟨w_1658, w_11, by decide +kernel, by decide +kernel, by decide +kernel⟩
theorem cb_X10_fair : CB yX10_fair cX10_fair 6 (some .int) 1 := ⟨w_1654, w_11, by decide +kernel, by decide +kernel, by decide +kernel⟩
theorem cb_X10_more : CB yX10_more cX10_more 3 (some .int) 1 := ⟨w_1662, w_11, by decide +kernel, by decide +kernel, by decide +kernel⟩
theorem cb_X10_fillDebts : CB yX10_fillDebts cX10_fillDebts 2 none 0 := ⟨w_1674, w_11, by decide +kernel, by decide +kernel, by decide +kernel⟩
theorem cb_X10_debt : CB yX10_debt cX10_debt 3 (some .int) 2 := ⟨w_1678, w_11, by decide +kernel, by decide +kernel, by decide +kernel⟩
theorem cb_X10_isRing : CB yX10_isRing cX10_isRing 4 (some .boolean) 1 := ⟨w_1698, w_11, by decide +kernel, by decide +kernel, by decide +kernel⟩
theorem cb_X10_findsRing : CB yX10_findsRing cX10_findsRing 6 (some .boolean) 1 := ⟨w_1694, w_11, by decide +kernel, by decide +kernel, by decide +kernel⟩
theorem cb_X10_ringSize : CB yX10_ringSize cX10_ringSize 2 (some .int) 0 := ⟨w_1690, w_11, by decide +kernel, by decide +kernel, by decide +kernel⟩
theorem cb_X10_clears : CB yX10_clears cX10_clears 5 none 0 := ⟨w_1686, w_11, by decide +kernel, by decide +kernel, by decide +kernel⟩
theorem cb_X10_owes : CB yX10_owes cX10_owes 3 (some .int) 2 := ⟨w_1666, w_11, by decide +kernel, by decide +kernel, by decide +kernel⟩
theorem cb_X10_rings : CB yX10_rings cX10_rings 2 (some .int) 1 := ⟨w_1682, w_11, by decide +kernel, by decide +kernel, by decide +kernel⟩
theorem cb_X10_ring : CB yX10_ring cX10_ring 2 (some .int) 1 := ⟨w_1702, w_11, by decide +kernel, by decide +kernel, by decide +kernel⟩
theorem cb_X10_left : CB yX10_left cX10_left 3 (some .int) 2 := ⟨w_1706, w_11, by decide +kernel, by decide +kernel, by decide +kernel⟩
theorem cb_X10_allDebts : CB yX10_allDebts cX10_allDebts 4 (some .int) 1 := ⟨w_1718, w_11, by decide +kernel, by decide +kernel, by decide +kernel⟩
theorem cb_X10_nextPaid : CB yX10_nextPaid cX10_nextPaid 6 (some .int) 3 := ⟨w_1722, w_11, by decide +kernel, by decide +kernel, by decide +kernel⟩
theorem cb_X10_strikes : CB yX10_strikes cX10_strikes 8 none 1 := ⟨w_1714, w_11, by decide +kernel, by decide +kernel, by decide +kernel⟩
theorem cb_X10_ruined : CB yX10_ruined cX10_ruined 6 (some .int) 0 := ⟨w_1726, w_11, by decide +kernel, by decide +kernel, by decide +kernel⟩
theorem cb_X10_bits : CB yX10_bits cX10_bits 3 (some .int) 1 := ⟨w_1737, w_11, by decide +kernel, by decide +kernel, by decide +kernel⟩
theorem cb_X10_struck : CB yX10_struck cX10_struck 5 (some .int) 2 := ⟨w_1710, w_11, by decide +kernel, by decide +kernel, by decide +kernel⟩
theorem cb_X10_pays : CB yX10_pays cX10_pays 4 (some .int) 3 := ⟨w_1730, w_11, by decide +kernel, by decide +kernel, by decide +kernel⟩
theorem cb_X10_law : CB yX10_law cX10_law 4 (some .int) 0 := ⟨w_1734, w_11, by decide +kernel, by decide +kernel, by decide +kernel⟩
theorem cb_X10_firstCrop : CB yX10_firstCrop cX10_firstCrop 3 (some .int) 1 := ⟨w_1745, w_11, by decide +kernel, by decide +kernel, by decide +kernel⟩
theorem cb_X10_melons : CB yX10_melons cX10_melons 5 (some .int) 1 := ⟨w_1741, w_11, by decide +kernel, by decide +kernel, by decide +kernel⟩
theorem cb_X10_shareOf : CB yX10_shareOf cX10_shareOf 4 (some .int) 1 := ⟨w_1753, w_11, by decide +kernel, by decide +kernel, by decide +kernel⟩
theorem cb_X10_share : CB yX10_share cX10_share 4 (some .int) 1 := ⟨w_1749, w_11, by decide +kernel, by decide +kernel, by decide +kernel⟩
theorem cb_X10_isNeverDry : CB yX10_isNeverDry cX10_isNeverDry 3 (some .boolean) 1 := ⟨w_1761, w_11, by decide +kernel, by decide +kernel, by decide +kernel⟩
theorem cb_X10_enough : CB yX10_enough cX10_enough 6 (some .int) 1 := ⟨w_1757, w_11, by decide +kernel, by decide +kernel, by decide +kernel⟩
theorem cb_X10_draw : CB yX10_draw cX10_draw 1 (some .int) 0 := ⟨w_1774, w_11, by decide +kernel, by decide +kernel, by decide +kernel⟩
theorem cb_X10_floodsDrawn : CB yX10_floodsDrawn cX10_floodsDrawn 5 (some .int) 1 := ⟨w_1770, w_11, by decide +kernel, by decide +kernel, by decide +kernel⟩
theorem cb_X10_year_ : CB yX10_year_ cX10_year_ 4 (some .int) 2 := ⟨w_1765, w_11, by decide +kernel, by decide +kernel, by decide +kernel⟩
theorem cb_X10_years : CB yX10_years cX10_years 5 (some .int) 2 := ⟨w_1782, w_11, by decide +kernel, by decide +kernel, by decide +kernel⟩
theorem cb_X10_count : CB yX10_count cX10_count 4 (some .int) 1 := ⟨w_1787, w_11, by decide +kernel, by decide +kernel, by decide +kernel⟩
theorem cb_X10_isSlot : CB yX10_isSlot cX10_isSlot 1 (some .boolean) 1 := ⟨w_1630, w_11, by decide +kernel, by decide +kernel, by decide +kernel⟩
theorem cb_X10_cut : CB yX10_cut cX10_cut 4 (some .long) 2 := ⟨w_1798, w_11, by decide +kernel, by decide +kernel, by decide +kernel⟩
theorem cb_X10_row : CB yX10_row cX10_row 5 (some .int) 3 := ⟨w_1791, w_11, by decide +kernel, by decide +kernel, by decide +kernel⟩
theorem cb_X10_write : CB yX10_write cX10_write 5 (some .int) 3 := ⟨w_1795, w_11, by decide +kernel, by decide +kernel, by decide +kernel⟩
theorem cb_X10_paste : CB yX10_paste cX10_paste 7 (some .int) 5 := ⟨w_1802, w_11, by decide +kernel, by decide +kernel, by decide +kernel⟩
theorem cb_J6_bitCount_0f7a4 : CB yJ6_bitCount_0f7a4 cJ6_bitCount_0f7a4 1 (some .int) 1 := ⟨w_1071, w_19, by decide +kernel, by decide +kernel, by decide +kernel⟩
theorem cb_J9_abs_067f4 : CB yJ9_abs_067f4 cJ9_abs_067f4 2 (some .long) 1 := ⟨w_836, w_13, by decide +kernel, by decide +kernel, by decide +kernel⟩
theorem cb_J9_max_7cf53 : CB yJ9_max_7cf53 cJ9_max_7cf53 2 (some .int) 2 := ⟨w_749, w_13, by decide +kernel, by decide +kernel, by decide +kernel⟩
theorem cb_J9_max_f86c9 : CB yJ9_max_f86c9 cJ9_max_f86c9 4 (some .long) 2 := ⟨w_842, w_13, by decide +kernel, by decide +kernel, by decide +kernel⟩
theorem cb_J9_min_7cf53 : CB yJ9_min_7cf53 cJ9_min_7cf53 2 (some .int) 2 := ⟨w_431, w_13, by decide +kernel, by decide +kernel, by decide +kernel⟩
theorem cb_J0_length_8abf5 : CB yJ0_length_8abf5 cJ0_length_8abf5 1 (some .int) 0 := ⟨w_456, w_14, by decide +kernel, by decide +kernel, by decide +kernel⟩
theorem cb_J0_charAt_5068e : CB yJ0_charAt_5068e cJ0_charAt_5068e 2 (some .char) 1 := ⟨w_466, w_14, by decide +kernel, by decide +kernel, by decide +kernel⟩
theorem cb_J0_coder_7d493 : CB yJ0_coder_7d493 cJ0_coder_7d493 1 (some .byte) 0 := ⟨w_460, w_14, by decide +kernel, by decide +kernel, by decide +kernel⟩
theorem cb_J0_isLatin1_aae02 : CB yJ0_isLatin1_aae02 cJ0_isLatin1_aae02 1 (some .boolean) 0 := ⟨w_470, w_14, by decide +kernel, by decide +kernel, by decide +kernel⟩
theorem cb_J0_checkIndex_df160 : CB yJ0_checkIndex_df160 cJ0_checkIndex_df160 2 none 2 := ⟨w_476, w_14, by decide +kernel, by decide +kernel, by decide +kernel⟩
theorem cb_J1_charAt_3b067 : CB yJ1_charAt_3b067 cJ1_charAt_3b067 2 (some .char) 2 := ⟨w_473, w_15, by decide +kernel, by decide +kernel, by decide +kernel⟩
theorem cb_J2_getChar_3b067 : CB yJ2_getChar_3b067 cJ2_getChar_3b067 2 (some .char) 2 := ⟨w_494, w_17, by decide +kernel, by decide +kernel, by decide +kernel⟩
theorem cb_J2_length_9d52b : CB yJ2_length_9d52b cJ2_length_9d52b 1 (some .int) 1 := ⟨w_490, w_17, by decide +kernel, by decide +kernel, by decide +kernel⟩
theorem cb_J2_charAt_3b067 : CB yJ2_charAt_3b067 cJ2_charAt_3b067 2 (some .char) 2 := ⟨w_484, w_17, by decide +kernel, by decide +kernel, by decide +kernel⟩
theorem cb_J2_checkIndex_2214a : CB yJ2_checkIndex_2214a cJ2_checkIndex_2214a 2 none 2 := ⟨w_487, w_17, by decide +kernel, by decide +kernel, by decide +kernel⟩
theorem cb_J7_fill_d0a16 : CB yJ7_fill_d0a16 cJ7_fill_d0a16 5 none 2 := ⟨w_1138, w_12, by decide +kernel, by decide +kernel, by decide +kernel⟩
theorem cb_J7_fill_53178 : CB yJ7_fill_53178 cJ7_fill_53178 4 none 2 := ⟨w_402, w_12, by decide +kernel, by decide +kernel, by decide +kernel⟩
theorem cb_J3_checkIndex_8e157 : CB yJ3_checkIndex_8e157 cJ3_checkIndex_8e157 3 (some .int) 3 := ⟨w_481, w_16, by decide +kernel, by decide +kernel, by decide +kernel⟩
theorem m_L_9 : CI RL 9 yX9_init := ⟨w_23, rfl, w_24⟩
theorem m_X9_9 : CIN RX9 9 yX6_init := ⟨by simp [nestW, yX6_init, RX6, RX9], rfl, w_32⟩
theorem m_X9_18 : CI RX9 18 yX4_init := ⟨w_48, rfl, w_49⟩
theorem m_X4_21 : CI RX4 21 yX7_init := ⟨w_54, rfl, w_55⟩
theorem m_X9_27 : CIN RX9 27 yX2_init := ⟨by simp [nestW, yX2_init, RX2, RX9], rfl, w_99⟩
theorem m_X2_11 : CI RX2 11 yX3_init := ⟨w_104, rfl, w_105⟩
theorem m_X9_47 : CI RX9 47 yX8_init := ⟨w_187, rfl, w_188⟩
theorem m_X9_56 : CI RX9 56 yX1_init := ⟨w_275, rfl, w_276⟩
theorem m_X9_65 : CI RX9 65 yX0_init := ⟨w_297, rfl, w_298⟩
theorem m_X0_11 : CIN RX0 11 yX11_init := ⟨by simp [nestW, yX11_init, RX11, RX0], rfl, w_304⟩
theorem m_L_13 : CV RL 13 yX9_feed := ⟨w_372, w_373, w_374⟩
theorem m_X9_70 : CV RX9 70 yX6_hasPlaceFor := ⟨w_376, w_377, w_378⟩
theorem m_X9_74 : CV RX9 74 yX6_append := ⟨w_380, w_381, w_382⟩
theorem m_L_18 : CV RL 18 yX9_end := ⟨w_384, w_385, w_386⟩
theorem m_L_23 : CV RL 23 yX9_plain := ⟨w_388, w_389, w_390⟩
theorem m_X9_82 : CV RX9 82 yX4_reads := ⟨w_392, w_393, w_394⟩
theorem m_X4_32 : CV RX4 32 yX2_clear := ⟨w_396, w_397, w_398⟩
theorem m_X2_37 : CS RX2 37 yJ7_fill_53178 := ⟨w_400, w_401⟩
theorem m_X4_40 : CV RX4 40 yX7_begin := ⟨w_403, w_404, w_405⟩
theorem m_X4_48 : CV RX4 48 yX7_step := ⟨w_407, w_408, w_409⟩
theorem m_X7_33 : CV RX7 33 yX6_at := ⟨w_411, w_412, w_413⟩
theorem m_X7_37 : CS RX7 37 yX7_isBlank := ⟨w_415, w_416⟩
theorem m_X7_41 : CS RX7 41 yX7_isLetter := ⟨w_418, w_419⟩
theorem m_X7_44 : CS RX7 44 yX7_isDigit := ⟨w_421, w_422⟩
theorem m_X7_47 : CV RX7 47 yX7_stepNumber := ⟨w_424, w_426, ws_0⟩
theorem m_X7_51 : CS RX7 51 yJ9_min_7cf53 := ⟨w_429, w_430⟩
theorem m_X4_54 : CV RX4 54 yX4_readsLine := ⟨w_432, w_434, ws_1⟩
theorem m_X4_58 : CV RX4 58 yX4_lineOfWord := ⟨w_436, w_438, ws_2⟩
theorem m_X4_73 : CS RX4 73 yX4_formOf := ⟨w_440, w_441⟩
theorem m_X4_97 : CS RX4 97 yX4_wordEnd := ⟨w_450, w_451⟩
theorem m_X4_77 : CV RX4 77 yJ0_length_8abf5 := ⟨w_453, w_454, w_455⟩
theorem m_J0_335 : CV RJ0 335 yJ0_coder_7d493 := ⟨w_457, w_458, w_459⟩
theorem m_X4_81 : CV RX4 81 yJ0_charAt_5068e := ⟨w_463, w_464, w_465⟩
theorem m_J0_492 : CV RJ0 492 yJ0_isLatin1_aae02 := ⟨w_467, w_468, w_469⟩
theorem m_J0_495 : CS RJ0 495 yJ1_charAt_3b067 := ⟨w_471, w_472⟩
theorem m_J1_9 : CS RJ1 9 yJ0_checkIndex_df160 := ⟨w_474, w_475⟩
theorem m_J0_1059 : CS RJ0 1059 yJ3_checkIndex_8e157 := ⟨w_479, w_480⟩
theorem m_J0_498 : CS RJ0 498 yJ2_charAt_3b067 := ⟨w_482, w_483⟩
theorem m_J2_67 : CS RJ2 67 yJ2_checkIndex_2214a := ⟨w_485, w_486⟩
theorem m_J2_48 : CS RJ2 48 yJ2_length_9d52b := ⟨w_488, w_489⟩
theorem m_J2_414 : CS RJ2 414 yJ0_checkIndex_df160 := ⟨w_491, w_475⟩
theorem m_J2_71 : CS RJ2 71 yJ2_getChar_3b067 := ⟨w_492, w_493⟩
theorem m_X4_101 : CV RX4 101 yX7_isWord := ⟨w_501, w_502, w_503⟩
theorem m_X7_57 : CV RX7 57 yJ0_length_8abf5 := ⟨w_505, w_454, w_455⟩
theorem m_X7_62 : CV RX7 62 yJ0_charAt_5068e := ⟨w_506, w_464, w_465⟩
theorem m_X4_65 : CV RX4 65 yX4_fails := ⟨w_507, w_509, ws_3⟩
theorem m_X4_69 : CS RX4 69 yX4_isFull := ⟨w_511, w_512⟩
theorem m_X4_137 : CV RX4 137 yX3_isFull := ⟨w_514, w_515, w_516⟩
theorem m_X4_85 : CV RX4 85 yX4_readsNumber := ⟨w_518, w_520, ws_4⟩
theorem m_X4_108 : CV RX4 108 yX4_least := ⟨w_522, w_524, ws_5⟩
theorem m_X4_112 : CV RX4 112 yX4_most := ⟨w_526, w_528, ws_6⟩
theorem m_X4_89 : CV RX4 89 yX4_readsWord := ⟨w_530, w_532, ws_7⟩
theorem m_X4_93 : CV RX4 93 yX4_keep := ⟨w_534, w_536, ws_8⟩
theorem m_X4_163 : CV RX4 163 yX3_add := ⟨w_538, w_539, w_540⟩
theorem m_X3_23 : CV RX3 23 yX3_isFull := ⟨w_542, w_515, w_516⟩
theorem m_X3_27 : CV RX3 27 yX3_put := ⟨w_543, w_544, w_545⟩
theorem m_X4_167 : CV RX4 167 yX3_put := ⟨w_547, w_544, w_545⟩
theorem m_X4_171 : CV RX4 171 yX2_shines := ⟨w_548, w_549, w_550⟩
theorem m_X9_86 : CV RX9 86 yX2_copy := ⟨w_552, w_553, w_554⟩
theorem m_X2_55 : CV RX2 55 yX3_copy := ⟨w_556, w_557, w_558⟩
theorem m_X3_31 : CS RX3 31 yJ9_min_7cf53 := ⟨w_560, w_430⟩
theorem m_X9_89 : CV RX9 89 yX1_forget := ⟨w_565, w_566, w_567⟩
theorem m_L_28 : CV RL 28 yX9_fault := ⟨w_569, w_570, w_571⟩
theorem m_L_32 : CV RL 32 yX9_village := ⟨w_573, w_574, w_575⟩
theorem m_X9_101 : CV RX9 101 yX9_hasVillage := ⟨w_577, w_579, ws_9⟩
theorem m_X9_150 : CV RX9 150 yX3_has := ⟨w_581, w_582, w_583⟩
theorem m_X9_108 : CV RX9 108 yX3_at := ⟨w_585, w_586, w_587⟩
theorem m_L_37 : CV RL 37 yX9_takes := ⟨w_589, w_590, w_591⟩
theorem m_X9_114 : CV RX9 114 yX9_hasFlood := ⟨w_593, w_595, ws_10⟩
theorem m_X9_120 : CV RX9 120 yX3_put := ⟨w_597, w_544, w_545⟩
theorem m_L_111 : CV RL 111 yX9_more := ⟨w_598, w_599, w_600⟩
theorem m_X9_124 : CV RX9 124 yX9_hasPlain := ⟨w_602, w_604, ws_11⟩
theorem m_L_163 : CV RL 163 yX9_count := ⟨w_606, w_607, w_608⟩
theorem m_X9_146 : CV RX9 146 yX9_slotsWithRows := ⟨w_610, w_612, ws_12⟩
theorem m_L_41 : CV RL 41 yX9_water := ⟨w_614, w_615, w_616⟩
theorem m_X9_159 : CV RX9 159 yX9_hasWeek := ⟨w_618, w_620, ws_13⟩
theorem m_X9_162 : CV RX9 162 yX9_goThroughYear := ⟨w_622, w_624, ws_14⟩
theorem m_X9_153 : CV RX9 153 yX8_begin := ⟨w_626, w_627, w_628⟩
theorem m_X8_72 : CV RX8 72 yX3_at := ⟨w_630, w_586, w_587⟩
theorem m_X8_81 : CS RX8 81 yJ7_fill_53178 := ⟨w_631, w_401⟩
theorem m_X9_156 : CV RX9 156 yX8_run := ⟨w_632, w_633, w_634⟩
theorem m_X8_102 : CV RX8 102 yX8_pass := ⟨w_636, w_637, w_638⟩
theorem m_X8_106 : CV RX8 106 yX8_takeFloods := ⟨w_640, w_642, ws_15⟩
theorem m_X8_144 : CV RX8 144 yX8_roomOf := ⟨w_644, w_646, ws_16⟩
theorem m_X8_137 : CV RX8 137 yX8_waterOf := ⟨w_648, w_649, w_650⟩
theorem m_X8_147 : CS RX8 147 yJ9_min_7cf53 := ⟨w_652, w_430⟩
theorem m_X8_152 : CV RX8 152 yX8_withMore := ⟨w_653, w_655, ws_17⟩
theorem m_X8_155 : CV RX8 155 yX8_add := ⟨w_657, w_658, w_659⟩
theorem m_X8_109 : CV RX8 109 yX8_lendOn := ⟨w_661, w_663, ws_18⟩
theorem m_X8_112 : CV RX8 112 yX8_repayTill := ⟨w_665, w_667, ws_19⟩
theorem m_X8_162 : CV RX8 162 yX8_noteTrouble := ⟨w_669, w_671, ws_20⟩
theorem m_X8_118 : CV RX8 118 yX8_giveBack := ⟨w_673, w_675, ws_21⟩
theorem m_X8_121 : CV RX8 121 yX8_drinkCrops := ⟨w_677, w_679, ws_22⟩
theorem m_X8_168 : CV RX8 168 yX8_staysDry := ⟨w_681, w_683, ws_23⟩
theorem m_X8_124 : CV RX8 124 yX8_drinkSky := ⟨w_685, w_687, ws_24⟩
theorem m_X8_172 : CV RX8 172 yX2_sunIn := ⟨w_689, w_690, w_691⟩
theorem m_X8_127 : CV RX8 127 yX8_seepAway := ⟨w_693, w_695, ws_25⟩
theorem m_X8_130 : CV RX8 130 yX8_noteWater := ⟨w_697, w_699, ws_26⟩
theorem m_X9_165 : CV RX9 165 yX8_waterBehind := ⟨w_701, w_702, w_703⟩
theorem m_L_45 : CV RL 45 yX9_flood := ⟨w_705, w_706, w_707⟩
theorem m_X9_178 : CS RX9 178 yX9_account := ⟨w_709, w_710⟩
theorem m_L_49 : CV RL 49 yX9_loan := ⟨w_712, w_713, w_714⟩
theorem m_L_53 : CV RL 53 yX9_crop := ⟨w_716, w_717, w_718⟩
theorem m_L_57 : CV RL 57 yX9_sum := ⟨w_720, w_721, w_722⟩
theorem m_X9_200 : CS RX9 200 yX9_together := ⟨w_724, w_725⟩
theorem m_L_61 : CV RL 61 yX9_first := ⟨w_727, w_728, w_729⟩
theorem m_L_65 : CV RL 65 yX9_best := ⟨w_731, w_732, w_733⟩
theorem m_X9_219 : CV RX9 219 yX1_knowAll := ⟨w_735, w_736, w_737⟩
theorem m_X1_90 : CV RX1 90 yX1_total := ⟨w_739, w_740, w_741⟩
theorem m_X1_42 : CV RX1 42 yX1_choices := ⟨w_743, w_745, ws_27⟩
theorem m_X1_49 : CS RX1 49 yJ9_max_7cf53 := ⟨w_747, w_748⟩
theorem m_X1_93 : CV RX1 93 yX1_know := ⟨w_750, w_751, w_752⟩
theorem m_X1_69 : CS RX1 69 yX1_isCode := ⟨w_754, w_755⟩
theorem m_X1_73 : CV RX1 73 yX1_lead := ⟨w_757, w_758, w_759⟩
theorem m_X1_61 : CV RX1 61 yX8_begin := ⟨w_761, w_627, w_628⟩
theorem m_X1_58 : CV RX1 58 yX1_takerIn := ⟨w_762, w_763, w_764⟩
theorem m_X1_77 : CV RX1 77 yX8_run := ⟨w_766, w_633, w_634⟩
theorem m_X1_83 : CSN RX1 83 yX9_together := ⟨by simp [nestW, yX9_together, RX9, RX1], w_725⟩
theorem m_X1_87 : CV RX1 87 yX8_shortInAll := ⟨w_768, w_769, w_770⟩
theorem m_X8_133 : CSN RX8 133 yX9_together := ⟨by simp [nestW, yX9_together, RX9, RX8], w_725⟩
theorem m_X9_222 : CV RX9 222 yX1_bestCode := ⟨w_773, w_774, w_775⟩
theorem m_X1_99 : CV RX1 99 yX1_shortBy := ⟨w_777, w_778, w_779⟩
theorem m_X1_103 : CV RX1 103 yX1_broughtBy := ⟨w_781, w_782, w_783⟩
theorem m_X9_225 : CV RX9 225 yX1_broughtBy := ⟨w_785, w_782, w_783⟩
theorem m_L_69 : CV RL 69 yX9_taker := ⟨w_786, w_787, w_788⟩
theorem m_X9_229 : CV RX9 229 yX1_takerIn := ⟨w_790, w_763, w_764⟩
theorem m_L_73 : CV RL 73 yX9_safe := ⟨w_791, w_792, w_793⟩
theorem m_X9_232 : CV RX9 232 yX1_safeCodes := ⟨w_795, w_796, w_797⟩
theorem m_L_77 : CV RL 77 yX9_hope := ⟨w_799, w_800, w_801⟩
theorem m_X9_237 : CV RX9 237 yX1_codeNow := ⟨w_804, w_805, w_806⟩
theorem m_X1_55 : CV RX1 55 yX3_at := ⟨w_808, w_586, w_587⟩
theorem m_X9_240 : CV RX9 240 yX1_knowWays := ⟨w_809, w_810, w_811⟩
theorem m_X1_96 : CV RX1 96 yX1_onlyComing := ⟨w_813, w_814, w_815⟩
theorem m_X9_243 : CV RX9 243 yX9_fraction := ⟨w_817, w_819, ws_28⟩
theorem m_X9_250 : CV RX9 250 yX1_hopeAbove := ⟨w_821, w_822, w_823⟩
theorem m_X1_110 : CV RX1 110 yX1_chance := ⟨w_825, w_827, ws_29⟩
theorem m_X9_254 : CV RX9 254 yX1_hopeBelow := ⟨w_829, w_830, w_831⟩
theorem m_X9_258 : CS RX9 258 yJ9_abs_067f4 := ⟨w_834, w_835⟩
theorem m_X9_264 : CS RX9 264 yX9_commonDivisor := ⟨w_837, w_838⟩
theorem m_X9_268 : CS RX9 268 yJ9_max_f86c9 := ⟨w_840, w_841⟩
theorem m_L_82 : CV RL 82 yX9_wise := ⟨w_843, w_844, w_845⟩
theorem m_X9_247 : CV RX9 247 yX1_wiseCode := ⟨w_847, w_848, w_849⟩
theorem m_X1_106 : CV RX1 106 yX1_hopeAbove := ⟨w_851, w_822, w_823⟩
theorem m_L_86 : CV RL 86 yX9_wisest := ⟨w_852, w_853, w_854⟩
theorem m_L_90 : CV RL 90 yX9_agree := ⟨w_856, w_857, w_858⟩
theorem m_X9_271 : CV RX9 271 yX9_marksWrong := ⟨w_860, w_862, ws_30⟩
theorem m_X9_287 : CS RX9 287 yX9_isSlot := ⟨w_864, w_865⟩
theorem m_X9_290 : CV RX9 290 yX9_slotAt := ⟨w_867, w_869, ws_31⟩
theorem m_X9_295 : CV RX9 295 yX5_number := ⟨w_871, w_872, w_873⟩
theorem m_X5_35 : CV RX5 35 yX5_has := ⟨w_875, w_876, w_877⟩
theorem m_X9_275 : CV RX9 275 yX1_total := ⟨w_879, w_740, w_741⟩
theorem m_X9_278 : CV RX9 278 yX9_goThroughYearBy := ⟨w_880, w_882, ws_32⟩
theorem m_X9_298 : CV RX9 298 yX1_lead := ⟨w_884, w_758, w_759⟩
theorem m_X9_281 : CV RX9 281 yX9_missed := ⟨w_885, w_887, ws_33⟩
theorem m_L_94 : CV RL 94 yX9_who := ⟨w_889, w_890, w_891⟩
theorem m_L_98 : CV RL 98 yX9_sure := ⟨w_893, w_894, w_895⟩
theorem m_L_103 : CV RL 103 yX9_needed := ⟨w_897, w_898, w_899⟩
theorem m_X9_284 : CS RX9 284 yJ9_min_7cf53 := ⟨w_901, w_430⟩
theorem m_L_107 : CV RL 107 yX9_fair := ⟨w_902, w_903, w_904⟩
theorem m_X9_301 : CV RX9 301 yX9_wealth := ⟨w_906, w_908, ws_34⟩
theorem m_X9_311 : CV RX9 311 yX8_waterOf := ⟨w_910, w_649, w_650⟩
theorem m_L_143 : CV RL 143 yX9_melons := ⟨w_911, w_912, w_913⟩
theorem m_X9_314 : CV RX9 314 yX9_firstDrink := ⟨w_915, w_917, ws_35⟩
theorem m_X9_317 : CV RX9 317 yX9_shortOf := ⟨w_919, w_921, ws_36⟩
theorem m_L_147 : CV RL 147 yX9_share := ⟨w_923, w_924, w_925⟩
theorem m_X9_320 : CV RX9 320 yX9_cutShare := ⟨w_927, w_929, ws_37⟩
theorem m_X9_323 : CS RX9 323 yJ9_max_7cf53 := ⟨w_931, w_748⟩
theorem m_L_151 : CV RL 151 yX9_enough := ⟨w_932, w_933, w_934⟩
theorem m_X9_325 : CV RX9 325 yX9_neverDry := ⟨w_936, w_938, ws_38⟩
theorem m_X9_329 : CV RX9 329 yX8_add := ⟨w_940, w_658, w_659⟩
theorem m_X9_333 : CV RX9 333 yX8_pass := ⟨w_941, w_637, w_638⟩
theorem m_X9_336 : CV RX9 336 yX8_wasDry := ⟨w_942, w_943, w_944⟩
theorem m_L_115 : CV RL 115 yX9_owes := ⟨w_946, w_947, w_948⟩
theorem m_X9_342 : CV RX9 342 yX9_arePair := ⟨w_950, w_952, ws_39⟩
theorem m_X9_345 : CV RX9 345 yX9_reckonDebts := ⟨w_954, w_956, ws_40⟩
theorem m_X9_339 : CV RX9 339 yX0_reckon := ⟨w_958, w_959, w_960⟩
theorem m_X0_39 : CV RX0 39 yX11_clear := ⟨w_962, w_963, w_964⟩
theorem m_X11_31 : CS RX11 31 yJ7_fill_53178 := ⟨w_966, w_401⟩
theorem m_X0_54 : CV RX0 54 yX3_at := ⟨w_967, w_586, w_587⟩
theorem m_X0_66 : CV RX0 66 yX11_add := ⟨w_968, w_969, w_970⟩
theorem m_X11_19 : CV RX11 19 yX11_at := ⟨w_972, w_973, w_974⟩
theorem m_X11_15 : CS RX11 15 yX11_has := ⟨w_976, w_977⟩
theorem m_X11_23 : CV RX11 23 yX11_put := ⟨w_979, w_980, w_981⟩
theorem m_X9_352 : CV RX9 352 yX11_at := ⟨w_983, w_973, w_974⟩
theorem m_L_119 : CV RL 119 yX9_rings := ⟨w_984, w_985, w_986⟩
theorem m_X9_355 : CV RX9 355 yX0_clearRings := ⟨w_988, w_989, w_990⟩
theorem m_X0_70 : CV RX0 70 yX11_copy := ⟨w_992, w_993, w_994⟩
theorem m_X0_80 : CV RX0 80 yX0_findRing := ⟨w_997, w_999, ws_41⟩
theorem m_X0_96 : CS RX0 96 yX0_closes := ⟨w_1001, w_1002⟩
theorem m_X0_100 : CV RX0 100 yX11_at := ⟨w_1004, w_973, w_974⟩
theorem m_X0_101 : CS RX0 101 yX0_holds := ⟨w_1005, w_1006⟩
theorem m_X0_84 : CV RX0 84 yX0_clearRound := ⟨w_1008, w_1010, ws_42⟩
theorem m_X0_105 : CV RX0 105 yX0_inRound := ⟨w_1012, w_1014, ws_43⟩
theorem m_X0_88 : CS RX0 88 yJ9_min_7cf53 := ⟨w_1016, w_430⟩
theorem m_L_123 : CV RL 123 yX9_ring := ⟨w_1017, w_1018, w_1019⟩
theorem m_X9_364 : CV RX9 364 yX0_bitsOf := ⟨w_1021, w_1022, w_1023⟩
theorem m_L_127 : CV RL 127 yX9_left := ⟨w_1025, w_1026, w_1027⟩
theorem m_L_131 : CV RL 131 yX9_struck := ⟨w_1029, w_1030, w_1031⟩
theorem m_X9_370 : CV RX9 370 yX0_strike := ⟨w_1033, w_1034, w_1035⟩
theorem m_X0_108 : CV RX0 108 yX0_payParts := ⟨w_1037, w_1039, ws_44⟩
theorem m_X0_116 : CV RX0 116 yX8_waterOf := ⟨w_1041, w_649, w_650⟩
theorem m_X0_119 : CS RX0 119 yJ9_max_f86c9 := ⟨w_1042, w_841⟩
theorem m_X0_123 : CV RX0 123 yX11_put := ⟨w_1043, w_980, w_981⟩
theorem m_X0_112 : CV RX0 112 yX0_payInTurn := ⟨w_1044, w_1046, ws_45⟩
theorem m_X0_126 : CV RX0 126 yX0_nextToPay := ⟨w_1048, w_1050, ws_46⟩
theorem m_X9_376 : CV RX9 376 yX11_inAll := ⟨w_1052, w_1053, w_1054⟩
theorem m_X11_27 : CSN RX11 27 yX9_together := ⟨by simp [nestW, yX9_together, RX9, RX11], w_725⟩
theorem m_X9_379 : CV RX9 379 yX0_ruined := ⟨w_1057, w_1058, w_1059⟩
theorem m_L_135 : CV RL 135 yX9_pays := ⟨w_1061, w_1062, w_1063⟩
theorem m_L_139 : CV RL 139 yX9_law := ⟨w_1065, w_1066, w_1067⟩
theorem m_X9_382 : CS RX9 382 yJ6_bitCount_0f7a4 := ⟨w_1069, w_1070⟩
theorem m_L_155 : CV RL 155 yX9_year := ⟨w_1075, w_1076, w_1077⟩
theorem m_X9_388 : CS RX9 388 yX9_isSeed := ⟨w_1079, w_1080⟩
theorem m_X9_391 : CV RX9 391 yX9_drawn := ⟨w_1083, w_1085, ws_47⟩
theorem m_X9_394 : CV RX9 394 yX1_onlyComing := ⟨w_1092, w_814, w_815⟩
theorem m_X9_397 : CV RX9 397 yX1_know := ⟨w_1093, w_751, w_752⟩
theorem m_X9_400 : CV RX9 400 yX1_shortBy := ⟨w_1094, w_778, w_779⟩
theorem m_L_159 : CV RL 159 yX9_years := ⟨w_1095, w_1096, w_1097⟩
theorem m_L_167 : CV RL 167 yX9_image := ⟨w_1099, w_1100, w_1101⟩
theorem m_L_171 : CV RL 171 yX9_restore := ⟨w_1103, w_1104, w_1105⟩
theorem m_L_175 : CV RL 175 yX9_row := ⟨w_1107, w_1108, w_1109⟩
theorem m_X9_413 : CIN RX9 413 yX5_init := ⟨by simp [nestW, yX5_init, RX5, RX9], rfl, w_1113⟩
theorem m_X9_414 : CV RX9 414 yX5_begin := ⟨w_1130, w_1131, w_1132⟩
theorem m_X5_17 : CS RX5 17 yJ9_min_7cf53 := ⟨w_1134, w_430⟩
theorem m_X5_23 : CS RX5 23 yJ9_max_7cf53 := ⟨w_1135, w_748⟩
theorem m_X5_29 : CS RX5 29 yJ7_fill_d0a16 := ⟨w_1136, w_1137⟩
theorem m_L_181 : CV RL 181 yX9_write := ⟨w_1139, w_1140, w_1141⟩
theorem m_X9_416 : CV RX9 416 yX5_has := ⟨w_1143, w_876, w_877⟩
theorem m_X9_417 : CV RX9 417 yX5_put := ⟨w_1144, w_1145, w_1146⟩
theorem m_X5_39 : CV RX5 39 yX5_cut := ⟨w_1148, w_1150, ws_48⟩
theorem m_L_186 : CV RL 186 yX9_paste := ⟨w_1152, w_1153, w_1154⟩
theorem m_X9_423 : CV RX9 423 yX5_hasAll := ⟨w_1156, w_1157, w_1158⟩
theorem m_L_12 : CI RL 12 yX10_init := ⟨w_1163, rfl, w_1164⟩
theorem m_L_170 : CV RL 170 yX10_image := ⟨w_1287, w_1288, w_1289⟩
theorem m_X10_85 : CS RX10 85 yX10_in := ⟨w_1292, w_1293⟩
theorem m_L_174 : CV RL 174 yX10_restore := ⟨w_1295, w_1296, w_1297⟩
theorem m_L_17 : CV RL 17 yX10_feed := ⟨w_1299, w_1300, w_1301⟩
theorem m_L_22 : CV RL 22 yX10_end := ⟨w_1303, w_1304, w_1305⟩
theorem m_L_31 : CV RL 31 yX10_fault := ⟨w_1307, w_1308, w_1309⟩
theorem m_L_27 : CV RL 27 yX10_plain := ⟨w_1311, w_1312, w_1313⟩
theorem m_X10_154 : CV RX10 154 yX10_advance := ⟨w_1315, w_1317, ws_49⟩
theorem m_X10_106 : CV RX10 106 yX10_see := ⟨w_1319, w_1321, ws_50⟩
theorem m_X10_128 : CS RX10 128 yJ9_min_7cf53 := ⟨w_1328, w_430⟩
theorem m_X10_137 : CV RX10 137 yX10_good := ⟨w_1329, w_1331, ws_51⟩
theorem m_X10_238 : CV RX10 238 yX10_readLine := ⟨w_1333, w_1335, ws_52⟩
theorem m_X10_164 : CV RX10 164 yX10_needs := ⟨w_1338, w_1340, ws_53⟩
theorem m_X10_157 : CV RX10 157 yX10_takes := ⟨w_1342, w_1344, ws_54⟩
theorem m_X10_150 : CV RX10 150 yX10_is := ⟨w_1346, w_1348, ws_55⟩
theorem m_X10_141 : CV RX10 141 yJ0_length_8abf5 := ⟨w_1350, w_454, w_455⟩
theorem m_X10_146 : CV RX10 146 yJ0_charAt_5068e := ⟨w_1351, w_464, w_465⟩
theorem m_X10_160 : CV RX10 160 yX10_errs := ⟨w_1352, w_1354, ws_56⟩
theorem m_X10_173 : CV RX10 173 yX10_told := ⟨w_1357, w_1359, ws_57⟩
theorem m_X10_168 : CV RX10 168 yX10_number := ⟨w_1361, w_1363, ws_58⟩
theorem m_X10_235 : CV RX10 235 yX10_readNext := ⟨w_1367, w_1369, ws_59⟩
theorem m_X10_212 : CV RX10 212 yX10_readVillage := ⟨w_1377, w_1379, ws_60⟩
theorem m_X10_215 : CV RX10 215 yX10_readCrop := ⟨w_1385, w_1387, ws_61⟩
theorem m_X10_182 : CV RX10 182 yX10_freshVillage := ⟨w_1389, w_1391, ws_62⟩
theorem m_X10_219 : CV RX10 219 yX10_readFlood := ⟨w_1398, w_1400, ws_63⟩
theorem m_X10_222 : CV RX10 222 yX10_readLoan := ⟨w_1403, w_1405, ws_64⟩
theorem m_L_36 : CV RL 36 yX10_village := ⟨w_1411, w_1412, w_1413⟩
theorem m_X10_93 : CV RX10 93 yX10_isVillage := ⟨w_1415, w_1417, ws_65⟩
theorem m_X10_89 : CV RX10 89 yX10_villages := ⟨w_1419, w_1421, ws_66⟩
theorem m_X10_241 : CV RX10 241 yX10_of := ⟨w_1424, w_1426, ws_67⟩
theorem m_L_40 : CV RL 40 yX10_takes_ := ⟨w_1428, w_1429, w_1430⟩
theorem m_X10_311 : CV RX10 311 yX10_isFlood := ⟨w_1432, w_1434, ws_68⟩
theorem m_L_44 : CV RL 44 yX10_water := ⟨w_1436, w_1437, w_1438⟩
theorem m_X10_314 : CV RX10 314 yX10_isWeek := ⟨w_1440, w_1442, ws_69⟩
theorem m_X10_317 : CV RX10 317 yX10_year := ⟨w_1444, w_1446, ws_70⟩
theorem m_X10_294 : CV RX10 294 yX10_runs := ⟨w_1448, w_1450, ws_71⟩
theorem m_X10_279 : CV RX10 279 yX10_floodsIn := ⟨w_1452, w_1454, ws_72⟩
theorem m_X10_249 : CV RX10 249 yX10_takerNow := ⟨w_1456, w_1458, ws_73⟩
theorem m_X10_252 : CV RX10 252 yX10_ofFlood := ⟨w_1460, w_1462, ws_74⟩
theorem m_X10_255 : CV RX10 255 yX10_room := ⟨w_1464, w_1466, ws_75⟩
theorem m_X10_258 : CV RX10 258 yX10_owed := ⟨w_1468, w_1470, ws_76⟩
theorem m_X10_282 : CV RX10 282 yX10_loansIn := ⟨w_1472, w_1474, ws_77⟩
theorem m_X10_261 : CV RX10 261 yX10_ofLoan := ⟨w_1476, w_1478, ws_78⟩
theorem m_X10_285 : CV RX10 285 yX10_dueIn := ⟨w_1480, w_1482, ws_79⟩
theorem m_X10_264 : CV RX10 264 yX10_wrongIn := ⟨w_1484, w_1486, ws_80⟩
theorem m_X10_288 : CV RX10 288 yX10_cropsIn := ⟨w_1488, w_1490, ws_81⟩
theorem m_X10_267 : CV RX10 267 yX10_ofCrop := ⟨w_1492, w_1494, ws_82⟩
theorem m_X10_291 : CV RX10 291 yX10_losesIn := ⟨w_1496, w_1498, ws_83⟩
theorem m_L_48 : CV RL 48 yX10_flood := ⟨w_1500, w_1501, w_1502⟩
theorem m_X10_297 : CV RX10 297 yX10_shortOfFlood := ⟨w_1505, w_1507, ws_84⟩
theorem m_L_52 : CV RL 52 yX10_loan := ⟨w_1509, w_1510, w_1511⟩
theorem m_X10_300 : CV RX10 300 yX10_shortOfLoan := ⟨w_1513, w_1515, ws_85⟩
theorem m_L_56 : CV RL 56 yX10_crop := ⟨w_1517, w_1518, w_1519⟩
theorem m_L_60 : CV RL 60 yX10_sum := ⟨w_1521, w_1522, w_1523⟩
theorem m_X10_322 : CV RX10 322 yX10_isPlain := ⟨w_1525, w_1527, ws_86⟩
theorem m_X10_327 : CV RX10 327 yX10_brought := ⟨w_1530, w_1532, ws_87⟩
theorem m_X10_303 : CV RX10 303 yX10_shortOfFloods := ⟨w_1534, w_1536, ws_88⟩
theorem m_X10_306 : CV RX10 306 yX10_shortOfLoans := ⟨w_1538, w_1540, ws_89⟩
theorem m_X10_330 : CV RX10 330 yX10_floodSum := ⟨w_1542, w_1544, ws_90⟩
theorem m_L_64 : CV RL 64 yX10_first := ⟨w_1546, w_1547, w_1548⟩
theorem m_L_68 : CV RL 68 yX10_best := ⟨w_1550, w_1551, w_1552⟩
theorem m_X10_351 : CV RX10 351 yX10_bestTakers := ⟨w_1554, w_1556, ws_91⟩
theorem m_X10_333 : CV RX10 333 yX10_keepsTakers := ⟨w_1558, w_1560, ws_92⟩
theorem m_X10_339 : CV RX10 339 yX10_takersMany := ⟨w_1562, w_1564, ws_93⟩
theorem m_X10_342 : CV RX10 342 yX10_takersAre := ⟨w_1566, w_1568, ws_94⟩
theorem m_X10_345 : CV RX10 345 yX10_shortOfAll := ⟨w_1570, w_1572, ws_95⟩
theorem m_X10_348 : CV RX10 348 yX10_bringsTakersBack := ⟨w_1574, w_1576, ws_96⟩
theorem m_L_72 : CV RL 72 yX10_taker := ⟨w_1578, w_1579, w_1580⟩
theorem m_X10_354 : CV RX10 354 yX10_takerIn := ⟨w_1582, w_1584, ws_97⟩
theorem m_L_76 : CV RL 76 yX10_safe := ⟨w_1586, w_1587, w_1588⟩
theorem m_L_81 : CV RL 81 yX10_hope := ⟨w_1590, w_1591, w_1592⟩
theorem m_X10_363 : CV RX10 363 yX10_hopeAbove := ⟨w_1594, w_1596, ws_98⟩
theorem m_X10_367 : CV RX10 367 yX10_hopeBelow := ⟨w_1598, w_1600, ws_99⟩
theorem m_X10_370 : CS RX10 370 yX10_part := ⟨w_1603, w_1604⟩
theorem m_X10_359 : CS RX10 359 yJ9_abs_067f4 := ⟨w_1606, w_835⟩
theorem m_L_85 : CV RL 85 yX10_wise := ⟨w_1608, w_1609, w_1610⟩
theorem m_X10_380 : CV RX10 380 yX10_wiseTakers := ⟨w_1612, w_1614, ws_100⟩
theorem m_L_89 : CV RL 89 yX10_wisest := ⟨w_1616, w_1617, w_1618⟩
theorem m_L_93 : CV RL 93 yX10_agree := ⟨w_1620, w_1621, w_1622⟩
theorem m_X10_390 : CV RX10 390 yX10_asksMarks := ⟨w_1624, w_1626, ws_101⟩
theorem m_X10_383 : CS RX10 383 yX10_isSlot := ⟨w_1628, w_1629⟩
theorem m_X10_394 : CV RX10 394 yX10_agreeBut := ⟨w_1631, w_1633, ws_102⟩
theorem m_X10_386 : CV RX10 386 yX10_agrees := ⟨w_1635, w_1637, ws_103⟩
theorem m_L_97 : CV RL 97 yX10_who := ⟨w_1639, w_1640, w_1641⟩
theorem m_L_102 : CV RL 102 yX10_sure := ⟨w_1643, w_1644, w_1645⟩
theorem m_L_106 : CV RL 106 yX10_needed := ⟨w_1647, w_1648, w_1649⟩
theorem m_L_110 : CV RL 110 yX10_fair := ⟨w_1651, w_1652, w_1653⟩
theorem m_X10_397 : CV RX10 397 yX10_haveOf := ⟨w_1655, w_1657, ws_104⟩
theorem m_L_114 : CV RL 114 yX10_more := ⟨w_1659, w_1660, w_1661⟩
theorem m_L_118 : CV RL 118 yX10_owes := ⟨w_1663, w_1664, w_1665⟩
theorem m_X10_421 : CV RX10 421 yX10_areTwo := ⟨w_1667, w_1669, ws_105⟩
theorem m_X10_409 : CV RX10 409 yX10_fillDebts := ⟨w_1671, w_1673, ws_106⟩
theorem m_X10_400 : CV RX10 400 yX10_debt := ⟨w_1675, w_1677, ws_107⟩
theorem m_L_122 : CV RL 122 yX10_rings := ⟨w_1679, w_1680, w_1681⟩
theorem m_X10_424 : CV RX10 424 yX10_clears := ⟨w_1683, w_1685, ws_108⟩
theorem m_X10_418 : CV RX10 418 yX10_ringSize := ⟨w_1687, w_1689, ws_109⟩
theorem m_X10_406 : CV RX10 406 yX10_findsRing := ⟨w_1691, w_1693, ws_110⟩
theorem m_X10_403 : CV RX10 403 yX10_isRing := ⟨w_1695, w_1697, ws_111⟩
theorem m_L_126 : CV RL 126 yX10_ring := ⟨w_1699, w_1700, w_1701⟩
theorem m_L_130 : CV RL 130 yX10_left := ⟨w_1703, w_1704, w_1705⟩
theorem m_L_134 : CV RL 134 yX10_struck := ⟨w_1707, w_1708, w_1709⟩
theorem m_X10_434 : CV RX10 434 yX10_strikes := ⟨w_1711, w_1713, ws_112⟩
theorem m_X10_427 : CV RX10 427 yX10_allDebts := ⟨w_1715, w_1717, ws_113⟩
theorem m_X10_430 : CV RX10 430 yX10_nextPaid := ⟨w_1719, w_1721, ws_114⟩
theorem m_X10_437 : CV RX10 437 yX10_ruined := ⟨w_1723, w_1725, ws_115⟩
theorem m_L_138 : CV RL 138 yX10_pays := ⟨w_1727, w_1728, w_1729⟩
theorem m_L_142 : CV RL 142 yX10_law := ⟨w_1731, w_1732, w_1733⟩
theorem m_X10_440 : CS RX10 440 yX10_bits := ⟨w_1735, w_1736⟩
theorem m_L_146 : CV RL 146 yX10_melons := ⟨w_1738, w_1739, w_1740⟩
theorem m_X10_443 : CV RX10 443 yX10_firstCrop := ⟨w_1742, w_1744, ws_116⟩
theorem m_L_150 : CV RL 150 yX10_share := ⟨w_1746, w_1747, w_1748⟩
theorem m_X10_446 : CV RX10 446 yX10_shareOf := ⟨w_1750, w_1752, ws_117⟩
theorem m_L_154 : CV RL 154 yX10_enough := ⟨w_1754, w_1755, w_1756⟩
theorem m_X10_449 : CV RX10 449 yX10_isNeverDry := ⟨w_1758, w_1760, ws_118⟩
theorem m_L_158 : CV RL 158 yX10_year_ := ⟨w_1762, w_1763, w_1764⟩
theorem m_X10_468 : CV RX10 468 yX10_floodsDrawn := ⟨w_1767, w_1769, ws_119⟩
theorem m_X10_463 : CV RX10 463 yX10_draw := ⟨w_1771, w_1773, ws_120⟩
theorem m_L_162 : CV RL 162 yX10_years := ⟨w_1779, w_1780, w_1781⟩
theorem m_L_166 : CV RL 166 yX10_count := ⟨w_1784, w_1785, w_1786⟩
theorem m_L_178 : CV RL 178 yX10_row := ⟨w_1788, w_1789, w_1790⟩
theorem m_L_185 : CV RL 185 yX10_write := ⟨w_1792, w_1793, w_1794⟩
theorem m_X10_474 : CS RX10 474 yX10_cut := ⟨w_1796, w_1797⟩
theorem m_L_189 : CV RL 189 yX10_paste := ⟨w_1799, w_1800, w_1801⟩
