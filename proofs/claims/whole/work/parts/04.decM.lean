theorem dX12_init_0 : decode cX12_init 0 = .ok (.aload_n 0, 1) := by decide +kernel
theorem dX12_init_1 : decode cX12_init 1 = .ok (.invokespecial 1, 3) := by decide +kernel
theorem dX12_init_4 : decode cX12_init 4 = .ok (.aload_n 0, 1) := by decide +kernel
theorem dX12_init_5 : decode cX12_init 5 = .ok (.bipush 36, 2) := by decide +kernel
theorem dX12_init_7 : decode cX12_init 7 = .ok (.newarray .int, 2) := by decide +kernel
theorem dX12_init_9 : decode cX12_init 9 = .ok (.putfield 7, 3) := by decide +kernel
theorem dX12_init_12 : decode cX12_init 12 = .ok (.aload_n 0, 1) := by decide +kernel
theorem dX12_init_13 : decode cX12_init 13 = .ok (.bipush 36, 2) := by decide +kernel
theorem dX12_init_15 : decode cX12_init 15 = .ok (.newarray .int, 2) := by decide +kernel
theorem dX12_init_17 : decode cX12_init 17 = .ok (.putfield 13, 3) := by decide +kernel
theorem dX12_init_20 : decode cX12_init 20 = .ok (.aload_n 0, 1) := by decide +kernel
theorem dX12_init_21 : decode cX12_init 21 = .ok (.iconst 4, 1) := by decide +kernel
theorem dX12_init_22 : decode cX12_init 22 = .ok (.newarray .int, 2) := by decide +kernel
theorem dX12_init_24 : decode cX12_init 24 = .ok (.putfield 16, 3) := by decide +kernel
theorem dX12_init_27 : decode cX12_init 27 = .ok (.aload_n 0, 1) := by decide +kernel
theorem dX12_init_28 : decode cX12_init 28 = .ok (.bipush 8, 2) := by decide +kernel
theorem dX12_init_30 : decode cX12_init 30 = .ok (.newarray .int, 2) := by decide +kernel
theorem dX12_init_32 : decode cX12_init 32 = .ok (.putfield 19, 3) := by decide +kernel
theorem dX12_init_35 : decode cX12_init 35 = .ok (.aload_n 0, 1) := by decide +kernel
theorem dX12_init_36 : decode cX12_init 36 = .ok (.bipush 8, 2) := by decide +kernel
theorem dX12_init_38 : decode cX12_init 38 = .ok (.newarray .int, 2) := by decide +kernel
theorem dX12_init_40 : decode cX12_init 40 = .ok (.putfield 22, 3) := by decide +kernel
theorem dX12_init_43 : decode cX12_init 43 = .ok (.aload_n 0, 1) := by decide +kernel
theorem dX12_init_44 : decode cX12_init 44 = .ok (.bipush 8, 2) := by decide +kernel
theorem dX12_init_46 : decode cX12_init 46 = .ok (.newarray .int, 2) := by decide +kernel
theorem dX12_init_48 : decode cX12_init 48 = .ok (.putfield 25, 3) := by decide +kernel
theorem dX12_init_51 : decode cX12_init 51 = .ok (.aload_n 0, 1) := by decide +kernel
theorem dX12_init_52 : decode cX12_init 52 = .ok (.bipush 8, 2) := by decide +kernel
theorem dX12_init_54 : decode cX12_init 54 = .ok (.newarray .int, 2) := by decide +kernel
theorem dX12_init_56 : decode cX12_init 56 = .ok (.putfield 28, 3) := by decide +kernel
theorem dX12_init_59 : decode cX12_init 59 = .ok (.aload_n 0, 1) := by decide +kernel
theorem dX12_init_60 : decode cX12_init 60 = .ok (.bipush 8, 2) := by decide +kernel
theorem dX12_init_62 : decode cX12_init 62 = .ok (.newarray .int, 2) := by decide +kernel
theorem dX12_init_64 : decode cX12_init 64 = .ok (.putfield 31, 3) := by decide +kernel
theorem dX12_init_67 : decode cX12_init 67 = .ok (.aload_n 0, 1) := by decide +kernel
theorem dX12_init_68 : decode cX12_init 68 = .ok (.bipush 64, 2) := by decide +kernel
theorem dX12_init_70 : decode cX12_init 70 = .ok (.newarray .int, 2) := by decide +kernel
theorem dX12_init_72 : decode cX12_init 72 = .ok (.putfield 34, 3) := by decide +kernel
theorem dX12_init_75 : decode cX12_init 75 = .ok (.aload_n 0, 1) := by decide +kernel
theorem dX12_init_76 : decode cX12_init 76 = .ok (.bipush 8, 2) := by decide +kernel
theorem dX12_init_78 : decode cX12_init 78 = .ok (.newarray .int, 2) := by decide +kernel
theorem dX12_init_80 : decode cX12_init 80 = .ok (.putfield 37, 3) := by decide +kernel
theorem dX12_init_83 : decode cX12_init 83 = .ok (.aload_n 0, 1) := by decide +kernel
theorem dX12_init_84 : decode cX12_init 84 = .ok (.bipush 8, 2) := by decide +kernel
theorem dX12_init_86 : decode cX12_init 86 = .ok (.newarray .int, 2) := by decide +kernel
theorem dX12_init_88 : decode cX12_init 88 = .ok (.putfield 40, 3) := by decide +kernel
theorem dX12_init_91 : decode cX12_init 91 = .ok (.aload_n 0, 1) := by decide +kernel
theorem dX12_init_92 : decode cX12_init 92 = .ok (.bipush 10, 2) := by decide +kernel
theorem dX12_init_94 : decode cX12_init 94 = .ok (.newarray .int, 2) := by decide +kernel
theorem dX12_init_96 : decode cX12_init 96 = .ok (.putfield 43, 3) := by decide +kernel
theorem dX12_init_99 : decode cX12_init 99 = .ok (.aload_n 0, 1) := by decide +kernel
theorem dX12_init_100 : decode cX12_init 100 = .ok (.bipush 8, 2) := by decide +kernel
theorem dX12_init_102 : decode cX12_init 102 = .ok (.newarray .boolean, 2) := by decide +kernel
theorem dX12_init_104 : decode cX12_init 104 = .ok (.putfield 46, 3) := by decide +kernel
theorem dX12_init_107 : decode cX12_init 107 = .ok (.aload_n 0, 1) := by decide +kernel
theorem dX12_init_108 : decode cX12_init 108 = .ok (.bipush 11, 2) := by decide +kernel
theorem dX12_init_110 : decode cX12_init 110 = .ok (.newarray .int, 2) := by decide +kernel
theorem dX12_init_112 : decode cX12_init 112 = .ok (.putfield 50, 3) := by decide +kernel
theorem dX12_init_115 : decode cX12_init 115 = .ok (.aload_n 0, 1) := by decide +kernel
theorem dX12_init_116 : decode cX12_init 116 = .ok (.bipush 10, 2) := by decide +kernel
theorem dX12_init_118 : decode cX12_init 118 = .ok (.newarray .int, 2) := by decide +kernel
theorem dX12_init_120 : decode cX12_init 120 = .ok (.putfield 53, 3) := by decide +kernel
theorem dX12_init_123 : decode cX12_init 123 = .ok (.aload_n 0, 1) := by decide +kernel
theorem dX12_init_124 : decode cX12_init 124 = .ok (.sipush 820, 3) := by decide +kernel
theorem dX12_init_127 : decode cX12_init 127 = .ok (.newarray .int, 2) := by decide +kernel
theorem dX12_init_129 : decode cX12_init 129 = .ok (.putfield 56, 3) := by decide +kernel
theorem dX12_init_132 : decode cX12_init 132 = .ok (.aload_n 0, 1) := by decide +kernel
theorem dX12_init_133 : decode cX12_init 133 = .ok (.bipush 11, 2) := by decide +kernel
theorem dX12_init_135 : decode cX12_init 135 = .ok (.newarray .int, 2) := by decide +kernel
theorem dX12_init_137 : decode cX12_init 137 = .ok (.putfield 59, 3) := by decide +kernel
theorem dX12_init_140 : decode cX12_init 140 = .ok (.aload_n 0, 1) := by decide +kernel
theorem dX12_init_141 : decode cX12_init 141 = .ok (.bipush 10, 2) := by decide +kernel
theorem dX12_init_143 : decode cX12_init 143 = .ok (.newarray .int, 2) := by decide +kernel
theorem dX12_init_145 : decode cX12_init 145 = .ok (.putfield 62, 3) := by decide +kernel
theorem dX12_init_148 : decode cX12_init 148 = .ok (.aload_n 0, 1) := by decide +kernel
theorem dX12_init_149 : decode cX12_init 149 = .ok (.sipush 820, 3) := by decide +kernel
theorem dX12_init_152 : decode cX12_init 152 = .ok (.newarray .int, 2) := by decide +kernel
theorem dX12_init_154 : decode cX12_init 154 = .ok (.putfield 65, 3) := by decide +kernel
theorem dX12_init_157 : decode cX12_init 157 = .ok (.aload_n 0, 1) := by decide +kernel
theorem dX12_init_158 : decode cX12_init 158 = .ok (.sipush 420, 3) := by decide +kernel
theorem dX12_init_161 : decode cX12_init 161 = .ok (.newarray .int, 2) := by decide +kernel
theorem dX12_init_163 : decode cX12_init 163 = .ok (.putfield 68, 3) := by decide +kernel
theorem dX12_init_166 : decode cX12_init 166 = .ok (.aload_n 0, 1) := by decide +kernel
theorem dX12_init_167 : decode cX12_init 167 = .ok (.sipush 400, 3) := by decide +kernel
theorem dX12_init_170 : decode cX12_init 170 = .ok (.newarray .int, 2) := by decide +kernel
theorem dX12_init_172 : decode cX12_init 172 = .ok (.putfield 71, 3) := by decide +kernel
theorem dX12_init_175 : decode cX12_init 175 = .ok (.aload_n 0, 1) := by decide +kernel
theorem dX12_init_176 : decode cX12_init 176 = .ok (.iconst (-1), 1) := by decide +kernel
theorem dX12_init_177 : decode cX12_init 177 = .ok (.putfield 74, 3) := by decide +kernel
theorem dX12_init_180 : decode cX12_init 180 = .ok (.aload_n 0, 1) := by decide +kernel
theorem dX12_init_181 : decode cX12_init 181 = .ok (.bipush 8, 2) := by decide +kernel
theorem dX12_init_183 : decode cX12_init 183 = .ok (.newarray .int, 2) := by decide +kernel
theorem dX12_init_185 : decode cX12_init 185 = .ok (.putfield 78, 3) := by decide +kernel
theorem dX12_init_188 : decode cX12_init 188 = .ok (.aload_n 0, 1) := by decide +kernel
theorem dX12_init_189 : decode cX12_init 189 = .ok (.bipush 8, 2) := by decide +kernel
theorem dX12_init_191 : decode cX12_init 191 = .ok (.newarray .int, 2) := by decide +kernel
theorem dX12_init_193 : decode cX12_init 193 = .ok (.putfield 81, 3) := by decide +kernel
theorem dX12_init_196 : decode cX12_init 196 = .ok (.aload_n 0, 1) := by decide +kernel
theorem dX12_init_197 : decode cX12_init 197 = .ok (.bipush 8, 2) := by decide +kernel
theorem dX12_init_199 : decode cX12_init 199 = .ok (.newarray .int, 2) := by decide +kernel
theorem dX12_init_201 : decode cX12_init 201 = .ok (.putfield 84, 3) := by decide +kernel
theorem dX12_init_204 : decode cX12_init 204 = .ok (.aload_n 0, 1) := by decide +kernel
theorem dX12_init_205 : decode cX12_init 205 = .ok (.bipush 9, 2) := by decide +kernel
theorem dX12_init_207 : decode cX12_init 207 = .ok (.newarray .int, 2) := by decide +kernel
theorem dX12_init_209 : decode cX12_init 209 = .ok (.putfield 87, 3) := by decide +kernel
theorem dX12_init_212 : decode cX12_init 212 = .ok (.aload_n 0, 1) := by decide +kernel
theorem dX12_init_213 : decode cX12_init 213 = .ok (.bipush 8, 2) := by decide +kernel
theorem dX12_init_215 : decode cX12_init 215 = .ok (.newarray .int, 2) := by decide +kernel
theorem dX12_init_217 : decode cX12_init 217 = .ok (.putfield 90, 3) := by decide +kernel
theorem dX12_init_220 : decode cX12_init 220 = .ok (.aload_n 0, 1) := by decide +kernel
theorem dX12_init_221 : decode cX12_init 221 = .ok (.bipush 8, 2) := by decide +kernel
theorem dX12_init_223 : decode cX12_init 223 = .ok (.newarray .int, 2) := by decide +kernel
theorem dX12_init_225 : decode cX12_init 225 = .ok (.putfield 93, 3) := by decide +kernel
theorem dX12_init_228 : decode cX12_init 228 = .ok (.aload_n 0, 1) := by decide +kernel
theorem dX12_init_229 : decode cX12_init 229 = .ok (.sipush 1024, 3) := by decide +kernel
theorem dX12_init_232 : decode cX12_init 232 = .ok (.newarray .int, 2) := by decide +kernel
theorem dX12_init_234 : decode cX12_init 234 = .ok (.putfield 96, 3) := by decide +kernel
theorem dX12_init_237 : decode cX12_init 237 = .ok (.aload_n 0, 1) := by decide +kernel
theorem dX12_init_238 : decode cX12_init 238 = .ok (.sipush 9216, 3) := by decide +kernel
theorem dX12_init_241 : decode cX12_init 241 = .ok (.newarray .int, 2) := by decide +kernel
theorem dX12_init_243 : decode cX12_init 243 = .ok (.putfield 99, 3) := by decide +kernel
theorem dX12_init_246 : decode cX12_init 246 = .ok (.aload_n 0, 1) := by decide +kernel
theorem dX12_init_247 : decode cX12_init 247 = .ok (.bipush 8, 2) := by decide +kernel
theorem dX12_init_249 : decode cX12_init 249 = .ok (.newarray .int, 2) := by decide +kernel
theorem dX12_init_251 : decode cX12_init 251 = .ok (.putfield 102, 3) := by decide +kernel
theorem dX12_init_254 : decode cX12_init 254 = .ok (.iconst 0, 1) := by decide +kernel
theorem dX12_init_255 : decode cX12_init 255 = .ok (.istore_n 1, 1) := by decide +kernel
theorem dX12_init_256 : decode cX12_init 256 = .ok (.iload_n 1, 1) := by decide +kernel
theorem dX12_init_257 : decode cX12_init 257 = .ok (.bipush 36, 2) := by decide +kernel
theorem dX12_init_259 : decode cX12_init 259 = .ok (.if_icmp .ge 16, 3) := by decide +kernel
theorem dX12_init_262 : decode cX12_init 262 = .ok (.aload_n 0, 1) := by decide +kernel
theorem dX12_init_263 : decode cX12_init 263 = .ok (.getfield 13, 3) := by decide +kernel
theorem dX12_init_266 : decode cX12_init 266 = .ok (.iload_n 1, 1) := by decide +kernel
theorem dX12_init_267 : decode cX12_init 267 = .ok (.iconst 1, 1) := by decide +kernel
theorem dX12_init_268 : decode cX12_init 268 = .ok (.iastore, 1) := by decide +kernel
theorem dX12_init_269 : decode cX12_init 269 = .ok (.iinc 1 1, 3) := by decide +kernel
theorem dX12_init_272 : decode cX12_init 272 = .ok (.goto (-16), 3) := by decide +kernel
theorem dX12_init_275 : decode cX12_init 275 = .ok (.iconst 0, 1) := by decide +kernel
theorem dX12_init_276 : decode cX12_init 276 = .ok (.istore_n 1, 1) := by decide +kernel
theorem dX12_init_277 : decode cX12_init 277 = .ok (.iload_n 1, 1) := by decide +kernel
theorem dX12_init_278 : decode cX12_init 278 = .ok (.iconst 4, 1) := by decide +kernel
theorem dX12_init_279 : decode cX12_init 279 = .ok (.if_icmp .ge 17, 3) := by decide +kernel
theorem dX12_init_282 : decode cX12_init 282 = .ok (.aload_n 0, 1) := by decide +kernel
theorem dX12_init_283 : decode cX12_init 283 = .ok (.getfield 16, 3) := by decide +kernel
theorem dX12_init_286 : decode cX12_init 286 = .ok (.iload_n 1, 1) := by decide +kernel
theorem dX12_init_287 : decode cX12_init 287 = .ok (.bipush 50, 2) := by decide +kernel
theorem dX12_init_289 : decode cX12_init 289 = .ok (.iastore, 1) := by decide +kernel
theorem dX12_init_290 : decode cX12_init 290 = .ok (.iinc 1 1, 3) := by decide +kernel
theorem dX12_init_293 : decode cX12_init 293 = .ok (.goto (-16), 3) := by decide +kernel
theorem dX12_init_296 : decode cX12_init 296 = .ok (.return_, 1) := by decide +kernel
theorem dX12_isIn_0 : decode cX12_isIn 0 = .ok (.iload_n 0, 1) := by decide +kernel
theorem dX12_isIn_1 : decode cX12_isIn 1 = .ok (.iload_n 1, 1) := by decide +kernel
theorem dX12_isIn_2 : decode cX12_isIn 2 = .ok (.if_icmp .lt 12, 3) := by decide +kernel
theorem dX12_isIn_5 : decode cX12_isIn 5 = .ok (.iload_n 0, 1) := by decide +kernel
theorem dX12_isIn_6 : decode cX12_isIn 6 = .ok (.iload_n 2, 1) := by decide +kernel
theorem dX12_isIn_7 : decode cX12_isIn 7 = .ok (.if_icmp .gt 7, 3) := by decide +kernel
theorem dX12_isIn_10 : decode cX12_isIn 10 = .ok (.iconst 1, 1) := by decide +kernel
theorem dX12_isIn_11 : decode cX12_isIn 11 = .ok (.goto 4, 3) := by decide +kernel
theorem dX12_isIn_14 : decode cX12_isIn 14 = .ok (.iconst 0, 1) := by decide +kernel
theorem dX12_isIn_15 : decode cX12_isIn 15 = .ok (.ireturn, 1) := by decide +kernel
theorem dX12_isVillage_0 : decode cX12_isVillage 0 = .ok (.iload_n 0, 1) := by decide +kernel
theorem dX12_isVillage_1 : decode cX12_isVillage 1 = .ok (.iconst 0, 1) := by decide +kernel
theorem dX12_isVillage_2 : decode cX12_isVillage 2 = .ok (.iconst 3, 1) := by decide +kernel
theorem dX12_isVillage_3 : decode cX12_isVillage 3 = .ok (.invokestatic 105, 3) := by decide +kernel
theorem dX12_isVillage_6 : decode cX12_isVillage 6 = .ok (.ireturn, 1) := by decide +kernel
theorem dX12_isHousehold_0 : decode cX12_isHousehold 0 = .ok (.iload_n 1, 1) := by decide +kernel
theorem dX12_isHousehold_1 : decode cX12_isHousehold 1 = .ok (.iconst 0, 1) := by decide +kernel
theorem dX12_isHousehold_2 : decode cX12_isHousehold 2 = .ok (.aload_n 0, 1) := by decide +kernel
theorem dX12_isHousehold_3 : decode cX12_isHousehold 3 = .ok (.getfield 109, 3) := by decide +kernel
theorem dX12_isHousehold_6 : decode cX12_isHousehold 6 = .ok (.iconst 1, 1) := by decide +kernel
theorem dX12_isHousehold_7 : decode cX12_isHousehold 7 = .ok (.isub, 1) := by decide +kernel
theorem dX12_isHousehold_8 : decode cX12_isHousehold 8 = .ok (.invokestatic 105, 3) := by decide +kernel
theorem dX12_isHousehold_11 : decode cX12_isHousehold 11 = .ok (.ireturn, 1) := by decide +kernel
theorem dX12_water_0 : decode cX12_water 0 = .ok (.iload_n 1, 1) := by decide +kernel
theorem dX12_water_1 : decode cX12_water 1 = .ok (.aload_n 0, 1) := by decide +kernel
theorem dX12_water_2 : decode cX12_water 2 = .ok (.getfield 112, 3) := by decide +kernel
theorem dX12_water_5 : decode cX12_water 5 = .ok (.bipush 35, 2) := by decide +kernel
theorem dX12_water_7 : decode cX12_water 7 = .ok (.invokestatic 105, 3) := by decide +kernel
theorem dX12_water_10 : decode cX12_water 10 = .ok (.ifCond .eq 13, 3) := by decide +kernel
theorem dX12_water_13 : decode cX12_water 13 = .ok (.iload_n 2, 1) := by decide +kernel
theorem dX12_water_14 : decode cX12_water 14 = .ok (.iconst 0, 1) := by decide +kernel
theorem dX12_water_15 : decode cX12_water 15 = .ok (.bipush 99, 2) := by decide +kernel
theorem dX12_water_17 : decode cX12_water 17 = .ok (.invokestatic 105, 3) := by decide +kernel
theorem dX12_water_20 : decode cX12_water 20 = .ok (.ifCond .ne 5, 3) := by decide +kernel
theorem dX12_water_23 : decode cX12_water 23 = .ok (.iconst 0, 1) := by decide +kernel
theorem dX12_water_24 : decode cX12_water 24 = .ok (.ireturn, 1) := by decide +kernel
theorem dX12_water_25 : decode cX12_water 25 = .ok (.aload_n 0, 1) := by decide +kernel
theorem dX12_water_26 : decode cX12_water 26 = .ok (.getfield 7, 3) := by decide +kernel
theorem dX12_water_29 : decode cX12_water 29 = .ok (.iload_n 1, 1) := by decide +kernel
theorem dX12_water_30 : decode cX12_water 30 = .ok (.iload_n 2, 1) := by decide +kernel
theorem dX12_water_31 : decode cX12_water 31 = .ok (.iastore, 1) := by decide +kernel
theorem dX12_water_32 : decode cX12_water 32 = .ok (.iconst 1, 1) := by decide +kernel
theorem dX12_water_33 : decode cX12_water 33 = .ok (.ireturn, 1) := by decide +kernel
theorem dX12_village_0 : decode cX12_village 0 = .ok (.iload_n 1, 1) := by decide +kernel
theorem dX12_village_1 : decode cX12_village 1 = .ok (.invokestatic 115, 3) := by decide +kernel
theorem dX12_village_4 : decode cX12_village 4 = .ok (.ifCond .eq 13, 3) := by decide +kernel
theorem dX12_village_7 : decode cX12_village 7 = .ok (.iload_n 2, 1) := by decide +kernel
theorem dX12_village_8 : decode cX12_village 8 = .ok (.iconst 0, 1) := by decide +kernel
theorem dX12_village_9 : decode cX12_village 9 = .ok (.bipush 99, 2) := by decide +kernel
theorem dX12_village_11 : decode cX12_village 11 = .ok (.invokestatic 105, 3) := by decide +kernel
theorem dX12_village_14 : decode cX12_village 14 = .ok (.ifCond .ne 5, 3) := by decide +kernel
theorem dX12_village_17 : decode cX12_village 17 = .ok (.iconst 0, 1) := by decide +kernel
theorem dX12_village_18 : decode cX12_village 18 = .ok (.ireturn, 1) := by decide +kernel
theorem dX12_village_19 : decode cX12_village 19 = .ok (.aload_n 0, 1) := by decide +kernel
theorem dX12_village_20 : decode cX12_village 20 = .ok (.getfield 16, 3) := by decide +kernel
theorem dX12_village_23 : decode cX12_village 23 = .ok (.iload_n 1, 1) := by decide +kernel
theorem dX12_village_24 : decode cX12_village 24 = .ok (.iload_n 2, 1) := by decide +kernel
theorem dX12_village_25 : decode cX12_village 25 = .ok (.iastore, 1) := by decide +kernel
theorem dX12_village_26 : decode cX12_village 26 = .ok (.iconst 1, 1) := by decide +kernel
theorem dX12_village_27 : decode cX12_village 27 = .ok (.ireturn, 1) := by decide +kernel
theorem dX12_drownedIn_0 : decode cX12_drownedIn 0 = .ok (.iconst 0, 1) := by decide +kernel
theorem dX12_drownedIn_1 : decode cX12_drownedIn 1 = .ok (.istore_n 2, 1) := by decide +kernel
theorem dX12_drownedIn_2 : decode cX12_drownedIn 2 = .ok (.iload_n 2, 1) := by decide +kernel
theorem dX12_drownedIn_3 : decode cX12_drownedIn 3 = .ok (.bipush 36, 2) := by decide +kernel
theorem dX12_drownedIn_5 : decode cX12_drownedIn 5 = .ok (.if_icmp .ge 24, 3) := by decide +kernel
theorem dX12_drownedIn_8 : decode cX12_drownedIn 8 = .ok (.aload_n 0, 1) := by decide +kernel
theorem dX12_drownedIn_9 : decode cX12_drownedIn 9 = .ok (.getfield 7, 3) := by decide +kernel
theorem dX12_drownedIn_12 : decode cX12_drownedIn 12 = .ok (.iload_n 2, 1) := by decide +kernel
theorem dX12_drownedIn_13 : decode cX12_drownedIn 13 = .ok (.iaload, 1) := by decide +kernel
theorem dX12_drownedIn_14 : decode cX12_drownedIn 14 = .ok (.aload_n 0, 1) := by decide +kernel
theorem dX12_drownedIn_15 : decode cX12_drownedIn 15 = .ok (.getfield 16, 3) := by decide +kernel
theorem dX12_drownedIn_18 : decode cX12_drownedIn 18 = .ok (.iload_n 1, 1) := by decide +kernel
theorem dX12_drownedIn_19 : decode cX12_drownedIn 19 = .ok (.iaload, 1) := by decide +kernel
theorem dX12_drownedIn_20 : decode cX12_drownedIn 20 = .ok (.if_icmp .ge 9, 3) := by decide +kernel
theorem dX12_drownedIn_23 : decode cX12_drownedIn 23 = .ok (.iinc 2 1, 3) := by decide +kernel
theorem dX12_drownedIn_26 : decode cX12_drownedIn 26 = .ok (.goto (-24), 3) := by decide +kernel
theorem dX12_drownedIn_29 : decode cX12_drownedIn 29 = .ok (.iload_n 2, 1) := by decide +kernel
theorem dX12_drownedIn_30 : decode cX12_drownedIn 30 = .ok (.ireturn, 1) := by decide +kernel
theorem dX12_drowned_0 : decode cX12_drowned 0 = .ok (.iload_n 1, 1) := by decide +kernel
theorem dX12_drowned_1 : decode cX12_drowned 1 = .ok (.invokestatic 115, 3) := by decide +kernel
theorem dX12_drowned_4 : decode cX12_drowned 4 = .ok (.ifCond .eq 11, 3) := by decide +kernel
theorem dX12_drowned_7 : decode cX12_drowned 7 = .ok (.aload_n 0, 1) := by decide +kernel
theorem dX12_drowned_8 : decode cX12_drowned 8 = .ok (.iload_n 1, 1) := by decide +kernel
theorem dX12_drowned_9 : decode cX12_drowned 9 = .ok (.invokevirtual 119, 3) := by decide +kernel
theorem dX12_drowned_12 : decode cX12_drowned 12 = .ok (.goto 4, 3) := by decide +kernel
theorem dX12_drowned_15 : decode cX12_drowned 15 = .ok (.iconst (-1), 1) := by decide +kernel
theorem dX12_drowned_16 : decode cX12_drowned 16 = .ok (.ireturn, 1) := by decide +kernel
theorem dX12_household_0 : decode cX12_household 0 = .ok (.iload_n 1, 1) := by decide +kernel
theorem dX12_household_1 : decode cX12_household 1 = .ok (.invokestatic 115, 3) := by decide +kernel
theorem dX12_household_4 : decode cX12_household 4 = .ok (.ifCond .eq 43, 3) := by decide +kernel
theorem dX12_household_7 : decode cX12_household 7 = .ok (.iload_n 2, 1) := by decide +kernel
theorem dX12_household_8 : decode cX12_household 8 = .ok (.iconst 1, 1) := by decide +kernel
theorem dX12_household_9 : decode cX12_household 9 = .ok (.bipush 20, 2) := by decide +kernel
theorem dX12_household_11 : decode cX12_household 11 = .ok (.invokestatic 105, 3) := by decide +kernel
theorem dX12_household_14 : decode cX12_household 14 = .ok (.ifCond .eq 33, 3) := by decide +kernel
theorem dX12_household_17 : decode cX12_household 17 = .ok (.iload_n 3, 1) := by decide +kernel
theorem dX12_household_18 : decode cX12_household 18 = .ok (.iconst 0, 1) := by decide +kernel
theorem dX12_household_19 : decode cX12_household 19 = .ok (.bipush 99, 2) := by decide +kernel
theorem dX12_household_21 : decode cX12_household 21 = .ok (.invokestatic 105, 3) := by decide +kernel
theorem dX12_household_24 : decode cX12_household 24 = .ok (.ifCond .eq 23, 3) := by decide +kernel
theorem dX12_household_27 : decode cX12_household 27 = .ok (.iload 4, 2) := by decide +kernel
theorem dX12_household_29 : decode cX12_household 29 = .ok (.iconst 0, 1) := by decide +kernel
theorem dX12_household_30 : decode cX12_household 30 = .ok (.bipush 99, 2) := by decide +kernel
theorem dX12_household_32 : decode cX12_household 32 = .ok (.invokestatic 105, 3) := by decide +kernel
theorem dX12_household_35 : decode cX12_household 35 = .ok (.ifCond .eq 12, 3) := by decide +kernel
theorem dX12_household_38 : decode cX12_household 38 = .ok (.aload_n 0, 1) := by decide +kernel
theorem dX12_household_39 : decode cX12_household 39 = .ok (.getfield 109, 3) := by decide +kernel
theorem dX12_household_42 : decode cX12_household 42 = .ok (.bipush 8, 2) := by decide +kernel
theorem dX12_household_44 : decode cX12_household 44 = .ok (.if_icmp .ne 5, 3) := by decide +kernel
theorem dX12_household_47 : decode cX12_household 47 = .ok (.iconst (-1), 1) := by decide +kernel
theorem dX12_household_48 : decode cX12_household 48 = .ok (.ireturn, 1) := by decide +kernel
theorem dX12_household_49 : decode cX12_household 49 = .ok (.aload_n 0, 1) := by decide +kernel
theorem dX12_household_50 : decode cX12_household 50 = .ok (.getfield 109, 3) := by decide +kernel
theorem dX12_household_53 : decode cX12_household 53 = .ok (.istore 6, 2) := by decide +kernel
theorem dX12_household_55 : decode cX12_household 55 = .ok (.aload_n 0, 1) := by decide +kernel
theorem dX12_household_56 : decode cX12_household 56 = .ok (.dup, 1) := by decide +kernel
theorem dX12_household_57 : decode cX12_household 57 = .ok (.getfield 109, 3) := by decide +kernel
theorem dX12_household_60 : decode cX12_household 60 = .ok (.iconst 1, 1) := by decide +kernel
theorem dX12_household_61 : decode cX12_household 61 = .ok (.iadd, 1) := by decide +kernel
theorem dX12_household_62 : decode cX12_household 62 = .ok (.putfield 109, 3) := by decide +kernel
theorem dX12_household_65 : decode cX12_household 65 = .ok (.aload_n 0, 1) := by decide +kernel
theorem dX12_household_66 : decode cX12_household 66 = .ok (.getfield 19, 3) := by decide +kernel
theorem dX12_household_69 : decode cX12_household 69 = .ok (.iload 6, 2) := by decide +kernel
theorem dX12_household_71 : decode cX12_household 71 = .ok (.iload_n 1, 1) := by decide +kernel
theorem dX12_household_72 : decode cX12_household 72 = .ok (.iastore, 1) := by decide +kernel
theorem dX12_household_73 : decode cX12_household 73 = .ok (.aload_n 0, 1) := by decide +kernel
theorem dX12_household_74 : decode cX12_household 74 = .ok (.getfield 22, 3) := by decide +kernel
theorem dX12_household_77 : decode cX12_household 77 = .ok (.iload 6, 2) := by decide +kernel
theorem dX12_household_79 : decode cX12_household 79 = .ok (.iload_n 2, 1) := by decide +kernel
theorem dX12_household_80 : decode cX12_household 80 = .ok (.iastore, 1) := by decide +kernel
theorem dX12_household_81 : decode cX12_household 81 = .ok (.aload_n 0, 1) := by decide +kernel
theorem dX12_household_82 : decode cX12_household 82 = .ok (.getfield 25, 3) := by decide +kernel
theorem dX12_household_85 : decode cX12_household 85 = .ok (.iload 6, 2) := by decide +kernel
theorem dX12_household_87 : decode cX12_household 87 = .ok (.iload_n 3, 1) := by decide +kernel
theorem dX12_household_88 : decode cX12_household 88 = .ok (.iastore, 1) := by decide +kernel
theorem dX12_household_89 : decode cX12_household 89 = .ok (.aload_n 0, 1) := by decide +kernel
theorem dX12_household_90 : decode cX12_household 90 = .ok (.getfield 28, 3) := by decide +kernel
theorem dX12_household_93 : decode cX12_household 93 = .ok (.iload 6, 2) := by decide +kernel
theorem dX12_household_95 : decode cX12_household 95 = .ok (.iload 4, 2) := by decide +kernel
theorem dX12_household_97 : decode cX12_household 97 = .ok (.iastore, 1) := by decide +kernel
theorem dX12_household_98 : decode cX12_household 98 = .ok (.aload_n 0, 1) := by decide +kernel
theorem dX12_household_99 : decode cX12_household 99 = .ok (.getfield 46, 3) := by decide +kernel
theorem dX12_household_102 : decode cX12_household 102 = .ok (.iload 6, 2) := by decide +kernel
theorem dX12_household_104 : decode cX12_household 104 = .ok (.iload 5, 2) := by decide +kernel
theorem dX12_household_106 : decode cX12_household 106 = .ok (.bastore, 1) := by decide +kernel
theorem dX12_household_107 : decode cX12_household 107 = .ok (.aload_n 0, 1) := by decide +kernel
theorem dX12_household_108 : decode cX12_household 108 = .ok (.getfield 31, 3) := by decide +kernel
theorem dX12_household_111 : decode cX12_household 111 = .ok (.iload 6, 2) := by decide +kernel
theorem dX12_household_113 : decode cX12_household 113 = .ok (.iconst (-1), 1) := by decide +kernel
theorem dX12_household_114 : decode cX12_household 114 = .ok (.iastore, 1) := by decide +kernel
theorem dX12_household_115 : decode cX12_household 115 = .ok (.iload 6, 2) := by decide +kernel
theorem dX12_household_117 : decode cX12_household 117 = .ok (.ireturn, 1) := by decide +kernel
theorem dX12_papers_0 : decode cX12_papers 0 = .ok (.aload_n 0, 1) := by decide +kernel
theorem dX12_papers_1 : decode cX12_papers 1 = .ok (.iload_n 1, 1) := by decide +kernel
theorem dX12_papers_2 : decode cX12_papers 2 = .ok (.invokevirtual 123, 3) := by decide +kernel
theorem dX12_papers_5 : decode cX12_papers 5 = .ok (.ifCond .eq 12, 3) := by decide +kernel
theorem dX12_papers_8 : decode cX12_papers 8 = .ok (.aload_n 0, 1) := by decide +kernel
theorem dX12_papers_9 : decode cX12_papers 9 = .ok (.getfield 46, 3) := by decide +kernel
theorem dX12_papers_12 : decode cX12_papers 12 = .ok (.iload_n 1, 1) := by decide +kernel
theorem dX12_papers_13 : decode cX12_papers 13 = .ok (.baload, 1) := by decide +kernel
theorem dX12_papers_14 : decode cX12_papers 14 = .ok (.ifCond .eq 5, 3) := by decide +kernel
theorem dX12_papers_17 : decode cX12_papers 17 = .ok (.iconst 0, 1) := by decide +kernel
theorem dX12_papers_18 : decode cX12_papers 18 = .ok (.ireturn, 1) := by decide +kernel
theorem dX12_papers_19 : decode cX12_papers 19 = .ok (.aload_n 0, 1) := by decide +kernel
theorem dX12_papers_20 : decode cX12_papers 20 = .ok (.getfield 46, 3) := by decide +kernel
theorem dX12_papers_23 : decode cX12_papers 23 = .ok (.iload_n 1, 1) := by decide +kernel
theorem dX12_papers_24 : decode cX12_papers 24 = .ok (.iconst 1, 1) := by decide +kernel
theorem dX12_papers_25 : decode cX12_papers 25 = .ok (.bastore, 1) := by decide +kernel
theorem dX12_papers_26 : decode cX12_papers 26 = .ok (.iconst 1, 1) := by decide +kernel
theorem dX12_papers_27 : decode cX12_papers 27 = .ok (.ireturn, 1) := by decide +kernel
theorem dX12_tie_0 : decode cX12_tie 0 = .ok (.aload_n 0, 1) := by decide +kernel
theorem dX12_tie_1 : decode cX12_tie 1 = .ok (.iload_n 1, 1) := by decide +kernel
theorem dX12_tie_2 : decode cX12_tie 2 = .ok (.invokevirtual 123, 3) := by decide +kernel
theorem dX12_tie_5 : decode cX12_tie 5 = .ok (.ifCond .eq 26, 3) := by decide +kernel
theorem dX12_tie_8 : decode cX12_tie 8 = .ok (.aload_n 0, 1) := by decide +kernel
theorem dX12_tie_9 : decode cX12_tie 9 = .ok (.iload_n 2, 1) := by decide +kernel
theorem dX12_tie_10 : decode cX12_tie 10 = .ok (.invokevirtual 123, 3) := by decide +kernel
theorem dX12_tie_13 : decode cX12_tie 13 = .ok (.ifCond .eq 18, 3) := by decide +kernel
theorem dX12_tie_16 : decode cX12_tie 16 = .ok (.iload_n 1, 1) := by decide +kernel
theorem dX12_tie_17 : decode cX12_tie 17 = .ok (.iload_n 2, 1) := by decide +kernel
theorem dX12_tie_18 : decode cX12_tie 18 = .ok (.if_icmp .eq 13, 3) := by decide +kernel
theorem dX12_tie_21 : decode cX12_tie 21 = .ok (.iload_n 3, 1) := by decide +kernel
theorem dX12_tie_22 : decode cX12_tie 22 = .ok (.iconst 0, 1) := by decide +kernel
theorem dX12_tie_23 : decode cX12_tie 23 = .ok (.bipush 9, 2) := by decide +kernel
theorem dX12_tie_25 : decode cX12_tie 25 = .ok (.invokestatic 105, 3) := by decide +kernel
theorem dX12_tie_28 : decode cX12_tie 28 = .ok (.ifCond .ne 5, 3) := by decide +kernel
theorem dX12_tie_31 : decode cX12_tie 31 = .ok (.iconst 0, 1) := by decide +kernel
theorem dX12_tie_32 : decode cX12_tie 32 = .ok (.ireturn, 1) := by decide +kernel
theorem dX12_tie_33 : decode cX12_tie 33 = .ok (.aload_n 0, 1) := by decide +kernel
theorem dX12_tie_34 : decode cX12_tie 34 = .ok (.getfield 34, 3) := by decide +kernel
theorem dX12_tie_37 : decode cX12_tie 37 = .ok (.bipush 8, 2) := by decide +kernel
theorem dX12_tie_39 : decode cX12_tie 39 = .ok (.iload_n 1, 1) := by decide +kernel
theorem dX12_tie_40 : decode cX12_tie 40 = .ok (.imul, 1) := by decide +kernel
theorem dX12_tie_41 : decode cX12_tie 41 = .ok (.iload_n 2, 1) := by decide +kernel
theorem dX12_tie_42 : decode cX12_tie 42 = .ok (.iadd, 1) := by decide +kernel
theorem dX12_tie_43 : decode cX12_tie 43 = .ok (.iload_n 3, 1) := by decide +kernel
theorem dX12_tie_44 : decode cX12_tie 44 = .ok (.iastore, 1) := by decide +kernel
theorem dX12_tie_45 : decode cX12_tie 45 = .ok (.aload_n 0, 1) := by decide +kernel
theorem dX12_tie_46 : decode cX12_tie 46 = .ok (.getfield 34, 3) := by decide +kernel
theorem dX12_tie_49 : decode cX12_tie 49 = .ok (.bipush 8, 2) := by decide +kernel
theorem dX12_tie_51 : decode cX12_tie 51 = .ok (.iload_n 2, 1) := by decide +kernel
theorem dX12_tie_52 : decode cX12_tie 52 = .ok (.imul, 1) := by decide +kernel
theorem dX12_tie_53 : decode cX12_tie 53 = .ok (.iload_n 1, 1) := by decide +kernel
theorem dX12_tie_54 : decode cX12_tie 54 = .ok (.iadd, 1) := by decide +kernel
theorem dX12_tie_55 : decode cX12_tie 55 = .ok (.iload_n 3, 1) := by decide +kernel
theorem dX12_tie_56 : decode cX12_tie 56 = .ok (.iastore, 1) := by decide +kernel
theorem dX12_tie_57 : decode cX12_tie 57 = .ok (.iconst 1, 1) := by decide +kernel
theorem dX12_tie_58 : decode cX12_tie 58 = .ok (.ireturn, 1) := by decide +kernel
theorem dX12_site_0 : decode cX12_site 0 = .ok (.iload_n 1, 1) := by decide +kernel
theorem dX12_site_1 : decode cX12_site 1 = .ok (.iconst 0, 1) := by decide +kernel
theorem dX12_site_2 : decode cX12_site 2 = .ok (.bipush 20, 2) := by decide +kernel
theorem dX12_site_4 : decode cX12_site 4 = .ok (.invokestatic 105, 3) := by decide +kernel
theorem dX12_site_7 : decode cX12_site 7 = .ok (.ifCond .eq 22, 3) := by decide +kernel
theorem dX12_site_10 : decode cX12_site 10 = .ok (.iload_n 2, 1) := by decide +kernel
theorem dX12_site_11 : decode cX12_site 11 = .ok (.iconst 0, 1) := by decide +kernel
theorem dX12_site_12 : decode cX12_site 12 = .ok (.bipush 20, 2) := by decide +kernel
theorem dX12_site_14 : decode cX12_site 14 = .ok (.invokestatic 105, 3) := by decide +kernel
theorem dX12_site_17 : decode cX12_site 17 = .ok (.ifCond .eq 12, 3) := by decide +kernel
theorem dX12_site_20 : decode cX12_site 20 = .ok (.aload_n 0, 1) := by decide +kernel
theorem dX12_site_21 : decode cX12_site 21 = .ok (.getfield 126, 3) := by decide +kernel
theorem dX12_site_24 : decode cX12_site 24 = .ok (.bipush 8, 2) := by decide +kernel
theorem dX12_site_26 : decode cX12_site 26 = .ok (.if_icmp .ne 5, 3) := by decide +kernel
theorem dX12_site_29 : decode cX12_site 29 = .ok (.iconst (-1), 1) := by decide +kernel
theorem dX12_site_30 : decode cX12_site 30 = .ok (.ireturn, 1) := by decide +kernel
theorem dX12_site_31 : decode cX12_site 31 = .ok (.aload_n 0, 1) := by decide +kernel
theorem dX12_site_32 : decode cX12_site 32 = .ok (.getfield 37, 3) := by decide +kernel
theorem dX12_site_35 : decode cX12_site 35 = .ok (.aload_n 0, 1) := by decide +kernel
theorem dX12_site_36 : decode cX12_site 36 = .ok (.getfield 126, 3) := by decide +kernel
theorem dX12_site_39 : decode cX12_site 39 = .ok (.iload_n 1, 1) := by decide +kernel
theorem dX12_site_40 : decode cX12_site 40 = .ok (.iastore, 1) := by decide +kernel
theorem dX12_site_41 : decode cX12_site 41 = .ok (.aload_n 0, 1) := by decide +kernel
theorem dX12_site_42 : decode cX12_site 42 = .ok (.getfield 40, 3) := by decide +kernel
theorem dX12_site_45 : decode cX12_site 45 = .ok (.aload_n 0, 1) := by decide +kernel
theorem dX12_site_46 : decode cX12_site 46 = .ok (.getfield 126, 3) := by decide +kernel
theorem dX12_site_49 : decode cX12_site 49 = .ok (.iload_n 2, 1) := by decide +kernel
theorem dX12_site_50 : decode cX12_site 50 = .ok (.iastore, 1) := by decide +kernel
theorem dX12_site_51 : decode cX12_site 51 = .ok (.aload_n 0, 1) := by decide +kernel
theorem dX12_site_52 : decode cX12_site 52 = .ok (.dup, 1) := by decide +kernel
theorem dX12_site_53 : decode cX12_site 53 = .ok (.getfield 126, 3) := by decide +kernel
theorem dX12_site_56 : decode cX12_site 56 = .ok (.iconst 1, 1) := by decide +kernel
theorem dX12_site_57 : decode cX12_site 57 = .ok (.iadd, 1) := by decide +kernel
theorem dX12_site_58 : decode cX12_site 58 = .ok (.putfield 126, 3) := by decide +kernel
theorem dX12_site_61 : decode cX12_site 61 = .ok (.aload_n 0, 1) := by decide +kernel
theorem dX12_site_62 : decode cX12_site 62 = .ok (.getfield 126, 3) := by decide +kernel
theorem dX12_site_65 : decode cX12_site 65 = .ok (.iconst 1, 1) := by decide +kernel
theorem dX12_site_66 : decode cX12_site 66 = .ok (.isub, 1) := by decide +kernel
theorem dX12_site_67 : decode cX12_site 67 = .ok (.ireturn, 1) := by decide +kernel
theorem dX12_field_0 : decode cX12_field 0 = .ok (.iload_n 1, 1) := by decide +kernel
theorem dX12_field_1 : decode cX12_field 1 = .ok (.iconst 1, 1) := by decide +kernel
theorem dX12_field_2 : decode cX12_field 2 = .ok (.sipush 999, 3) := by decide +kernel
theorem dX12_field_5 : decode cX12_field 5 = .ok (.invokestatic 105, 3) := by decide +kernel
theorem dX12_field_8 : decode cX12_field 8 = .ok (.ifCond .eq 12, 3) := by decide +kernel
theorem dX12_field_11 : decode cX12_field 11 = .ok (.aload_n 0, 1) := by decide +kernel
theorem dX12_field_12 : decode cX12_field 12 = .ok (.getfield 129, 3) := by decide +kernel
theorem dX12_field_15 : decode cX12_field 15 = .ok (.bipush 10, 2) := by decide +kernel
theorem dX12_field_17 : decode cX12_field 17 = .ok (.if_icmp .ne 5, 3) := by decide +kernel
theorem dX12_field_20 : decode cX12_field 20 = .ok (.iconst (-1), 1) := by decide +kernel
theorem dX12_field_21 : decode cX12_field 21 = .ok (.ireturn, 1) := by decide +kernel
theorem dX12_field_22 : decode cX12_field 22 = .ok (.aload_n 0, 1) := by decide +kernel
theorem dX12_field_23 : decode cX12_field 23 = .ok (.getfield 43, 3) := by decide +kernel
theorem dX12_field_26 : decode cX12_field 26 = .ok (.aload_n 0, 1) := by decide +kernel
theorem dX12_field_27 : decode cX12_field 27 = .ok (.getfield 129, 3) := by decide +kernel
theorem dX12_field_30 : decode cX12_field 30 = .ok (.iload_n 1, 1) := by decide +kernel
theorem dX12_field_31 : decode cX12_field 31 = .ok (.iastore, 1) := by decide +kernel
theorem dX12_field_32 : decode cX12_field 32 = .ok (.aload_n 0, 1) := by decide +kernel
theorem dX12_field_33 : decode cX12_field 33 = .ok (.dup, 1) := by decide +kernel
theorem dX12_field_34 : decode cX12_field 34 = .ok (.getfield 129, 3) := by decide +kernel
theorem dX12_field_37 : decode cX12_field 37 = .ok (.iconst 1, 1) := by decide +kernel
theorem dX12_field_38 : decode cX12_field 38 = .ok (.iadd, 1) := by decide +kernel
theorem dX12_field_39 : decode cX12_field 39 = .ok (.putfield 129, 3) := by decide +kernel
theorem dX12_field_42 : decode cX12_field 42 = .ok (.aload_n 0, 1) := by decide +kernel
theorem dX12_field_43 : decode cX12_field 43 = .ok (.getfield 129, 3) := by decide +kernel
theorem dX12_field_46 : decode cX12_field 46 = .ok (.iconst 1, 1) := by decide +kernel
theorem dX12_field_47 : decode cX12_field 47 = .ok (.isub, 1) := by decide +kernel
theorem dX12_field_48 : decode cX12_field 48 = .ok (.ireturn, 1) := by decide +kernel
theorem dX12_builders_0 : decode cX12_builders 0 = .ok (.iload_n 1, 1) := by decide +kernel
theorem dX12_builders_1 : decode cX12_builders 1 = .ok (.aload_n 0, 1) := by decide +kernel
theorem dX12_builders_2 : decode cX12_builders 2 = .ok (.getfield 112, 3) := by decide +kernel
theorem dX12_builders_5 : decode cX12_builders 5 = .ok (.bipush 35, 2) := by decide +kernel
theorem dX12_builders_7 : decode cX12_builders 7 = .ok (.invokestatic 105, 3) := by decide +kernel
theorem dX12_builders_10 : decode cX12_builders 10 = .ok (.ifCond .eq 13, 3) := by decide +kernel
theorem dX12_builders_13 : decode cX12_builders 13 = .ok (.iload_n 2, 1) := by decide +kernel
theorem dX12_builders_14 : decode cX12_builders 14 = .ok (.iconst 0, 1) := by decide +kernel
theorem dX12_builders_15 : decode cX12_builders 15 = .ok (.bipush 8, 2) := by decide +kernel
theorem dX12_builders_17 : decode cX12_builders 17 = .ok (.invokestatic 105, 3) := by decide +kernel
theorem dX12_builders_20 : decode cX12_builders 20 = .ok (.ifCond .ne 5, 3) := by decide +kernel
theorem dX12_builders_23 : decode cX12_builders 23 = .ok (.iconst 0, 1) := by decide +kernel
theorem dX12_builders_24 : decode cX12_builders 24 = .ok (.ireturn, 1) := by decide +kernel
theorem dX12_builders_25 : decode cX12_builders 25 = .ok (.aload_n 0, 1) := by decide +kernel
theorem dX12_builders_26 : decode cX12_builders 26 = .ok (.getfield 13, 3) := by decide +kernel
theorem dX12_builders_29 : decode cX12_builders 29 = .ok (.iload_n 1, 1) := by decide +kernel
theorem dX12_builders_30 : decode cX12_builders 30 = .ok (.iload_n 2, 1) := by decide +kernel
theorem dX12_builders_31 : decode cX12_builders 31 = .ok (.iastore, 1) := by decide +kernel
theorem dX12_builders_32 : decode cX12_builders 32 = .ok (.iconst 1, 1) := by decide +kernel
theorem dX12_builders_33 : decode cX12_builders 33 = .ok (.ireturn, 1) := by decide +kernel
theorem dX12_feed_0 : decode cX12_feed 0 = .ok (.aload_n 0, 1) := by decide +kernel
theorem dX12_feed_1 : decode cX12_feed 1 = .ok (.getfield 132, 3) := by decide +kernel
theorem dX12_feed_4 : decode cX12_feed 4 = .ok (.bipush 20, 2) := by decide +kernel
theorem dX12_feed_6 : decode cX12_feed 6 = .ok (.iadd, 1) := by decide +kernel
theorem dX12_feed_7 : decode cX12_feed 7 = .ok (.sipush 400, 3) := by decide +kernel
theorem dX12_feed_10 : decode cX12_feed 10 = .ok (.if_icmp .le 5, 3) := by decide +kernel
theorem dX12_feed_13 : decode cX12_feed 13 = .ok (.iconst (-1), 1) := by decide +kernel
theorem dX12_feed_14 : decode cX12_feed 14 = .ok (.ireturn, 1) := by decide +kernel
theorem dX12_feed_15 : decode cX12_feed 15 = .ok (.iconst 0, 1) := by decide +kernel
theorem dX12_feed_16 : decode cX12_feed 16 = .ok (.istore 6, 2) := by decide +kernel
theorem dX12_feed_18 : decode cX12_feed 18 = .ok (.iload 6, 2) := by decide +kernel
theorem dX12_feed_20 : decode cX12_feed 20 = .ok (.bipush 20, 2) := by decide +kernel
theorem dX12_feed_22 : decode cX12_feed 22 = .ok (.if_icmp .ge 93, 3) := by decide +kernel
theorem dX12_feed_25 : decode cX12_feed 25 = .ok (.iload 6, 2) := by decide +kernel
theorem dX12_feed_27 : decode cX12_feed 27 = .ok (.iconst 4, 1) := by decide +kernel
theorem dX12_feed_28 : decode cX12_feed 28 = .ok (.if_icmp .ge 7, 3) := by decide +kernel
theorem dX12_feed_31 : decode cX12_feed 31 = .ok (.iload_n 1, 1) := by decide +kernel
theorem dX12_feed_32 : decode cX12_feed 32 = .ok (.goto 39, 3) := by decide +kernel
theorem dX12_feed_35 : decode cX12_feed 35 = .ok (.iload 6, 2) := by decide +kernel
theorem dX12_feed_37 : decode cX12_feed 37 = .ok (.bipush 8, 2) := by decide +kernel
theorem dX12_feed_39 : decode cX12_feed 39 = .ok (.if_icmp .ge 7, 3) := by decide +kernel
theorem dX12_feed_42 : decode cX12_feed 42 = .ok (.iload_n 2, 1) := by decide +kernel
theorem dX12_feed_43 : decode cX12_feed 43 = .ok (.goto 28, 3) := by decide +kernel
theorem dX12_feed_46 : decode cX12_feed 46 = .ok (.iload 6, 2) := by decide +kernel
theorem dX12_feed_48 : decode cX12_feed 48 = .ok (.bipush 12, 2) := by decide +kernel
theorem dX12_feed_50 : decode cX12_feed 50 = .ok (.if_icmp .ge 7, 3) := by decide +kernel
theorem dX12_feed_53 : decode cX12_feed 53 = .ok (.iload_n 3, 1) := by decide +kernel
theorem dX12_feed_54 : decode cX12_feed 54 = .ok (.goto 17, 3) := by decide +kernel
theorem dX12_feed_57 : decode cX12_feed 57 = .ok (.iload 6, 2) := by decide +kernel
theorem dX12_feed_59 : decode cX12_feed 59 = .ok (.bipush 16, 2) := by decide +kernel
theorem dX12_feed_61 : decode cX12_feed 61 = .ok (.if_icmp .ge 8, 3) := by decide +kernel
theorem dX12_feed_64 : decode cX12_feed 64 = .ok (.iload 4, 2) := by decide +kernel
theorem dX12_feed_66 : decode cX12_feed 66 = .ok (.goto 5, 3) := by decide +kernel
theorem dX12_feed_69 : decode cX12_feed 69 = .ok (.iload 5, 2) := by decide +kernel
theorem dX12_feed_71 : decode cX12_feed 71 = .ok (.istore 7, 2) := by decide +kernel
theorem dX12_feed_73 : decode cX12_feed 73 = .ok (.aload_n 0, 1) := by decide +kernel
theorem dX12_feed_74 : decode cX12_feed 74 = .ok (.getfield 71, 3) := by decide +kernel
theorem dX12_feed_77 : decode cX12_feed 77 = .ok (.aload_n 0, 1) := by decide +kernel
theorem dX12_feed_78 : decode cX12_feed 78 = .ok (.getfield 132, 3) := by decide +kernel
theorem dX12_feed_81 : decode cX12_feed 81 = .ok (.iload 7, 2) := by decide +kernel
theorem dX12_feed_83 : decode cX12_feed 83 = .ok (.bipush 24, 2) := by decide +kernel
theorem dX12_feed_85 : decode cX12_feed 85 = .ok (.bipush 8, 2) := by decide +kernel
theorem dX12_feed_87 : decode cX12_feed 87 = .ok (.iload 6, 2) := by decide +kernel
theorem dX12_feed_89 : decode cX12_feed 89 = .ok (.iconst 4, 1) := by decide +kernel
theorem dX12_feed_90 : decode cX12_feed 90 = .ok (.irem, 1) := by decide +kernel
theorem dX12_feed_91 : decode cX12_feed 91 = .ok (.imul, 1) := by decide +kernel
theorem dX12_feed_92 : decode cX12_feed 92 = .ok (.isub, 1) := by decide +kernel
theorem dX12_feed_93 : decode cX12_feed 93 = .ok (.ishr, 1) := by decide +kernel
theorem dX12_feed_94 : decode cX12_feed 94 = .ok (.sipush 255, 3) := by decide +kernel
theorem dX12_feed_97 : decode cX12_feed 97 = .ok (.iand, 1) := by decide +kernel
theorem dX12_feed_98 : decode cX12_feed 98 = .ok (.iastore, 1) := by decide +kernel
theorem dX12_feed_99 : decode cX12_feed 99 = .ok (.aload_n 0, 1) := by decide +kernel
theorem dX12_feed_100 : decode cX12_feed 100 = .ok (.dup, 1) := by decide +kernel
theorem dX12_feed_101 : decode cX12_feed 101 = .ok (.getfield 132, 3) := by decide +kernel
theorem dX12_feed_104 : decode cX12_feed 104 = .ok (.iconst 1, 1) := by decide +kernel
theorem dX12_feed_105 : decode cX12_feed 105 = .ok (.iadd, 1) := by decide +kernel
theorem dX12_feed_106 : decode cX12_feed 106 = .ok (.putfield 132, 3) := by decide +kernel
theorem dX12_feed_109 : decode cX12_feed 109 = .ok (.iinc 6 1, 3) := by decide +kernel
theorem dX12_feed_112 : decode cX12_feed 112 = .ok (.goto (-94), 3) := by decide +kernel
theorem dX12_feed_115 : decode cX12_feed 115 = .ok (.aload_n 0, 1) := by decide +kernel
theorem dX12_feed_116 : decode cX12_feed 116 = .ok (.getfield 132, 3) := by decide +kernel
theorem dX12_feed_119 : decode cX12_feed 119 = .ok (.ireturn, 1) := by decide +kernel
theorem dX12_end_0 : decode cX12_end 0 = .ok (.iload_n 1, 1) := by decide +kernel
theorem dX12_end_1 : decode cX12_end 1 = .ok (.iconst 0, 1) := by decide +kernel
theorem dX12_end_2 : decode cX12_end 2 = .ok (.aload_n 0, 1) := by decide +kernel
theorem dX12_end_3 : decode cX12_end 3 = .ok (.getfield 132, 3) := by decide +kernel
theorem dX12_end_6 : decode cX12_end 6 = .ok (.invokestatic 105, 3) := by decide +kernel
theorem dX12_end_9 : decode cX12_end 9 = .ok (.ifCond .ne 5, 3) := by decide +kernel
theorem dX12_end_12 : decode cX12_end 12 = .ok (.iconst 0, 1) := by decide +kernel
theorem dX12_end_13 : decode cX12_end 13 = .ok (.ireturn, 1) := by decide +kernel
theorem dX12_end_14 : decode cX12_end 14 = .ok (.aload_n 0, 1) := by decide +kernel
theorem dX12_end_15 : decode cX12_end 15 = .ok (.iload_n 1, 1) := by decide +kernel
theorem dX12_end_16 : decode cX12_end 16 = .ok (.putfield 132, 3) := by decide +kernel
theorem dX12_end_19 : decode cX12_end 19 = .ok (.iconst 1, 1) := by decide +kernel
theorem dX12_end_20 : decode cX12_end 20 = .ok (.ireturn, 1) := by decide +kernel
theorem dX12_see_0 : decode cX12_see 0 = .ok (.iload_n 1, 1) := by decide +kernel
theorem dX12_see_1 : decode cX12_see 1 = .ok (.aload_n 0, 1) := by decide +kernel
theorem dX12_see_2 : decode cX12_see 2 = .ok (.getfield 132, 3) := by decide +kernel
theorem dX12_see_5 : decode cX12_see 5 = .ok (.if_icmp .ge 12, 3) := by decide +kernel
theorem dX12_see_8 : decode cX12_see 8 = .ok (.aload_n 0, 1) := by decide +kernel
theorem dX12_see_9 : decode cX12_see 9 = .ok (.getfield 71, 3) := by decide +kernel
theorem dX12_see_12 : decode cX12_see 12 = .ok (.iload_n 1, 1) := by decide +kernel
theorem dX12_see_13 : decode cX12_see 13 = .ok (.iaload, 1) := by decide +kernel
theorem dX12_see_14 : decode cX12_see 14 = .ok (.goto 4, 3) := by decide +kernel
theorem dX12_see_17 : decode cX12_see 17 = .ok (.iconst (-1), 1) := by decide +kernel
theorem dX12_see_18 : decode cX12_see 18 = .ok (.ireturn, 1) := by decide +kernel
theorem dX12_isLetter_0 : decode cX12_isLetter 0 = .ok (.iload_n 0, 1) := by decide +kernel
theorem dX12_isLetter_1 : decode cX12_isLetter 1 = .ok (.bipush 97, 2) := by decide +kernel
theorem dX12_isLetter_3 : decode cX12_isLetter 3 = .ok (.bipush 122, 2) := by decide +kernel
theorem dX12_isLetter_5 : decode cX12_isLetter 5 = .ok (.invokestatic 105, 3) := by decide +kernel
theorem dX12_isLetter_8 : decode cX12_isLetter 8 = .ok (.ifCond .ne 14, 3) := by decide +kernel
theorem dX12_isLetter_11 : decode cX12_isLetter 11 = .ok (.iload_n 0, 1) := by decide +kernel
theorem dX12_isLetter_12 : decode cX12_isLetter 12 = .ok (.bipush 65, 2) := by decide +kernel
theorem dX12_isLetter_14 : decode cX12_isLetter 14 = .ok (.bipush 90, 2) := by decide +kernel
theorem dX12_isLetter_16 : decode cX12_isLetter 16 = .ok (.invokestatic 105, 3) := by decide +kernel
theorem dX12_isLetter_19 : decode cX12_isLetter 19 = .ok (.ifCond .eq 7, 3) := by decide +kernel
theorem dX12_isLetter_22 : decode cX12_isLetter 22 = .ok (.iconst 1, 1) := by decide +kernel
theorem dX12_isLetter_23 : decode cX12_isLetter 23 = .ok (.goto 4, 3) := by decide +kernel
theorem dX12_isLetter_26 : decode cX12_isLetter 26 = .ok (.iconst 0, 1) := by decide +kernel
theorem dX12_isLetter_27 : decode cX12_isLetter 27 = .ok (.ireturn, 1) := by decide +kernel
theorem dX12_isDigit_0 : decode cX12_isDigit 0 = .ok (.iload_n 0, 1) := by decide +kernel
theorem dX12_isDigit_1 : decode cX12_isDigit 1 = .ok (.bipush 48, 2) := by decide +kernel
theorem dX12_isDigit_3 : decode cX12_isDigit 3 = .ok (.bipush 57, 2) := by decide +kernel
theorem dX12_isDigit_5 : decode cX12_isDigit 5 = .ok (.invokestatic 105, 3) := by decide +kernel
theorem dX12_isDigit_8 : decode cX12_isDigit 8 = .ok (.ireturn, 1) := by decide +kernel
theorem dX12_word_0 : decode cX12_word 0 = .ok (.lload_n 0, 1) := by decide +kernel
theorem dX12_word_1 : decode cX12_word 1 = .ok (.ldc2_w 135, 3) := by decide +kernel
theorem dX12_word_4 : decode cX12_word 4 = .ok (.lcmp, 1) := by decide +kernel
theorem dX12_word_5 : decode cX12_word 5 = .ok (.ifCond .ne 5, 3) := by decide +kernel
theorem dX12_word_8 : decode cX12_word 8 = .ok (.iconst 3, 1) := by decide +kernel
theorem dX12_word_9 : decode cX12_word 9 = .ok (.ireturn, 1) := by decide +kernel
theorem dX12_word_10 : decode cX12_word 10 = .ok (.lload_n 0, 1) := by decide +kernel
theorem dX12_word_11 : decode cX12_word 11 = .ok (.ldc2_w 137, 3) := by decide +kernel
theorem dX12_word_14 : decode cX12_word 14 = .ok (.lcmp, 1) := by decide +kernel
theorem dX12_word_15 : decode cX12_word 15 = .ok (.ifCond .ne 5, 3) := by decide +kernel
theorem dX12_word_18 : decode cX12_word 18 = .ok (.iconst 4, 1) := by decide +kernel
theorem dX12_word_19 : decode cX12_word 19 = .ok (.ireturn, 1) := by decide +kernel
theorem dX12_word_20 : decode cX12_word 20 = .ok (.lload_n 0, 1) := by decide +kernel
theorem dX12_word_21 : decode cX12_word 21 = .ok (.ldc2_w 139, 3) := by decide +kernel
theorem dX12_word_24 : decode cX12_word 24 = .ok (.lcmp, 1) := by decide +kernel
theorem dX12_word_25 : decode cX12_word 25 = .ok (.ifCond .ne 5, 3) := by decide +kernel
theorem dX12_word_28 : decode cX12_word 28 = .ok (.iconst 5, 1) := by decide +kernel
theorem dX12_word_29 : decode cX12_word 29 = .ok (.ireturn, 1) := by decide +kernel
theorem dX12_word_30 : decode cX12_word 30 = .ok (.lload_n 0, 1) := by decide +kernel
theorem dX12_word_31 : decode cX12_word 31 = .ok (.ldc2_w 141, 3) := by decide +kernel
theorem dX12_word_34 : decode cX12_word 34 = .ok (.lcmp, 1) := by decide +kernel
theorem dX12_word_35 : decode cX12_word 35 = .ok (.ifCond .ne 7, 3) := by decide +kernel
theorem dX12_word_38 : decode cX12_word 38 = .ok (.sipush 201, 3) := by decide +kernel
theorem dX12_word_41 : decode cX12_word 41 = .ok (.ireturn, 1) := by decide +kernel
theorem dX12_word_42 : decode cX12_word 42 = .ok (.lload_n 0, 1) := by decide +kernel
theorem dX12_word_43 : decode cX12_word 43 = .ok (.ldc2_w 143, 3) := by decide +kernel
theorem dX12_word_46 : decode cX12_word 46 = .ok (.lcmp, 1) := by decide +kernel
theorem dX12_word_47 : decode cX12_word 47 = .ok (.ifCond .ne 7, 3) := by decide +kernel
theorem dX12_word_50 : decode cX12_word 50 = .ok (.sipush 202, 3) := by decide +kernel
theorem dX12_word_53 : decode cX12_word 53 = .ok (.ireturn, 1) := by decide +kernel
theorem dX12_word_54 : decode cX12_word 54 = .ok (.lload_n 0, 1) := by decide +kernel
theorem dX12_word_55 : decode cX12_word 55 = .ok (.ldc2_w 145, 3) := by decide +kernel
theorem dX12_word_58 : decode cX12_word 58 = .ok (.lcmp, 1) := by decide +kernel
theorem dX12_word_59 : decode cX12_word 59 = .ok (.ifCond .ne 7, 3) := by decide +kernel
theorem dX12_word_62 : decode cX12_word 62 = .ok (.sipush 203, 3) := by decide +kernel
theorem dX12_word_65 : decode cX12_word 65 = .ok (.ireturn, 1) := by decide +kernel
theorem dX12_word_66 : decode cX12_word 66 = .ok (.lload_n 0, 1) := by decide +kernel
theorem dX12_word_67 : decode cX12_word 67 = .ok (.ldc2_w 147, 3) := by decide +kernel
theorem dX12_word_70 : decode cX12_word 70 = .ok (.lcmp, 1) := by decide +kernel
theorem dX12_word_71 : decode cX12_word 71 = .ok (.ifCond .ne 9, 3) := by decide +kernel
theorem dX12_word_74 : decode cX12_word 74 = .ok (.sipush 204, 3) := by decide +kernel
theorem dX12_word_77 : decode cX12_word 77 = .ok (.goto 4, 3) := by decide +kernel
theorem dX12_word_80 : decode cX12_word 80 = .ok (.iconst 1, 1) := by decide +kernel
theorem dX12_word_81 : decode cX12_word 81 = .ok (.ireturn, 1) := by decide +kernel
theorem dX12_next0_0 : decode cX12_next0 0 = .ok (.aload_n 0, 1) := by decide +kernel
theorem dX12_next0_1 : decode cX12_next0 1 = .ok (.aload_n 0, 1) := by decide +kernel
theorem dX12_next0_2 : decode cX12_next0 2 = .ok (.getfield 149, 3) := by decide +kernel
theorem dX12_next0_5 : decode cX12_next0 5 = .ok (.invokevirtual 152, 3) := by decide +kernel
theorem dX12_next0_8 : decode cX12_next0 8 = .ok (.bipush 32, 2) := by decide +kernel
theorem dX12_next0_10 : decode cX12_next0 10 = .ok (.if_icmp .eq 16, 3) := by decide +kernel
theorem dX12_next0_13 : decode cX12_next0 13 = .ok (.aload_n 0, 1) := by decide +kernel
theorem dX12_next0_14 : decode cX12_next0 14 = .ok (.aload_n 0, 1) := by decide +kernel
theorem dX12_next0_15 : decode cX12_next0 15 = .ok (.getfield 149, 3) := by decide +kernel
theorem dX12_next0_18 : decode cX12_next0 18 = .ok (.invokevirtual 152, 3) := by decide +kernel
theorem dX12_next0_21 : decode cX12_next0 21 = .ok (.bipush 10, 2) := by decide +kernel
theorem dX12_next0_23 : decode cX12_next0 23 = .ok (.if_icmp .ne 16, 3) := by decide +kernel
theorem dX12_next0_26 : decode cX12_next0 26 = .ok (.aload_n 0, 1) := by decide +kernel
theorem dX12_next0_27 : decode cX12_next0 27 = .ok (.dup, 1) := by decide +kernel
theorem dX12_next0_28 : decode cX12_next0 28 = .ok (.getfield 149, 3) := by decide +kernel
theorem dX12_next0_31 : decode cX12_next0 31 = .ok (.iconst 1, 1) := by decide +kernel
theorem dX12_next0_32 : decode cX12_next0 32 = .ok (.iadd, 1) := by decide +kernel
theorem dX12_next0_33 : decode cX12_next0 33 = .ok (.putfield 149, 3) := by decide +kernel
theorem dX12_next0_36 : decode cX12_next0 36 = .ok (.goto (-36), 3) := by decide +kernel
theorem dX12_next0_39 : decode cX12_next0 39 = .ok (.aload_n 0, 1) := by decide +kernel
theorem dX12_next0_40 : decode cX12_next0 40 = .ok (.aload_n 0, 1) := by decide +kernel
theorem dX12_next0_41 : decode cX12_next0 41 = .ok (.getfield 149, 3) := by decide +kernel
theorem dX12_next0_44 : decode cX12_next0 44 = .ok (.putfield 155, 3) := by decide +kernel
theorem dX12_next0_47 : decode cX12_next0 47 = .ok (.aload_n 0, 1) := by decide +kernel
theorem dX12_next0_48 : decode cX12_next0 48 = .ok (.aload_n 0, 1) := by decide +kernel
theorem dX12_next0_49 : decode cX12_next0 49 = .ok (.getfield 149, 3) := by decide +kernel
theorem dX12_next0_52 : decode cX12_next0 52 = .ok (.invokevirtual 152, 3) := by decide +kernel
theorem dX12_next0_55 : decode cX12_next0 55 = .ok (.istore_n 1, 1) := by decide +kernel
theorem dX12_next0_56 : decode cX12_next0 56 = .ok (.iconst 0, 1) := by decide +kernel
theorem dX12_next0_57 : decode cX12_next0 57 = .ok (.istore_n 2, 1) := by decide +kernel
theorem dX12_next0_58 : decode cX12_next0 58 = .ok (.iload_n 1, 1) := by decide +kernel
theorem dX12_next0_59 : decode cX12_next0 59 = .ok (.iconst (-1), 1) := by decide +kernel
theorem dX12_next0_60 : decode cX12_next0 60 = .ok (.if_icmp .ne 11, 3) := by decide +kernel
theorem dX12_next0_63 : decode cX12_next0 63 = .ok (.aload_n 0, 1) := by decide +kernel
theorem dX12_next0_64 : decode cX12_next0 64 = .ok (.iconst 0, 1) := by decide +kernel
theorem dX12_next0_65 : decode cX12_next0 65 = .ok (.putfield 158, 3) := by decide +kernel
theorem dX12_next0_68 : decode cX12_next0 68 = .ok (.goto 260, 3) := by decide +kernel
theorem dX12_next0_71 : decode cX12_next0 71 = .ok (.iload_n 1, 1) := by decide +kernel
theorem dX12_next0_72 : decode cX12_next0 72 = .ok (.invokestatic 161, 3) := by decide +kernel
theorem dX12_next0_75 : decode cX12_next0 75 = .ok (.ifCond .eq 77, 3) := by decide +kernel
theorem dX12_next0_78 : decode cX12_next0 78 = .ok (.lconst 0, 1) := by decide +kernel
theorem dX12_next0_79 : decode cX12_next0 79 = .ok (.lstore_n 3, 1) := by decide +kernel
theorem dX12_next0_80 : decode cX12_next0 80 = .ok (.aload_n 0, 1) := by decide +kernel
theorem dX12_next0_81 : decode cX12_next0 81 = .ok (.aload_n 0, 1) := by decide +kernel
theorem dX12_next0_82 : decode cX12_next0 82 = .ok (.getfield 149, 3) := by decide +kernel
theorem dX12_next0_85 : decode cX12_next0 85 = .ok (.invokevirtual 152, 3) := by decide +kernel
theorem dX12_next0_88 : decode cX12_next0 88 = .ok (.invokestatic 161, 3) := by decide +kernel
theorem dX12_next0_91 : decode cX12_next0 91 = .ok (.ifCond .eq 40, 3) := by decide +kernel
theorem dX12_next0_94 : decode cX12_next0 94 = .ok (.iload_n 2, 1) := by decide +kernel
theorem dX12_next0_95 : decode cX12_next0 95 = .ok (.bipush 7, 2) := by decide +kernel
theorem dX12_next0_97 : decode cX12_next0 97 = .ok (.if_icmp .ge 18, 3) := by decide +kernel
theorem dX12_next0_100 : decode cX12_next0 100 = .ok (.lload_n 3, 1) := by decide +kernel
theorem dX12_next0_101 : decode cX12_next0 101 = .ok (.bipush 8, 2) := by decide +kernel
theorem dX12_next0_103 : decode cX12_next0 103 = .ok (.lshl, 1) := by decide +kernel
theorem dX12_next0_104 : decode cX12_next0 104 = .ok (.aload_n 0, 1) := by decide +kernel
theorem dX12_next0_105 : decode cX12_next0 105 = .ok (.aload_n 0, 1) := by decide +kernel
theorem dX12_next0_106 : decode cX12_next0 106 = .ok (.getfield 149, 3) := by decide +kernel
theorem dX12_next0_109 : decode cX12_next0 109 = .ok (.invokevirtual 152, 3) := by decide +kernel
theorem dX12_next0_112 : decode cX12_next0 112 = .ok (.i2l, 1) := by decide +kernel
theorem dX12_next0_113 : decode cX12_next0 113 = .ok (.lor, 1) := by decide +kernel
theorem dX12_next0_114 : decode cX12_next0 114 = .ok (.lstore_n 3, 1) := by decide +kernel
theorem dX12_next0_115 : decode cX12_next0 115 = .ok (.iinc 2 1, 3) := by decide +kernel
theorem dX12_next0_118 : decode cX12_next0 118 = .ok (.aload_n 0, 1) := by decide +kernel
theorem dX12_next0_119 : decode cX12_next0 119 = .ok (.dup, 1) := by decide +kernel
theorem dX12_next0_120 : decode cX12_next0 120 = .ok (.getfield 149, 3) := by decide +kernel
theorem dX12_next0_123 : decode cX12_next0 123 = .ok (.iconst 1, 1) := by decide +kernel
theorem dX12_next0_124 : decode cX12_next0 124 = .ok (.iadd, 1) := by decide +kernel
theorem dX12_next0_125 : decode cX12_next0 125 = .ok (.putfield 149, 3) := by decide +kernel
theorem dX12_next0_128 : decode cX12_next0 128 = .ok (.goto (-48), 3) := by decide +kernel
theorem dX12_next0_131 : decode cX12_next0 131 = .ok (.aload_n 0, 1) := by decide +kernel
theorem dX12_next0_132 : decode cX12_next0 132 = .ok (.iload_n 2, 1) := by decide +kernel
theorem dX12_next0_133 : decode cX12_next0 133 = .ok (.bipush 7, 2) := by decide +kernel
theorem dX12_next0_135 : decode cX12_next0 135 = .ok (.if_icmp .ge 10, 3) := by decide +kernel
theorem dX12_next0_138 : decode cX12_next0 138 = .ok (.lload_n 3, 1) := by decide +kernel
theorem dX12_next0_139 : decode cX12_next0 139 = .ok (.invokestatic 164, 3) := by decide +kernel
theorem dX12_next0_142 : decode cX12_next0 142 = .ok (.goto 4, 3) := by decide +kernel
theorem dX12_next0_145 : decode cX12_next0 145 = .ok (.iconst 1, 1) := by decide +kernel
theorem dX12_next0_146 : decode cX12_next0 146 = .ok (.putfield 158, 3) := by decide +kernel
theorem dX12_next0_149 : decode cX12_next0 149 = .ok (.goto 179, 3) := by decide +kernel
theorem dX12_next0_152 : decode cX12_next0 152 = .ok (.iload_n 1, 1) := by decide +kernel
theorem dX12_next0_153 : decode cX12_next0 153 = .ok (.invokestatic 168, 3) := by decide +kernel
theorem dX12_next0_156 : decode cX12_next0 156 = .ok (.ifCond .eq 83, 3) := by decide +kernel
theorem dX12_next0_159 : decode cX12_next0 159 = .ok (.aload_n 0, 1) := by decide +kernel
theorem dX12_next0_160 : decode cX12_next0 160 = .ok (.iconst 0, 1) := by decide +kernel
theorem dX12_next0_161 : decode cX12_next0 161 = .ok (.putfield 171, 3) := by decide +kernel
theorem dX12_next0_164 : decode cX12_next0 164 = .ok (.aload_n 0, 1) := by decide +kernel
theorem dX12_next0_165 : decode cX12_next0 165 = .ok (.aload_n 0, 1) := by decide +kernel
theorem dX12_next0_166 : decode cX12_next0 166 = .ok (.getfield 149, 3) := by decide +kernel
theorem dX12_next0_169 : decode cX12_next0 169 = .ok (.invokevirtual 152, 3) := by decide +kernel
theorem dX12_next0_172 : decode cX12_next0 172 = .ok (.invokestatic 168, 3) := by decide +kernel
theorem dX12_next0_175 : decode cX12_next0 175 = .ok (.ifCond .eq 47, 3) := by decide +kernel
theorem dX12_next0_178 : decode cX12_next0 178 = .ok (.iload_n 2, 1) := by decide +kernel
theorem dX12_next0_179 : decode cX12_next0 179 = .ok (.iconst 4, 1) := by decide +kernel
theorem dX12_next0_180 : decode cX12_next0 180 = .ok (.if_icmp .ge 26, 3) := by decide +kernel
theorem dX12_next0_183 : decode cX12_next0 183 = .ok (.aload_n 0, 1) := by decide +kernel
theorem dX12_next0_184 : decode cX12_next0 184 = .ok (.bipush 10, 2) := by decide +kernel
theorem dX12_next0_186 : decode cX12_next0 186 = .ok (.aload_n 0, 1) := by decide +kernel
theorem dX12_next0_187 : decode cX12_next0 187 = .ok (.getfield 171, 3) := by decide +kernel
theorem dX12_next0_190 : decode cX12_next0 190 = .ok (.imul, 1) := by decide +kernel
theorem dX12_next0_191 : decode cX12_next0 191 = .ok (.aload_n 0, 1) := by decide +kernel
theorem dX12_next0_192 : decode cX12_next0 192 = .ok (.aload_n 0, 1) := by decide +kernel
theorem dX12_next0_193 : decode cX12_next0 193 = .ok (.getfield 149, 3) := by decide +kernel
theorem dX12_next0_196 : decode cX12_next0 196 = .ok (.invokevirtual 152, 3) := by decide +kernel
theorem dX12_next0_199 : decode cX12_next0 199 = .ok (.iadd, 1) := by decide +kernel
theorem dX12_next0_200 : decode cX12_next0 200 = .ok (.bipush 48, 2) := by decide +kernel
theorem dX12_next0_202 : decode cX12_next0 202 = .ok (.isub, 1) := by decide +kernel
theorem dX12_next0_203 : decode cX12_next0 203 = .ok (.putfield 171, 3) := by decide +kernel
theorem dX12_next0_206 : decode cX12_next0 206 = .ok (.iinc 2 1, 3) := by decide +kernel
theorem dX12_next0_209 : decode cX12_next0 209 = .ok (.aload_n 0, 1) := by decide +kernel
theorem dX12_next0_210 : decode cX12_next0 210 = .ok (.dup, 1) := by decide +kernel
theorem dX12_next0_211 : decode cX12_next0 211 = .ok (.getfield 149, 3) := by decide +kernel
theorem dX12_next0_214 : decode cX12_next0 214 = .ok (.iconst 1, 1) := by decide +kernel
theorem dX12_next0_215 : decode cX12_next0 215 = .ok (.iadd, 1) := by decide +kernel
theorem dX12_next0_216 : decode cX12_next0 216 = .ok (.putfield 149, 3) := by decide +kernel
theorem dX12_next0_219 : decode cX12_next0 219 = .ok (.goto (-55), 3) := by decide +kernel
theorem dX12_next0_222 : decode cX12_next0 222 = .ok (.aload_n 0, 1) := by decide +kernel
theorem dX12_next0_223 : decode cX12_next0 223 = .ok (.iload_n 2, 1) := by decide +kernel
theorem dX12_next0_224 : decode cX12_next0 224 = .ok (.iconst 5, 1) := by decide +kernel
theorem dX12_next0_225 : decode cX12_next0 225 = .ok (.if_icmp .ge 7, 3) := by decide +kernel
theorem dX12_next0_228 : decode cX12_next0 228 = .ok (.iconst 2, 1) := by decide +kernel
theorem dX12_next0_229 : decode cX12_next0 229 = .ok (.goto 4, 3) := by decide +kernel
theorem dX12_next0_232 : decode cX12_next0 232 = .ok (.iconst 1, 1) := by decide +kernel
theorem dX12_next0_233 : decode cX12_next0 233 = .ok (.putfield 158, 3) := by decide +kernel
theorem dX12_next0_236 : decode cX12_next0 236 = .ok (.goto 92, 3) := by decide +kernel
theorem dX12_next0_239 : decode cX12_next0 239 = .ok (.aload_n 0, 1) := by decide +kernel
theorem dX12_next0_240 : decode cX12_next0 240 = .ok (.dup, 1) := by decide +kernel
theorem dX12_next0_241 : decode cX12_next0 241 = .ok (.getfield 149, 3) := by decide +kernel
theorem dX12_next0_244 : decode cX12_next0 244 = .ok (.iconst 1, 1) := by decide +kernel
theorem dX12_next0_245 : decode cX12_next0 245 = .ok (.iadd, 1) := by decide +kernel
theorem dX12_next0_246 : decode cX12_next0 246 = .ok (.putfield 149, 3) := by decide +kernel
theorem dX12_next0_249 : decode cX12_next0 249 = .ok (.iload_n 1, 1) := by decide +kernel
theorem dX12_next0_250 : decode cX12_next0 250 = .ok (.bipush 59, 2) := by decide +kernel
theorem dX12_next0_252 : decode cX12_next0 252 = .ok (.if_icmp .eq 57, 3) := by decide +kernel
theorem dX12_next0_255 : decode cX12_next0 255 = .ok (.iload_n 1, 1) := by decide +kernel
theorem dX12_next0_256 : decode cX12_next0 256 = .ok (.bipush 40, 2) := by decide +kernel
theorem dX12_next0_258 : decode cX12_next0 258 = .ok (.if_icmp .eq 51, 3) := by decide +kernel
theorem dX12_next0_261 : decode cX12_next0 261 = .ok (.iload_n 1, 1) := by decide +kernel
theorem dX12_next0_262 : decode cX12_next0 262 = .ok (.bipush 41, 2) := by decide +kernel
theorem dX12_next0_264 : decode cX12_next0 264 = .ok (.if_icmp .eq 45, 3) := by decide +kernel
theorem dX12_next0_267 : decode cX12_next0 267 = .ok (.iload_n 1, 1) := by decide +kernel
theorem dX12_next0_268 : decode cX12_next0 268 = .ok (.bipush 60, 2) := by decide +kernel
theorem dX12_next0_270 : decode cX12_next0 270 = .ok (.if_icmp .eq 39, 3) := by decide +kernel
theorem dX12_next0_273 : decode cX12_next0 273 = .ok (.iload_n 1, 1) := by decide +kernel
theorem dX12_next0_274 : decode cX12_next0 274 = .ok (.bipush 61, 2) := by decide +kernel
theorem dX12_next0_276 : decode cX12_next0 276 = .ok (.if_icmp .eq 33, 3) := by decide +kernel
theorem dX12_next0_279 : decode cX12_next0 279 = .ok (.iload_n 1, 1) := by decide +kernel
theorem dX12_next0_280 : decode cX12_next0 280 = .ok (.bipush 62, 2) := by decide +kernel
theorem dX12_next0_282 : decode cX12_next0 282 = .ok (.if_icmp .eq 27, 3) := by decide +kernel
theorem dX12_next0_285 : decode cX12_next0 285 = .ok (.iload_n 1, 1) := by decide +kernel
theorem dX12_next0_286 : decode cX12_next0 286 = .ok (.bipush 43, 2) := by decide +kernel
theorem dX12_next0_288 : decode cX12_next0 288 = .ok (.if_icmp .eq 21, 3) := by decide +kernel
theorem dX12_next0_291 : decode cX12_next0 291 = .ok (.iload_n 1, 1) := by decide +kernel
theorem dX12_next0_292 : decode cX12_next0 292 = .ok (.bipush 45, 2) := by decide +kernel
theorem dX12_next0_294 : decode cX12_next0 294 = .ok (.if_icmp .eq 15, 3) := by decide +kernel
theorem dX12_next0_297 : decode cX12_next0 297 = .ok (.iload_n 1, 1) := by decide +kernel
theorem dX12_next0_298 : decode cX12_next0 298 = .ok (.bipush 42, 2) := by decide +kernel
theorem dX12_next0_300 : decode cX12_next0 300 = .ok (.if_icmp .eq 9, 3) := by decide +kernel
theorem dX12_next0_303 : decode cX12_next0 303 = .ok (.iload_n 1, 1) := by decide +kernel
theorem dX12_next0_304 : decode cX12_next0 304 = .ok (.bipush 47, 2) := by decide +kernel
theorem dX12_next0_306 : decode cX12_next0 306 = .ok (.if_icmp .ne 7, 3) := by decide +kernel
theorem dX12_next0_309 : decode cX12_next0 309 = .ok (.iconst 1, 1) := by decide +kernel
theorem dX12_next0_310 : decode cX12_next0 310 = .ok (.goto 4, 3) := by decide +kernel
theorem dX12_next0_313 : decode cX12_next0 313 = .ok (.iconst 0, 1) := by decide +kernel
theorem dX12_next0_314 : decode cX12_next0 314 = .ok (.istore_n 3, 1) := by decide +kernel
theorem dX12_next0_315 : decode cX12_next0 315 = .ok (.aload_n 0, 1) := by decide +kernel
theorem dX12_next0_316 : decode cX12_next0 316 = .ok (.iload_n 3, 1) := by decide +kernel
theorem dX12_next0_317 : decode cX12_next0 317 = .ok (.ifCond .eq 7, 3) := by decide +kernel
theorem dX12_next0_320 : decode cX12_next0 320 = .ok (.iload_n 1, 1) := by decide +kernel
theorem dX12_next0_321 : decode cX12_next0 321 = .ok (.goto 4, 3) := by decide +kernel
theorem dX12_next0_324 : decode cX12_next0 324 = .ok (.iconst 1, 1) := by decide +kernel
theorem dX12_next0_325 : decode cX12_next0 325 = .ok (.putfield 158, 3) := by decide +kernel
theorem dX12_next0_328 : decode cX12_next0 328 = .ok (.return_, 1) := by decide +kernel
theorem dX12_bad_0 : decode cX12_bad 0 = .ok (.aload_n 0, 1) := by decide +kernel
theorem dX12_bad_1 : decode cX12_bad 1 = .ok (.iload_n 1, 1) := by decide +kernel
theorem dX12_bad_2 : decode cX12_bad 2 = .ok (.putfield 174, 3) := by decide +kernel
theorem dX12_bad_5 : decode cX12_bad 5 = .ok (.aload_n 0, 1) := by decide +kernel
theorem dX12_bad_6 : decode cX12_bad 6 = .ok (.aload_n 0, 1) := by decide +kernel
theorem dX12_bad_7 : decode cX12_bad 7 = .ok (.getfield 155, 3) := by decide +kernel
theorem dX12_bad_10 : decode cX12_bad 10 = .ok (.putfield 177, 3) := by decide +kernel
theorem dX12_bad_13 : decode cX12_bad 13 = .ok (.iconst 0, 1) := by decide +kernel
theorem dX12_bad_14 : decode cX12_bad 14 = .ok (.ireturn, 1) := by decide +kernel
theorem dX12_need_0 : decode cX12_need 0 = .ok (.aload_n 0, 1) := by decide +kernel
theorem dX12_need_1 : decode cX12_need 1 = .ok (.getfield 158, 3) := by decide +kernel
theorem dX12_need_4 : decode cX12_need 4 = .ok (.iload_n 1, 1) := by decide +kernel
theorem dX12_need_5 : decode cX12_need 5 = .ok (.if_icmp .eq 9, 3) := by decide +kernel
theorem dX12_need_8 : decode cX12_need 8 = .ok (.aload_n 0, 1) := by decide +kernel
theorem dX12_need_9 : decode cX12_need 9 = .ok (.iconst 1, 1) := by decide +kernel
theorem dX12_need_10 : decode cX12_need 10 = .ok (.invokevirtual 180, 3) := by decide +kernel
theorem dX12_need_13 : decode cX12_need 13 = .ok (.ireturn, 1) := by decide +kernel
theorem dX12_need_14 : decode cX12_need 14 = .ok (.aload_n 0, 1) := by decide +kernel
theorem dX12_need_15 : decode cX12_need 15 = .ok (.invokevirtual 183, 3) := by decide +kernel
theorem dX12_need_18 : decode cX12_need 18 = .ok (.iconst 1, 1) := by decide +kernel
theorem dX12_need_19 : decode cX12_need 19 = .ok (.ireturn, 1) := by decide +kernel
theorem dX12_lay_0 : decode cX12_lay 0 = .ok (.aload_n 0, 1) := by decide +kernel
theorem dX12_lay_1 : decode cX12_lay 1 = .ok (.getfield 65, 3) := by decide +kernel
theorem dX12_lay_4 : decode cX12_lay 4 = .ok (.iconst 2, 1) := by decide +kernel
theorem dX12_lay_5 : decode cX12_lay 5 = .ok (.aload_n 0, 1) := by decide +kernel
theorem dX12_lay_6 : decode cX12_lay 6 = .ok (.getfield 186, 3) := by decide +kernel
theorem dX12_lay_9 : decode cX12_lay 9 = .ok (.imul, 1) := by decide +kernel
theorem dX12_lay_10 : decode cX12_lay 10 = .ok (.iload_n 1, 1) := by decide +kernel
theorem dX12_lay_11 : decode cX12_lay 11 = .ok (.iastore, 1) := by decide +kernel
theorem dX12_lay_12 : decode cX12_lay 12 = .ok (.aload_n 0, 1) := by decide +kernel
theorem dX12_lay_13 : decode cX12_lay 13 = .ok (.getfield 65, 3) := by decide +kernel
theorem dX12_lay_16 : decode cX12_lay 16 = .ok (.iconst 2, 1) := by decide +kernel
theorem dX12_lay_17 : decode cX12_lay 17 = .ok (.aload_n 0, 1) := by decide +kernel
theorem dX12_lay_18 : decode cX12_lay 18 = .ok (.getfield 186, 3) := by decide +kernel
theorem dX12_lay_21 : decode cX12_lay 21 = .ok (.imul, 1) := by decide +kernel
theorem dX12_lay_22 : decode cX12_lay 22 = .ok (.iconst 1, 1) := by decide +kernel
theorem dX12_lay_23 : decode cX12_lay 23 = .ok (.iadd, 1) := by decide +kernel
theorem dX12_lay_24 : decode cX12_lay 24 = .ok (.iload_n 2, 1) := by decide +kernel
theorem dX12_lay_25 : decode cX12_lay 25 = .ok (.iastore, 1) := by decide +kernel
theorem dX12_lay_26 : decode cX12_lay 26 = .ok (.aload_n 0, 1) := by decide +kernel
theorem dX12_lay_27 : decode cX12_lay 27 = .ok (.dup, 1) := by decide +kernel
theorem dX12_lay_28 : decode cX12_lay 28 = .ok (.getfield 186, 3) := by decide +kernel
theorem dX12_lay_31 : decode cX12_lay 31 = .ok (.iconst 1, 1) := by decide +kernel
theorem dX12_lay_32 : decode cX12_lay 32 = .ok (.iadd, 1) := by decide +kernel
theorem dX12_lay_33 : decode cX12_lay 33 = .ok (.putfield 186, 3) := by decide +kernel
theorem dX12_lay_36 : decode cX12_lay 36 = .ok (.return_, 1) := by decide +kernel
theorem dX12_sum_0 : decode cX12_sum 0 = .ok (.aload_n 0, 1) := by decide +kernel
theorem dX12_sum_1 : decode cX12_sum 1 = .ok (.invokevirtual 189, 3) := by decide +kernel
theorem dX12_sum_4 : decode cX12_sum 4 = .ok (.ifCond .ne 5, 3) := by decide +kernel
theorem dX12_sum_7 : decode cX12_sum 7 = .ok (.iconst 0, 1) := by decide +kernel
theorem dX12_sum_8 : decode cX12_sum 8 = .ok (.ireturn, 1) := by decide +kernel
theorem dX12_sum_9 : decode cX12_sum 9 = .ok (.aload_n 0, 1) := by decide +kernel
theorem dX12_sum_10 : decode cX12_sum 10 = .ok (.getfield 158, 3) := by decide +kernel
theorem dX12_sum_13 : decode cX12_sum 13 = .ok (.bipush 43, 2) := by decide +kernel
theorem dX12_sum_15 : decode cX12_sum 15 = .ok (.if_icmp .eq 12, 3) := by decide +kernel
theorem dX12_sum_18 : decode cX12_sum 18 = .ok (.aload_n 0, 1) := by decide +kernel
theorem dX12_sum_19 : decode cX12_sum 19 = .ok (.getfield 158, 3) := by decide +kernel
theorem dX12_sum_22 : decode cX12_sum 22 = .ok (.bipush 45, 2) := by decide +kernel
theorem dX12_sum_24 : decode cX12_sum 24 = .ok (.if_icmp .ne 41, 3) := by decide +kernel
theorem dX12_sum_27 : decode cX12_sum 27 = .ok (.aload_n 0, 1) := by decide +kernel
theorem dX12_sum_28 : decode cX12_sum 28 = .ok (.getfield 158, 3) := by decide +kernel
theorem dX12_sum_31 : decode cX12_sum 31 = .ok (.bipush 43, 2) := by decide +kernel
theorem dX12_sum_33 : decode cX12_sum 33 = .ok (.if_icmp .ne 7, 3) := by decide +kernel
theorem dX12_sum_36 : decode cX12_sum 36 = .ok (.iconst 5, 1) := by decide +kernel
theorem dX12_sum_37 : decode cX12_sum 37 = .ok (.goto 5, 3) := by decide +kernel
theorem dX12_sum_40 : decode cX12_sum 40 = .ok (.bipush 6, 2) := by decide +kernel
theorem dX12_sum_42 : decode cX12_sum 42 = .ok (.istore_n 1, 1) := by decide +kernel
theorem dX12_sum_43 : decode cX12_sum 43 = .ok (.aload_n 0, 1) := by decide +kernel
theorem dX12_sum_44 : decode cX12_sum 44 = .ok (.invokevirtual 183, 3) := by decide +kernel
theorem dX12_sum_47 : decode cX12_sum 47 = .ok (.aload_n 0, 1) := by decide +kernel
theorem dX12_sum_48 : decode cX12_sum 48 = .ok (.invokevirtual 189, 3) := by decide +kernel
theorem dX12_sum_51 : decode cX12_sum 51 = .ok (.ifCond .ne 5, 3) := by decide +kernel
theorem dX12_sum_54 : decode cX12_sum 54 = .ok (.iconst 0, 1) := by decide +kernel
theorem dX12_sum_55 : decode cX12_sum 55 = .ok (.ireturn, 1) := by decide +kernel
theorem dX12_sum_56 : decode cX12_sum 56 = .ok (.aload_n 0, 1) := by decide +kernel
theorem dX12_sum_57 : decode cX12_sum 57 = .ok (.iload_n 1, 1) := by decide +kernel
theorem dX12_sum_58 : decode cX12_sum 58 = .ok (.iconst 0, 1) := by decide +kernel
theorem dX12_sum_59 : decode cX12_sum 59 = .ok (.invokevirtual 193, 3) := by decide +kernel
theorem dX12_sum_62 : decode cX12_sum 62 = .ok (.goto (-53), 3) := by decide +kernel
theorem dX12_sum_65 : decode cX12_sum 65 = .ok (.iconst 1, 1) := by decide +kernel
theorem dX12_sum_66 : decode cX12_sum 66 = .ok (.ireturn, 1) := by decide +kernel
theorem dX12_product_0 : decode cX12_product 0 = .ok (.aload_n 0, 1) := by decide +kernel
theorem dX12_product_1 : decode cX12_product 1 = .ok (.invokevirtual 197, 3) := by decide +kernel
theorem dX12_product_4 : decode cX12_product 4 = .ok (.ifCond .ne 5, 3) := by decide +kernel
theorem dX12_product_7 : decode cX12_product 7 = .ok (.iconst 0, 1) := by decide +kernel
theorem dX12_product_8 : decode cX12_product 8 = .ok (.ireturn, 1) := by decide +kernel
theorem dX12_product_9 : decode cX12_product 9 = .ok (.aload_n 0, 1) := by decide +kernel
theorem dX12_product_10 : decode cX12_product 10 = .ok (.getfield 158, 3) := by decide +kernel
theorem dX12_product_13 : decode cX12_product 13 = .ok (.bipush 42, 2) := by decide +kernel
theorem dX12_product_15 : decode cX12_product 15 = .ok (.if_icmp .eq 12, 3) := by decide +kernel
theorem dX12_product_18 : decode cX12_product 18 = .ok (.aload_n 0, 1) := by decide +kernel
theorem dX12_product_19 : decode cX12_product 19 = .ok (.getfield 158, 3) := by decide +kernel
theorem dX12_product_22 : decode cX12_product 22 = .ok (.bipush 47, 2) := by decide +kernel
theorem dX12_product_24 : decode cX12_product 24 = .ok (.if_icmp .ne 89, 3) := by decide +kernel
theorem dX12_product_27 : decode cX12_product 27 = .ok (.aload_n 0, 1) := by decide +kernel
theorem dX12_product_28 : decode cX12_product 28 = .ok (.getfield 158, 3) := by decide +kernel
theorem dX12_product_31 : decode cX12_product 31 = .ok (.bipush 47, 2) := by decide +kernel
theorem dX12_product_33 : decode cX12_product 33 = .ok (.if_icmp .ne 7, 3) := by decide +kernel
theorem dX12_product_36 : decode cX12_product 36 = .ok (.iconst 1, 1) := by decide +kernel
theorem dX12_product_37 : decode cX12_product 37 = .ok (.goto 4, 3) := by decide +kernel
theorem dX12_product_40 : decode cX12_product 40 = .ok (.iconst 0, 1) := by decide +kernel
theorem dX12_product_41 : decode cX12_product 41 = .ok (.istore_n 1, 1) := by decide +kernel
theorem dX12_product_42 : decode cX12_product 42 = .ok (.aload_n 0, 1) := by decide +kernel
theorem dX12_product_43 : decode cX12_product 43 = .ok (.invokevirtual 183, 3) := by decide +kernel
theorem dX12_product_46 : decode cX12_product 46 = .ok (.iload_n 1, 1) := by decide +kernel
theorem dX12_product_47 : decode cX12_product 47 = .ok (.ifCond .eq 47, 3) := by decide +kernel
theorem dX12_product_50 : decode cX12_product 50 = .ok (.aload_n 0, 1) := by decide +kernel
theorem dX12_product_51 : decode cX12_product 51 = .ok (.getfield 158, 3) := by decide +kernel
theorem dX12_product_54 : decode cX12_product 54 = .ok (.iconst 2, 1) := by decide +kernel
theorem dX12_product_55 : decode cX12_product 55 = .ok (.if_icmp .eq 9, 3) := by decide +kernel
theorem dX12_product_58 : decode cX12_product 58 = .ok (.aload_n 0, 1) := by decide +kernel
theorem dX12_product_59 : decode cX12_product 59 = .ok (.iconst 1, 1) := by decide +kernel
theorem dX12_product_60 : decode cX12_product 60 = .ok (.invokevirtual 180, 3) := by decide +kernel
theorem dX12_product_63 : decode cX12_product 63 = .ok (.ireturn, 1) := by decide +kernel
theorem dX12_product_64 : decode cX12_product 64 = .ok (.aload_n 0, 1) := by decide +kernel
theorem dX12_product_65 : decode cX12_product 65 = .ok (.getfield 171, 3) := by decide +kernel
theorem dX12_product_68 : decode cX12_product 68 = .ok (.ifCond .ne 9, 3) := by decide +kernel
theorem dX12_product_71 : decode cX12_product 71 = .ok (.aload_n 0, 1) := by decide +kernel
theorem dX12_product_72 : decode cX12_product 72 = .ok (.iconst 2, 1) := by decide +kernel
theorem dX12_product_73 : decode cX12_product 73 = .ok (.invokevirtual 180, 3) := by decide +kernel
theorem dX12_product_76 : decode cX12_product 76 = .ok (.ireturn, 1) := by decide +kernel
theorem dX12_product_77 : decode cX12_product 77 = .ok (.aload_n 0, 1) := by decide +kernel
theorem dX12_product_78 : decode cX12_product 78 = .ok (.bipush 8, 2) := by decide +kernel
theorem dX12_product_80 : decode cX12_product 80 = .ok (.aload_n 0, 1) := by decide +kernel
theorem dX12_product_81 : decode cX12_product 81 = .ok (.getfield 171, 3) := by decide +kernel
theorem dX12_product_84 : decode cX12_product 84 = .ok (.invokevirtual 193, 3) := by decide +kernel
theorem dX12_product_87 : decode cX12_product 87 = .ok (.aload_n 0, 1) := by decide +kernel
theorem dX12_product_88 : decode cX12_product 88 = .ok (.invokevirtual 183, 3) := by decide +kernel
theorem dX12_product_91 : decode cX12_product 91 = .ok (.goto 19, 3) := by decide +kernel
theorem dX12_product_94 : decode cX12_product 94 = .ok (.aload_n 0, 1) := by decide +kernel
theorem dX12_product_95 : decode cX12_product 95 = .ok (.invokevirtual 197, 3) := by decide +kernel
theorem dX12_product_98 : decode cX12_product 98 = .ok (.ifCond .ne 5, 3) := by decide +kernel
theorem dX12_product_101 : decode cX12_product 101 = .ok (.iconst 0, 1) := by decide +kernel
theorem dX12_product_102 : decode cX12_product 102 = .ok (.ireturn, 1) := by decide +kernel
theorem dX12_product_103 : decode cX12_product 103 = .ok (.aload_n 0, 1) := by decide +kernel
theorem dX12_product_104 : decode cX12_product 104 = .ok (.bipush 7, 2) := by decide +kernel
theorem dX12_product_106 : decode cX12_product 106 = .ok (.iconst 0, 1) := by decide +kernel
theorem dX12_product_107 : decode cX12_product 107 = .ok (.invokevirtual 193, 3) := by decide +kernel
theorem dX12_product_110 : decode cX12_product 110 = .ok (.goto (-101), 3) := by decide +kernel
theorem dX12_product_113 : decode cX12_product 113 = .ok (.iconst 1, 1) := by decide +kernel
theorem dX12_product_114 : decode cX12_product 114 = .ok (.ireturn, 1) := by decide +kernel
theorem dX12_unit_0 : decode cX12_unit 0 = .ok (.aload_n 0, 1) := by decide +kernel
theorem dX12_unit_1 : decode cX12_unit 1 = .ok (.getfield 158, 3) := by decide +kernel
theorem dX12_unit_4 : decode cX12_unit 4 = .ok (.bipush 40, 2) := by decide +kernel
theorem dX12_unit_6 : decode cX12_unit 6 = .ok (.if_icmp .ne 62, 3) := by decide +kernel
theorem dX12_unit_9 : decode cX12_unit 9 = .ok (.aload_n 0, 1) := by decide +kernel
theorem dX12_unit_10 : decode cX12_unit 10 = .ok (.getfield 200, 3) := by decide +kernel
theorem dX12_unit_13 : decode cX12_unit 13 = .ok (.bipush 8, 2) := by decide +kernel
theorem dX12_unit_15 : decode cX12_unit 15 = .ok (.if_icmp .ne 9, 3) := by decide +kernel
theorem dX12_unit_18 : decode cX12_unit 18 = .ok (.aload_n 0, 1) := by decide +kernel
theorem dX12_unit_19 : decode cX12_unit 19 = .ok (.iconst 3, 1) := by decide +kernel
theorem dX12_unit_20 : decode cX12_unit 20 = .ok (.invokevirtual 180, 3) := by decide +kernel
theorem dX12_unit_23 : decode cX12_unit 23 = .ok (.ireturn, 1) := by decide +kernel
theorem dX12_unit_24 : decode cX12_unit 24 = .ok (.aload_n 0, 1) := by decide +kernel
theorem dX12_unit_25 : decode cX12_unit 25 = .ok (.dup, 1) := by decide +kernel
theorem dX12_unit_26 : decode cX12_unit 26 = .ok (.getfield 200, 3) := by decide +kernel
theorem dX12_unit_29 : decode cX12_unit 29 = .ok (.iconst 1, 1) := by decide +kernel
theorem dX12_unit_30 : decode cX12_unit 30 = .ok (.iadd, 1) := by decide +kernel
theorem dX12_unit_31 : decode cX12_unit 31 = .ok (.putfield 200, 3) := by decide +kernel
theorem dX12_unit_34 : decode cX12_unit 34 = .ok (.aload_n 0, 1) := by decide +kernel
theorem dX12_unit_35 : decode cX12_unit 35 = .ok (.invokevirtual 183, 3) := by decide +kernel
theorem dX12_unit_38 : decode cX12_unit 38 = .ok (.aload_n 0, 1) := by decide +kernel
theorem dX12_unit_39 : decode cX12_unit 39 = .ok (.invokevirtual 203, 3) := by decide +kernel
theorem dX12_unit_42 : decode cX12_unit 42 = .ok (.ifCond .eq 12, 3) := by decide +kernel
theorem dX12_unit_45 : decode cX12_unit 45 = .ok (.aload_n 0, 1) := by decide +kernel
theorem dX12_unit_46 : decode cX12_unit 46 = .ok (.bipush 41, 2) := by decide +kernel
theorem dX12_unit_48 : decode cX12_unit 48 = .ok (.invokevirtual 206, 3) := by decide +kernel
theorem dX12_unit_51 : decode cX12_unit 51 = .ok (.ifCond .ne 5, 3) := by decide +kernel
theorem dX12_unit_54 : decode cX12_unit 54 = .ok (.iconst 0, 1) := by decide +kernel
theorem dX12_unit_55 : decode cX12_unit 55 = .ok (.ireturn, 1) := by decide +kernel
theorem dX12_unit_56 : decode cX12_unit 56 = .ok (.aload_n 0, 1) := by decide +kernel
theorem dX12_unit_57 : decode cX12_unit 57 = .ok (.dup, 1) := by decide +kernel
theorem dX12_unit_58 : decode cX12_unit 58 = .ok (.getfield 200, 3) := by decide +kernel
theorem dX12_unit_61 : decode cX12_unit 61 = .ok (.iconst 1, 1) := by decide +kernel
theorem dX12_unit_62 : decode cX12_unit 62 = .ok (.isub, 1) := by decide +kernel
theorem dX12_unit_63 : decode cX12_unit 63 = .ok (.putfield 200, 3) := by decide +kernel
theorem dX12_unit_66 : decode cX12_unit 66 = .ok (.iconst 1, 1) := by decide +kernel
theorem dX12_unit_67 : decode cX12_unit 67 = .ok (.ireturn, 1) := by decide +kernel
theorem dX12_unit_68 : decode cX12_unit 68 = .ok (.aload_n 0, 1) := by decide +kernel
theorem dX12_unit_69 : decode cX12_unit 69 = .ok (.getfield 158, 3) := by decide +kernel
theorem dX12_unit_72 : decode cX12_unit 72 = .ok (.iconst 2, 1) := by decide +kernel
theorem dX12_unit_73 : decode cX12_unit 73 = .ok (.if_icmp .eq 19, 3) := by decide +kernel
theorem dX12_unit_76 : decode cX12_unit 76 = .ok (.aload_n 0, 1) := by decide +kernel
theorem dX12_unit_77 : decode cX12_unit 77 = .ok (.getfield 158, 3) := by decide +kernel
theorem dX12_unit_80 : decode cX12_unit 80 = .ok (.sipush 201, 3) := by decide +kernel
theorem dX12_unit_83 : decode cX12_unit 83 = .ok (.if_icmp .ge 9, 3) := by decide +kernel
theorem dX12_unit_86 : decode cX12_unit 86 = .ok (.aload_n 0, 1) := by decide +kernel
theorem dX12_unit_87 : decode cX12_unit 87 = .ok (.iconst 1, 1) := by decide +kernel
theorem dX12_unit_88 : decode cX12_unit 88 = .ok (.invokevirtual 180, 3) := by decide +kernel
theorem dX12_unit_91 : decode cX12_unit 91 = .ok (.ireturn, 1) := by decide +kernel
theorem dX12_unit_92 : decode cX12_unit 92 = .ok (.aload_n 0, 1) := by decide +kernel
theorem dX12_unit_93 : decode cX12_unit 93 = .ok (.aload_n 0, 1) := by decide +kernel
theorem dX12_unit_94 : decode cX12_unit 94 = .ok (.getfield 158, 3) := by decide +kernel
theorem dX12_unit_97 : decode cX12_unit 97 = .ok (.iconst 2, 1) := by decide +kernel
theorem dX12_unit_98 : decode cX12_unit 98 = .ok (.if_icmp .ne 7, 3) := by decide +kernel
theorem dX12_unit_101 : decode cX12_unit 101 = .ok (.iconst 0, 1) := by decide +kernel
theorem dX12_unit_102 : decode cX12_unit 102 = .ok (.goto 13, 3) := by decide +kernel
theorem dX12_unit_105 : decode cX12_unit 105 = .ok (.iconst 1, 1) := by decide +kernel
theorem dX12_unit_106 : decode cX12_unit 106 = .ok (.aload_n 0, 1) := by decide +kernel
theorem dX12_unit_107 : decode cX12_unit 107 = .ok (.getfield 158, 3) := by decide +kernel
theorem dX12_unit_110 : decode cX12_unit 110 = .ok (.iadd, 1) := by decide +kernel
theorem dX12_unit_111 : decode cX12_unit 111 = .ok (.sipush 201, 3) := by decide +kernel
theorem dX12_unit_114 : decode cX12_unit 114 = .ok (.isub, 1) := by decide +kernel
theorem dX12_unit_115 : decode cX12_unit 115 = .ok (.aload_n 0, 1) := by decide +kernel
theorem dX12_unit_116 : decode cX12_unit 116 = .ok (.getfield 171, 3) := by decide +kernel
theorem dX12_unit_119 : decode cX12_unit 119 = .ok (.invokevirtual 193, 3) := by decide +kernel
theorem dX12_unit_122 : decode cX12_unit 122 = .ok (.aload_n 0, 1) := by decide +kernel
theorem dX12_unit_123 : decode cX12_unit 123 = .ok (.invokevirtual 183, 3) := by decide +kernel
theorem dX12_unit_126 : decode cX12_unit 126 = .ok (.iconst 1, 1) := by decide +kernel
theorem dX12_unit_127 : decode cX12_unit 127 = .ok (.ireturn, 1) := by decide +kernel
theorem dX12_one_0 : decode cX12_one 0 = .ok (.aload_n 0, 1) := by decide +kernel
theorem dX12_one_1 : decode cX12_one 1 = .ok (.invokevirtual 203, 3) := by decide +kernel
theorem dX12_one_4 : decode cX12_one 4 = .ok (.ifCond .ne 5, 3) := by decide +kernel
theorem dX12_one_7 : decode cX12_one 7 = .ok (.iconst 0, 1) := by decide +kernel
theorem dX12_one_8 : decode cX12_one 8 = .ok (.ireturn, 1) := by decide +kernel
theorem dX12_one_9 : decode cX12_one 9 = .ok (.aload_n 0, 1) := by decide +kernel
theorem dX12_one_10 : decode cX12_one 10 = .ok (.getfield 158, 3) := by decide +kernel
theorem dX12_one_13 : decode cX12_one 13 = .ok (.bipush 60, 2) := by decide +kernel
theorem dX12_one_15 : decode cX12_one 15 = .ok (.if_icmp .ne 8, 3) := by decide +kernel
theorem dX12_one_18 : decode cX12_one 18 = .ok (.bipush 9, 2) := by decide +kernel
theorem dX12_one_20 : decode cX12_one 20 = .ok (.goto 32, 3) := by decide +kernel
theorem dX12_one_23 : decode cX12_one 23 = .ok (.aload_n 0, 1) := by decide +kernel
theorem dX12_one_24 : decode cX12_one 24 = .ok (.getfield 158, 3) := by decide +kernel
theorem dX12_one_27 : decode cX12_one 27 = .ok (.bipush 61, 2) := by decide +kernel
theorem dX12_one_29 : decode cX12_one 29 = .ok (.if_icmp .ne 8, 3) := by decide +kernel
theorem dX12_one_32 : decode cX12_one 32 = .ok (.bipush 10, 2) := by decide +kernel
theorem dX12_one_34 : decode cX12_one 34 = .ok (.goto 18, 3) := by decide +kernel
theorem dX12_one_37 : decode cX12_one 37 = .ok (.aload_n 0, 1) := by decide +kernel
theorem dX12_one_38 : decode cX12_one 38 = .ok (.getfield 158, 3) := by decide +kernel
theorem dX12_one_41 : decode cX12_one 41 = .ok (.bipush 62, 2) := by decide +kernel
theorem dX12_one_43 : decode cX12_one 43 = .ok (.if_icmp .ne 8, 3) := by decide +kernel
theorem dX12_one_46 : decode cX12_one 46 = .ok (.bipush 11, 2) := by decide +kernel
theorem dX12_one_48 : decode cX12_one 48 = .ok (.goto 4, 3) := by decide +kernel
theorem dX12_one_51 : decode cX12_one 51 = .ok (.iconst (-1), 1) := by decide +kernel
theorem dX12_one_52 : decode cX12_one 52 = .ok (.istore_n 1, 1) := by decide +kernel
theorem dX12_one_53 : decode cX12_one 53 = .ok (.iload_n 1, 1) := by decide +kernel
theorem dX12_one_54 : decode cX12_one 54 = .ok (.iconst (-1), 1) := by decide +kernel
theorem dX12_one_55 : decode cX12_one 55 = .ok (.if_icmp .ne 9, 3) := by decide +kernel
theorem dX12_one_58 : decode cX12_one 58 = .ok (.aload_n 0, 1) := by decide +kernel
theorem dX12_one_59 : decode cX12_one 59 = .ok (.iconst 1, 1) := by decide +kernel
theorem dX12_one_60 : decode cX12_one 60 = .ok (.invokevirtual 180, 3) := by decide +kernel
theorem dX12_one_63 : decode cX12_one 63 = .ok (.ireturn, 1) := by decide +kernel
theorem dX12_one_64 : decode cX12_one 64 = .ok (.aload_n 0, 1) := by decide +kernel
theorem dX12_one_65 : decode cX12_one 65 = .ok (.invokevirtual 183, 3) := by decide +kernel
theorem dX12_one_68 : decode cX12_one 68 = .ok (.aload_n 0, 1) := by decide +kernel
theorem dX12_one_69 : decode cX12_one 69 = .ok (.invokevirtual 203, 3) := by decide +kernel
theorem dX12_one_72 : decode cX12_one 72 = .ok (.ifCond .ne 5, 3) := by decide +kernel
theorem dX12_one_75 : decode cX12_one 75 = .ok (.iconst 0, 1) := by decide +kernel
theorem dX12_one_76 : decode cX12_one 76 = .ok (.ireturn, 1) := by decide +kernel
theorem dX12_one_77 : decode cX12_one 77 = .ok (.aload_n 0, 1) := by decide +kernel
theorem dX12_one_78 : decode cX12_one 78 = .ok (.iload_n 1, 1) := by decide +kernel
theorem dX12_one_79 : decode cX12_one 79 = .ok (.iconst 0, 1) := by decide +kernel
theorem dX12_one_80 : decode cX12_one 80 = .ok (.invokevirtual 193, 3) := by decide +kernel
theorem dX12_one_83 : decode cX12_one 83 = .ok (.iconst 1, 1) := by decide +kernel
theorem dX12_one_84 : decode cX12_one 84 = .ok (.ireturn, 1) := by decide +kernel
theorem dX12_aRule_0 : decode cX12_aRule 0 = .ok (.aload_n 0, 1) := by decide +kernel
theorem dX12_aRule_1 : decode cX12_aRule 1 = .ok (.getfield 158, 3) := by decide +kernel
theorem dX12_aRule_4 : decode cX12_aRule 4 = .ok (.iconst 3, 1) := by decide +kernel
theorem dX12_aRule_5 : decode cX12_aRule 5 = .ok (.if_icmp .eq 9, 3) := by decide +kernel
theorem dX12_aRule_8 : decode cX12_aRule 8 = .ok (.aload_n 0, 1) := by decide +kernel
theorem dX12_aRule_9 : decode cX12_aRule 9 = .ok (.iconst 1, 1) := by decide +kernel
theorem dX12_aRule_10 : decode cX12_aRule 10 = .ok (.invokevirtual 180, 3) := by decide +kernel
theorem dX12_aRule_13 : decode cX12_aRule 13 = .ok (.ireturn, 1) := by decide +kernel
theorem dX12_aRule_14 : decode cX12_aRule 14 = .ok (.aload_n 0, 1) := by decide +kernel
theorem dX12_aRule_15 : decode cX12_aRule 15 = .ok (.getfield 209, 3) := by decide +kernel
theorem dX12_aRule_18 : decode cX12_aRule 18 = .ok (.bipush 10, 2) := by decide +kernel
theorem dX12_aRule_20 : decode cX12_aRule 20 = .ok (.if_icmp .ne 9, 3) := by decide +kernel
theorem dX12_aRule_23 : decode cX12_aRule 23 = .ok (.aload_n 0, 1) := by decide +kernel
theorem dX12_aRule_24 : decode cX12_aRule 24 = .ok (.iconst 3, 1) := by decide +kernel
theorem dX12_aRule_25 : decode cX12_aRule 25 = .ok (.invokevirtual 180, 3) := by decide +kernel
theorem dX12_aRule_28 : decode cX12_aRule 28 = .ok (.ireturn, 1) := by decide +kernel
theorem dX12_aRule_29 : decode cX12_aRule 29 = .ok (.aload_n 0, 1) := by decide +kernel
theorem dX12_aRule_30 : decode cX12_aRule 30 = .ok (.invokevirtual 183, 3) := by decide +kernel
theorem dX12_aRule_33 : decode cX12_aRule 33 = .ok (.aload_n 0, 1) := by decide +kernel
theorem dX12_aRule_34 : decode cX12_aRule 34 = .ok (.iconst 0, 1) := by decide +kernel
theorem dX12_aRule_35 : decode cX12_aRule 35 = .ok (.putfield 200, 3) := by decide +kernel
theorem dX12_aRule_38 : decode cX12_aRule 38 = .ok (.aload_n 0, 1) := by decide +kernel
theorem dX12_aRule_39 : decode cX12_aRule 39 = .ok (.getfield 59, 3) := by decide +kernel
theorem dX12_aRule_42 : decode cX12_aRule 42 = .ok (.aload_n 0, 1) := by decide +kernel
theorem dX12_aRule_43 : decode cX12_aRule 43 = .ok (.getfield 209, 3) := by decide +kernel
theorem dX12_aRule_46 : decode cX12_aRule 46 = .ok (.aload_n 0, 1) := by decide +kernel
theorem dX12_aRule_47 : decode cX12_aRule 47 = .ok (.getfield 186, 3) := by decide +kernel
theorem dX12_aRule_50 : decode cX12_aRule 50 = .ok (.iastore, 1) := by decide +kernel
theorem dX12_aRule_51 : decode cX12_aRule 51 = .ok (.aload_n 0, 1) := by decide +kernel
theorem dX12_aRule_52 : decode cX12_aRule 52 = .ok (.invokevirtual 203, 3) := by decide +kernel
theorem dX12_aRule_55 : decode cX12_aRule 55 = .ok (.ifCond .ne 5, 3) := by decide +kernel
theorem dX12_aRule_58 : decode cX12_aRule 58 = .ok (.iconst 0, 1) := by decide +kernel
theorem dX12_aRule_59 : decode cX12_aRule 59 = .ok (.ireturn, 1) := by decide +kernel
theorem dX12_aRule_60 : decode cX12_aRule 60 = .ok (.aload_n 0, 1) := by decide +kernel
theorem dX12_aRule_61 : decode cX12_aRule 61 = .ok (.getfield 62, 3) := by decide +kernel
theorem dX12_aRule_64 : decode cX12_aRule 64 = .ok (.aload_n 0, 1) := by decide +kernel
theorem dX12_aRule_65 : decode cX12_aRule 65 = .ok (.getfield 209, 3) := by decide +kernel
theorem dX12_aRule_68 : decode cX12_aRule 68 = .ok (.aload_n 0, 1) := by decide +kernel
theorem dX12_aRule_69 : decode cX12_aRule 69 = .ok (.getfield 186, 3) := by decide +kernel
theorem dX12_aRule_72 : decode cX12_aRule 72 = .ok (.iastore, 1) := by decide +kernel
theorem dX12_aRule_73 : decode cX12_aRule 73 = .ok (.aload_n 0, 1) := by decide +kernel
theorem dX12_aRule_74 : decode cX12_aRule 74 = .ok (.dup, 1) := by decide +kernel
theorem dX12_aRule_75 : decode cX12_aRule 75 = .ok (.getfield 209, 3) := by decide +kernel
theorem dX12_aRule_78 : decode cX12_aRule 78 = .ok (.iconst 1, 1) := by decide +kernel
theorem dX12_aRule_79 : decode cX12_aRule 79 = .ok (.iadd, 1) := by decide +kernel
theorem dX12_aRule_80 : decode cX12_aRule 80 = .ok (.putfield 209, 3) := by decide +kernel
theorem dX12_aRule_83 : decode cX12_aRule 83 = .ok (.aload_n 0, 1) := by decide +kernel
theorem dX12_aRule_84 : decode cX12_aRule 84 = .ok (.iconst 4, 1) := by decide +kernel
theorem dX12_aRule_85 : decode cX12_aRule 85 = .ok (.invokevirtual 206, 3) := by decide +kernel
theorem dX12_aRule_88 : decode cX12_aRule 88 = .ok (.ifCond .eq 10, 3) := by decide +kernel
theorem dX12_aRule_91 : decode cX12_aRule 91 = .ok (.aload_n 0, 1) := by decide +kernel
theorem dX12_aRule_92 : decode cX12_aRule 92 = .ok (.invokevirtual 212, 3) := by decide +kernel
theorem dX12_aRule_95 : decode cX12_aRule 95 = .ok (.ifCond .ne 5, 3) := by decide +kernel
theorem dX12_aRule_98 : decode cX12_aRule 98 = .ok (.iconst 0, 1) := by decide +kernel
theorem dX12_aRule_99 : decode cX12_aRule 99 = .ok (.ireturn, 1) := by decide +kernel
theorem dX12_aRule_100 : decode cX12_aRule 100 = .ok (.aload_n 0, 1) := by decide +kernel
theorem dX12_aRule_101 : decode cX12_aRule 101 = .ok (.getfield 158, 3) := by decide +kernel
theorem dX12_aRule_104 : decode cX12_aRule 104 = .ok (.iconst 5, 1) := by decide +kernel
theorem dX12_aRule_105 : decode cX12_aRule 105 = .ok (.if_icmp .ne 26, 3) := by decide +kernel
theorem dX12_aRule_108 : decode cX12_aRule 108 = .ok (.aload_n 0, 1) := by decide +kernel
theorem dX12_aRule_109 : decode cX12_aRule 109 = .ok (.invokevirtual 183, 3) := by decide +kernel
theorem dX12_aRule_112 : decode cX12_aRule 112 = .ok (.aload_n 0, 1) := by decide +kernel
theorem dX12_aRule_113 : decode cX12_aRule 113 = .ok (.invokevirtual 212, 3) := by decide +kernel
theorem dX12_aRule_116 : decode cX12_aRule 116 = .ok (.ifCond .ne 5, 3) := by decide +kernel
theorem dX12_aRule_119 : decode cX12_aRule 119 = .ok (.iconst 0, 1) := by decide +kernel
theorem dX12_aRule_120 : decode cX12_aRule 120 = .ok (.ireturn, 1) := by decide +kernel
theorem dX12_aRule_121 : decode cX12_aRule 121 = .ok (.aload_n 0, 1) := by decide +kernel
theorem dX12_aRule_122 : decode cX12_aRule 122 = .ok (.bipush 12, 2) := by decide +kernel
theorem dX12_aRule_124 : decode cX12_aRule 124 = .ok (.iconst 0, 1) := by decide +kernel
theorem dX12_aRule_125 : decode cX12_aRule 125 = .ok (.invokevirtual 193, 3) := by decide +kernel
theorem dX12_aRule_128 : decode cX12_aRule 128 = .ok (.goto (-28), 3) := by decide +kernel
theorem dX12_aRule_131 : decode cX12_aRule 131 = .ok (.aload_n 0, 1) := by decide +kernel
theorem dX12_aRule_132 : decode cX12_aRule 132 = .ok (.bipush 59, 2) := by decide +kernel
theorem dX12_aRule_134 : decode cX12_aRule 134 = .ok (.invokevirtual 206, 3) := by decide +kernel
theorem dX12_aRule_137 : decode cX12_aRule 137 = .ok (.ireturn, 1) := by decide +kernel
theorem dX12_rules_0 : decode cX12_rules 0 = .ok (.aload_n 0, 1) := by decide +kernel
theorem dX12_rules_1 : decode cX12_rules 1 = .ok (.iconst 0, 1) := by decide +kernel
theorem dX12_rules_2 : decode cX12_rules 2 = .ok (.putfield 174, 3) := by decide +kernel
theorem dX12_rules_5 : decode cX12_rules 5 = .ok (.aload_n 0, 1) := by decide +kernel
theorem dX12_rules_6 : decode cX12_rules 6 = .ok (.iconst 0, 1) := by decide +kernel
theorem dX12_rules_7 : decode cX12_rules 7 = .ok (.putfield 149, 3) := by decide +kernel
theorem dX12_rules_10 : decode cX12_rules 10 = .ok (.aload_n 0, 1) := by decide +kernel
theorem dX12_rules_11 : decode cX12_rules 11 = .ok (.iconst 0, 1) := by decide +kernel
theorem dX12_rules_12 : decode cX12_rules 12 = .ok (.putfield 209, 3) := by decide +kernel
theorem dX12_rules_15 : decode cX12_rules 15 = .ok (.aload_n 0, 1) := by decide +kernel
theorem dX12_rules_16 : decode cX12_rules 16 = .ok (.iconst 0, 1) := by decide +kernel
theorem dX12_rules_17 : decode cX12_rules 17 = .ok (.putfield 186, 3) := by decide +kernel
theorem dX12_rules_20 : decode cX12_rules 20 = .ok (.aload_n 0, 1) := by decide +kernel
theorem dX12_rules_21 : decode cX12_rules 21 = .ok (.invokevirtual 183, 3) := by decide +kernel
theorem dX12_rules_24 : decode cX12_rules 24 = .ok (.iconst 1, 1) := by decide +kernel
theorem dX12_rules_25 : decode cX12_rules 25 = .ok (.istore_n 1, 1) := by decide +kernel
theorem dX12_rules_26 : decode cX12_rules 26 = .ok (.iload_n 1, 1) := by decide +kernel
theorem dX12_rules_27 : decode cX12_rules 27 = .ok (.ifCond .eq 18, 3) := by decide +kernel
theorem dX12_rules_30 : decode cX12_rules 30 = .ok (.aload_n 0, 1) := by decide +kernel
theorem dX12_rules_31 : decode cX12_rules 31 = .ok (.getfield 158, 3) := by decide +kernel
theorem dX12_rules_34 : decode cX12_rules 34 = .ok (.ifCond .eq 11, 3) := by decide +kernel
theorem dX12_rules_37 : decode cX12_rules 37 = .ok (.aload_n 0, 1) := by decide +kernel
theorem dX12_rules_38 : decode cX12_rules 38 = .ok (.invokevirtual 215, 3) := by decide +kernel
theorem dX12_rules_41 : decode cX12_rules 41 = .ok (.istore_n 1, 1) := by decide +kernel
theorem dX12_rules_42 : decode cX12_rules 42 = .ok (.goto (-16), 3) := by decide +kernel
theorem dX12_rules_45 : decode cX12_rules 45 = .ok (.aload_n 0, 1) := by decide +kernel
theorem dX12_rules_46 : decode cX12_rules 46 = .ok (.iconst 0, 1) := by decide +kernel
theorem dX12_rules_47 : decode cX12_rules 47 = .ok (.putfield 132, 3) := by decide +kernel
theorem dX12_rules_50 : decode cX12_rules 50 = .ok (.aload_n 0, 1) := by decide +kernel
theorem dX12_rules_51 : decode cX12_rules 51 = .ok (.aload_n 0, 1) := by decide +kernel
theorem dX12_rules_52 : decode cX12_rules 52 = .ok (.getfield 174, 3) := by decide +kernel
theorem dX12_rules_55 : decode cX12_rules 55 = .ok (.putfield 218, 3) := by decide +kernel
theorem dX12_rules_58 : decode cX12_rules 58 = .ok (.aload_n 0, 1) := by decide +kernel
theorem dX12_rules_59 : decode cX12_rules 59 = .ok (.iload_n 1, 1) := by decide +kernel
theorem dX12_rules_60 : decode cX12_rules 60 = .ok (.ifCond .eq 7, 3) := by decide +kernel
theorem dX12_rules_63 : decode cX12_rules 63 = .ok (.iconst (-1), 1) := by decide +kernel
theorem dX12_rules_64 : decode cX12_rules 64 = .ok (.goto 7, 3) := by decide +kernel
theorem dX12_rules_67 : decode cX12_rules 67 = .ok (.aload_n 0, 1) := by decide +kernel
theorem dX12_rules_68 : decode cX12_rules 68 = .ok (.getfield 177, 3) := by decide +kernel
theorem dX12_rules_71 : decode cX12_rules 71 = .ok (.putfield 74, 3) := by decide +kernel
theorem dX12_rules_74 : decode cX12_rules 74 = .ok (.iload_n 1, 1) := by decide +kernel
theorem dX12_rules_75 : decode cX12_rules 75 = .ok (.ifCond .ne 5, 3) := by decide +kernel
theorem dX12_rules_78 : decode cX12_rules 78 = .ok (.iconst (-1), 1) := by decide +kernel
theorem dX12_rules_79 : decode cX12_rules 79 = .ok (.ireturn, 1) := by decide +kernel
theorem dX12_rules_80 : decode cX12_rules 80 = .ok (.aload_n 0, 1) := by decide +kernel
theorem dX12_rules_81 : decode cX12_rules 81 = .ok (.aload_n 0, 1) := by decide +kernel
theorem dX12_rules_82 : decode cX12_rules 82 = .ok (.getfield 209, 3) := by decide +kernel
theorem dX12_rules_85 : decode cX12_rules 85 = .ok (.putfield 221, 3) := by decide +kernel
theorem dX12_rules_88 : decode cX12_rules 88 = .ok (.iconst 0, 1) := by decide +kernel
theorem dX12_rules_89 : decode cX12_rules 89 = .ok (.istore_n 2, 1) := by decide +kernel
theorem dX12_rules_90 : decode cX12_rules 90 = .ok (.iload_n 2, 1) := by decide +kernel
theorem dX12_rules_91 : decode cX12_rules 91 = .ok (.aload_n 0, 1) := by decide +kernel
theorem dX12_rules_92 : decode cX12_rules 92 = .ok (.getfield 221, 3) := by decide +kernel
theorem dX12_rules_95 : decode cX12_rules 95 = .ok (.if_icmp .ge 33, 3) := by decide +kernel
theorem dX12_rules_98 : decode cX12_rules 98 = .ok (.aload_n 0, 1) := by decide +kernel
theorem dX12_rules_99 : decode cX12_rules 99 = .ok (.getfield 50, 3) := by decide +kernel
theorem dX12_rules_102 : decode cX12_rules 102 = .ok (.iload_n 2, 1) := by decide +kernel
theorem dX12_rules_103 : decode cX12_rules 103 = .ok (.aload_n 0, 1) := by decide +kernel
theorem dX12_rules_104 : decode cX12_rules 104 = .ok (.getfield 59, 3) := by decide +kernel
theorem dX12_rules_107 : decode cX12_rules 107 = .ok (.iload_n 2, 1) := by decide +kernel
theorem dX12_rules_108 : decode cX12_rules 108 = .ok (.iaload, 1) := by decide +kernel
theorem dX12_rules_109 : decode cX12_rules 109 = .ok (.iastore, 1) := by decide +kernel
theorem dX12_rules_110 : decode cX12_rules 110 = .ok (.aload_n 0, 1) := by decide +kernel
theorem dX12_rules_111 : decode cX12_rules 111 = .ok (.getfield 53, 3) := by decide +kernel
theorem dX12_rules_114 : decode cX12_rules 114 = .ok (.iload_n 2, 1) := by decide +kernel
theorem dX12_rules_115 : decode cX12_rules 115 = .ok (.aload_n 0, 1) := by decide +kernel
theorem dX12_rules_116 : decode cX12_rules 116 = .ok (.getfield 62, 3) := by decide +kernel
theorem dX12_rules_119 : decode cX12_rules 119 = .ok (.iload_n 2, 1) := by decide +kernel
theorem dX12_rules_120 : decode cX12_rules 120 = .ok (.iaload, 1) := by decide +kernel
theorem dX12_rules_121 : decode cX12_rules 121 = .ok (.iastore, 1) := by decide +kernel
theorem dX12_rules_122 : decode cX12_rules 122 = .ok (.iinc 2 1, 3) := by decide +kernel
theorem dX12_rules_125 : decode cX12_rules 125 = .ok (.goto (-35), 3) := by decide +kernel
theorem dX12_rules_128 : decode cX12_rules 128 = .ok (.aload_n 0, 1) := by decide +kernel
theorem dX12_rules_129 : decode cX12_rules 129 = .ok (.getfield 50, 3) := by decide +kernel
theorem dX12_rules_132 : decode cX12_rules 132 = .ok (.aload_n 0, 1) := by decide +kernel
theorem dX12_rules_133 : decode cX12_rules 133 = .ok (.getfield 221, 3) := by decide +kernel
theorem dX12_rules_136 : decode cX12_rules 136 = .ok (.aload_n 0, 1) := by decide +kernel
theorem dX12_rules_137 : decode cX12_rules 137 = .ok (.getfield 186, 3) := by decide +kernel
theorem dX12_rules_140 : decode cX12_rules 140 = .ok (.iastore, 1) := by decide +kernel
theorem dX12_rules_141 : decode cX12_rules 141 = .ok (.iconst 0, 1) := by decide +kernel
theorem dX12_rules_142 : decode cX12_rules 142 = .ok (.istore_n 2, 1) := by decide +kernel
theorem dX12_rules_143 : decode cX12_rules 143 = .ok (.iload_n 2, 1) := by decide +kernel
theorem dX12_rules_144 : decode cX12_rules 144 = .ok (.iconst 2, 1) := by decide +kernel
theorem dX12_rules_145 : decode cX12_rules 145 = .ok (.aload_n 0, 1) := by decide +kernel
theorem dX12_rules_146 : decode cX12_rules 146 = .ok (.getfield 186, 3) := by decide +kernel
theorem dX12_rules_149 : decode cX12_rules 149 = .ok (.imul, 1) := by decide +kernel
theorem dX12_rules_150 : decode cX12_rules 150 = .ok (.if_icmp .ge 21, 3) := by decide +kernel
theorem dX12_rules_153 : decode cX12_rules 153 = .ok (.aload_n 0, 1) := by decide +kernel
theorem dX12_rules_154 : decode cX12_rules 154 = .ok (.getfield 56, 3) := by decide +kernel
theorem dX12_rules_157 : decode cX12_rules 157 = .ok (.iload_n 2, 1) := by decide +kernel
theorem dX12_rules_158 : decode cX12_rules 158 = .ok (.aload_n 0, 1) := by decide +kernel
theorem dX12_rules_159 : decode cX12_rules 159 = .ok (.getfield 65, 3) := by decide +kernel
theorem dX12_rules_162 : decode cX12_rules 162 = .ok (.iload_n 2, 1) := by decide +kernel
theorem dX12_rules_163 : decode cX12_rules 163 = .ok (.iaload, 1) := by decide +kernel
theorem dX12_rules_164 : decode cX12_rules 164 = .ok (.iastore, 1) := by decide +kernel
theorem dX12_rules_165 : decode cX12_rules 165 = .ok (.iinc 2 1, 3) := by decide +kernel
theorem dX12_rules_168 : decode cX12_rules 168 = .ok (.goto (-25), 3) := by decide +kernel
theorem dX12_rules_171 : decode cX12_rules 171 = .ok (.aload_n 0, 1) := by decide +kernel
theorem dX12_rules_172 : decode cX12_rules 172 = .ok (.getfield 221, 3) := by decide +kernel
theorem dX12_rules_175 : decode cX12_rules 175 = .ok (.ireturn, 1) := by decide +kernel
theorem dX12_fault_0 : decode cX12_fault 0 = .ok (.iload_n 1, 1) := by decide +kernel
theorem dX12_fault_1 : decode cX12_fault 1 = .ok (.ifCond .ne 10, 3) := by decide +kernel
theorem dX12_fault_4 : decode cX12_fault 4 = .ok (.aload_n 0, 1) := by decide +kernel
theorem dX12_fault_5 : decode cX12_fault 5 = .ok (.getfield 218, 3) := by decide +kernel
theorem dX12_fault_8 : decode cX12_fault 8 = .ok (.goto 16, 3) := by decide +kernel
theorem dX12_fault_11 : decode cX12_fault 11 = .ok (.iload_n 1, 1) := by decide +kernel
theorem dX12_fault_12 : decode cX12_fault 12 = .ok (.iconst 1, 1) := by decide +kernel
theorem dX12_fault_13 : decode cX12_fault 13 = .ok (.if_icmp .ne 10, 3) := by decide +kernel
theorem dX12_fault_16 : decode cX12_fault 16 = .ok (.aload_n 0, 1) := by decide +kernel
theorem dX12_fault_17 : decode cX12_fault 17 = .ok (.getfield 74, 3) := by decide +kernel
theorem dX12_fault_20 : decode cX12_fault 20 = .ok (.goto 4, 3) := by decide +kernel
theorem dX12_fault_23 : decode cX12_fault 23 = .ok (.iconst (-1), 1) := by decide +kernel
theorem dX12_fault_24 : decode cX12_fault 24 = .ok (.ireturn, 1) := by decide +kernel
theorem dX12_known_0 : decode cX12_known 0 = .ok (.iload_n 2, 1) := by decide +kernel
theorem dX12_known_1 : decode cX12_known 1 = .ok (.tableswitch 54 0 3 #[31, 33, 40, 47], 31) := by decide +kernel
theorem dX12_known_32 : decode cX12_known 32 = .ok (.iload_n 3, 1) := by decide +kernel
theorem dX12_known_33 : decode cX12_known 33 = .ok (.ireturn, 1) := by decide +kernel
theorem dX12_known_34 : decode cX12_known 34 = .ok (.aload_n 0, 1) := by decide +kernel
theorem dX12_known_35 : decode cX12_known 35 = .ok (.getfield 22, 3) := by decide +kernel
theorem dX12_known_38 : decode cX12_known 38 = .ok (.iload_n 1, 1) := by decide +kernel
theorem dX12_known_39 : decode cX12_known 39 = .ok (.iaload, 1) := by decide +kernel
theorem dX12_known_40 : decode cX12_known 40 = .ok (.ireturn, 1) := by decide +kernel
theorem dX12_known_41 : decode cX12_known 41 = .ok (.aload_n 0, 1) := by decide +kernel
theorem dX12_known_42 : decode cX12_known 42 = .ok (.getfield 25, 3) := by decide +kernel
theorem dX12_known_45 : decode cX12_known 45 = .ok (.iload_n 1, 1) := by decide +kernel
theorem dX12_known_46 : decode cX12_known 46 = .ok (.iaload, 1) := by decide +kernel
theorem dX12_known_47 : decode cX12_known 47 = .ok (.ireturn, 1) := by decide +kernel
theorem dX12_known_48 : decode cX12_known 48 = .ok (.aload_n 0, 1) := by decide +kernel
theorem dX12_known_49 : decode cX12_known 49 = .ok (.getfield 28, 3) := by decide +kernel
theorem dX12_known_52 : decode cX12_known 52 = .ok (.iload_n 1, 1) := by decide +kernel
theorem dX12_known_53 : decode cX12_known 53 = .ok (.iaload, 1) := by decide +kernel
theorem dX12_known_54 : decode cX12_known 54 = .ok (.ireturn, 1) := by decide +kernel
theorem dX12_known_55 : decode cX12_known 55 = .ok (.aload_n 0, 1) := by decide +kernel
theorem dX12_known_56 : decode cX12_known 56 = .ok (.getfield 46, 3) := by decide +kernel
theorem dX12_known_59 : decode cX12_known 59 = .ok (.iload_n 1, 1) := by decide +kernel
theorem dX12_known_60 : decode cX12_known 60 = .ok (.baload, 1) := by decide +kernel
theorem dX12_known_61 : decode cX12_known 61 = .ok (.ifCond .eq 7, 3) := by decide +kernel
theorem dX12_known_64 : decode cX12_known 64 = .ok (.iconst 1, 1) := by decide +kernel
theorem dX12_known_65 : decode cX12_known 65 = .ok (.goto 4, 3) := by decide +kernel
theorem dX12_known_68 : decode cX12_known 68 = .ok (.iconst 0, 1) := by decide +kernel
theorem dX12_known_69 : decode cX12_known 69 = .ok (.ireturn, 1) := by decide +kernel
theorem dX12_both_0 : decode cX12_both 0 = .ok (.iload_n 0, 1) := by decide +kernel
theorem dX12_both_1 : decode cX12_both 1 = .ok (.tableswitch 88 5 11 #[43, 47, 51, 88, 55, 66, 77], 43) := by decide +kernel
theorem dX12_both_44 : decode cX12_both 44 = .ok (.iload_n 1, 1) := by decide +kernel
theorem dX12_both_45 : decode cX12_both 45 = .ok (.iload_n 2, 1) := by decide +kernel
theorem dX12_both_46 : decode cX12_both 46 = .ok (.iadd, 1) := by decide +kernel
theorem dX12_both_47 : decode cX12_both 47 = .ok (.ireturn, 1) := by decide +kernel
theorem dX12_both_48 : decode cX12_both 48 = .ok (.iload_n 1, 1) := by decide +kernel
theorem dX12_both_49 : decode cX12_both 49 = .ok (.iload_n 2, 1) := by decide +kernel
theorem dX12_both_50 : decode cX12_both 50 = .ok (.isub, 1) := by decide +kernel
theorem dX12_both_51 : decode cX12_both 51 = .ok (.ireturn, 1) := by decide +kernel
theorem dX12_both_52 : decode cX12_both 52 = .ok (.iload_n 1, 1) := by decide +kernel
theorem dX12_both_53 : decode cX12_both 53 = .ok (.iload_n 2, 1) := by decide +kernel
theorem dX12_both_54 : decode cX12_both 54 = .ok (.imul, 1) := by decide +kernel
theorem dX12_both_55 : decode cX12_both 55 = .ok (.ireturn, 1) := by decide +kernel
theorem dX12_both_56 : decode cX12_both 56 = .ok (.iload_n 1, 1) := by decide +kernel
theorem dX12_both_57 : decode cX12_both 57 = .ok (.iload_n 2, 1) := by decide +kernel
theorem dX12_both_58 : decode cX12_both 58 = .ok (.if_icmp .ge 7, 3) := by decide +kernel
theorem dX12_both_61 : decode cX12_both 61 = .ok (.iconst 1, 1) := by decide +kernel
theorem dX12_both_62 : decode cX12_both 62 = .ok (.goto 4, 3) := by decide +kernel
theorem dX12_both_65 : decode cX12_both 65 = .ok (.iconst 0, 1) := by decide +kernel
theorem dX12_both_66 : decode cX12_both 66 = .ok (.ireturn, 1) := by decide +kernel
theorem dX12_both_67 : decode cX12_both 67 = .ok (.iload_n 1, 1) := by decide +kernel
theorem dX12_both_68 : decode cX12_both 68 = .ok (.iload_n 2, 1) := by decide +kernel
theorem dX12_both_69 : decode cX12_both 69 = .ok (.if_icmp .ne 7, 3) := by decide +kernel
theorem dX12_both_72 : decode cX12_both 72 = .ok (.iconst 1, 1) := by decide +kernel
theorem dX12_both_73 : decode cX12_both 73 = .ok (.goto 4, 3) := by decide +kernel
theorem dX12_both_76 : decode cX12_both 76 = .ok (.iconst 0, 1) := by decide +kernel
theorem dX12_both_77 : decode cX12_both 77 = .ok (.ireturn, 1) := by decide +kernel
theorem dX12_both_78 : decode cX12_both 78 = .ok (.iload_n 1, 1) := by decide +kernel
theorem dX12_both_79 : decode cX12_both 79 = .ok (.iload_n 2, 1) := by decide +kernel
theorem dX12_both_80 : decode cX12_both 80 = .ok (.if_icmp .le 7, 3) := by decide +kernel
theorem dX12_both_83 : decode cX12_both 83 = .ok (.iconst 1, 1) := by decide +kernel
theorem dX12_both_84 : decode cX12_both 84 = .ok (.goto 4, 3) := by decide +kernel
theorem dX12_both_87 : decode cX12_both 87 = .ok (.iconst 0, 1) := by decide +kernel
theorem dX12_both_88 : decode cX12_both 88 = .ok (.ireturn, 1) := by decide +kernel
theorem dX12_both_89 : decode cX12_both 89 = .ok (.iload_n 1, 1) := by decide +kernel
theorem dX12_both_90 : decode cX12_both 90 = .ok (.iload_n 2, 1) := by decide +kernel
theorem dX12_both_91 : decode cX12_both 91 = .ok (.iand, 1) := by decide +kernel
theorem dX12_both_92 : decode cX12_both 92 = .ok (.ireturn, 1) := by decide +kernel
theorem dX12_comesTo_0 : decode cX12_comesTo 0 = .ok (.iconst 0, 1) := by decide +kernel
theorem dX12_comesTo_1 : decode cX12_comesTo 1 = .ok (.istore 4, 2) := by decide +kernel
theorem dX12_comesTo_3 : decode cX12_comesTo 3 = .ok (.iload_n 2, 1) := by decide +kernel
theorem dX12_comesTo_4 : decode cX12_comesTo 4 = .ok (.istore 5, 2) := by decide +kernel
theorem dX12_comesTo_6 : decode cX12_comesTo 6 = .ok (.iload 5, 2) := by decide +kernel
theorem dX12_comesTo_8 : decode cX12_comesTo 8 = .ok (.iload_n 3, 1) := by decide +kernel
theorem dX12_comesTo_9 : decode cX12_comesTo 9 = .ok (.if_icmp .ge 118, 3) := by decide +kernel
theorem dX12_comesTo_12 : decode cX12_comesTo 12 = .ok (.aload_n 0, 1) := by decide +kernel
theorem dX12_comesTo_13 : decode cX12_comesTo 13 = .ok (.getfield 56, 3) := by decide +kernel
theorem dX12_comesTo_16 : decode cX12_comesTo 16 = .ok (.iconst 2, 1) := by decide +kernel
theorem dX12_comesTo_17 : decode cX12_comesTo 17 = .ok (.iload 5, 2) := by decide +kernel
theorem dX12_comesTo_19 : decode cX12_comesTo 19 = .ok (.imul, 1) := by decide +kernel
theorem dX12_comesTo_20 : decode cX12_comesTo 20 = .ok (.iaload, 1) := by decide +kernel
theorem dX12_comesTo_21 : decode cX12_comesTo 21 = .ok (.istore 6, 2) := by decide +kernel
theorem dX12_comesTo_23 : decode cX12_comesTo 23 = .ok (.aload_n 0, 1) := by decide +kernel
theorem dX12_comesTo_24 : decode cX12_comesTo 24 = .ok (.getfield 56, 3) := by decide +kernel
theorem dX12_comesTo_27 : decode cX12_comesTo 27 = .ok (.iconst 2, 1) := by decide +kernel
theorem dX12_comesTo_28 : decode cX12_comesTo 28 = .ok (.iload 5, 2) := by decide +kernel
theorem dX12_comesTo_30 : decode cX12_comesTo 30 = .ok (.imul, 1) := by decide +kernel
theorem dX12_comesTo_31 : decode cX12_comesTo 31 = .ok (.iconst 1, 1) := by decide +kernel
theorem dX12_comesTo_32 : decode cX12_comesTo 32 = .ok (.iadd, 1) := by decide +kernel
theorem dX12_comesTo_33 : decode cX12_comesTo 33 = .ok (.iaload, 1) := by decide +kernel
theorem dX12_comesTo_34 : decode cX12_comesTo 34 = .ok (.istore 7, 2) := by decide +kernel
theorem dX12_comesTo_36 : decode cX12_comesTo 36 = .ok (.iload 6, 2) := by decide +kernel
theorem dX12_comesTo_38 : decode cX12_comesTo 38 = .ok (.iconst 5, 1) := by decide +kernel
theorem dX12_comesTo_39 : decode cX12_comesTo 39 = .ok (.if_icmp .ge 25, 3) := by decide +kernel
theorem dX12_comesTo_42 : decode cX12_comesTo 42 = .ok (.aload_n 0, 1) := by decide +kernel
theorem dX12_comesTo_43 : decode cX12_comesTo 43 = .ok (.getfield 68, 3) := by decide +kernel
theorem dX12_comesTo_46 : decode cX12_comesTo 46 = .ok (.iload 4, 2) := by decide +kernel
theorem dX12_comesTo_48 : decode cX12_comesTo 48 = .ok (.aload_n 0, 1) := by decide +kernel
theorem dX12_comesTo_49 : decode cX12_comesTo 49 = .ok (.iload_n 1, 1) := by decide +kernel
theorem dX12_comesTo_50 : decode cX12_comesTo 50 = .ok (.iload 6, 2) := by decide +kernel
theorem dX12_comesTo_52 : decode cX12_comesTo 52 = .ok (.iload 7, 2) := by decide +kernel
theorem dX12_comesTo_54 : decode cX12_comesTo 54 = .ok (.invokevirtual 224, 3) := by decide +kernel
theorem dX12_comesTo_57 : decode cX12_comesTo 57 = .ok (.iastore, 1) := by decide +kernel
theorem dX12_comesTo_58 : decode cX12_comesTo 58 = .ok (.iinc 4 1, 3) := by decide +kernel
theorem dX12_comesTo_61 : decode cX12_comesTo 61 = .ok (.goto 60, 3) := by decide +kernel
theorem dX12_comesTo_64 : decode cX12_comesTo 64 = .ok (.iload 6, 2) := by decide +kernel
theorem dX12_comesTo_66 : decode cX12_comesTo 66 = .ok (.bipush 8, 2) := by decide +kernel
theorem dX12_comesTo_68 : decode cX12_comesTo 68 = .ok (.if_icmp .ne 20, 3) := by decide +kernel
theorem dX12_comesTo_71 : decode cX12_comesTo 71 = .ok (.aload_n 0, 1) := by decide +kernel
theorem dX12_comesTo_72 : decode cX12_comesTo 72 = .ok (.getfield 68, 3) := by decide +kernel
theorem dX12_comesTo_75 : decode cX12_comesTo 75 = .ok (.iload 4, 2) := by decide +kernel
theorem dX12_comesTo_77 : decode cX12_comesTo 77 = .ok (.iconst 1, 1) := by decide +kernel
theorem dX12_comesTo_78 : decode cX12_comesTo 78 = .ok (.isub, 1) := by decide +kernel
theorem dX12_comesTo_79 : decode cX12_comesTo 79 = .ok (.dup2, 1) := by decide +kernel
theorem dX12_comesTo_80 : decode cX12_comesTo 80 = .ok (.iaload, 1) := by decide +kernel
theorem dX12_comesTo_81 : decode cX12_comesTo 81 = .ok (.iload 7, 2) := by decide +kernel
theorem dX12_comesTo_83 : decode cX12_comesTo 83 = .ok (.idiv, 1) := by decide +kernel
theorem dX12_comesTo_84 : decode cX12_comesTo 84 = .ok (.iastore, 1) := by decide +kernel
theorem dX12_comesTo_85 : decode cX12_comesTo 85 = .ok (.goto 36, 3) := by decide +kernel
theorem dX12_comesTo_88 : decode cX12_comesTo 88 = .ok (.iinc 4 (-1), 3) := by decide +kernel
theorem dX12_comesTo_91 : decode cX12_comesTo 91 = .ok (.aload_n 0, 1) := by decide +kernel
theorem dX12_comesTo_92 : decode cX12_comesTo 92 = .ok (.getfield 68, 3) := by decide +kernel
theorem dX12_comesTo_95 : decode cX12_comesTo 95 = .ok (.iload 4, 2) := by decide +kernel
theorem dX12_comesTo_97 : decode cX12_comesTo 97 = .ok (.iconst 1, 1) := by decide +kernel
theorem dX12_comesTo_98 : decode cX12_comesTo 98 = .ok (.isub, 1) := by decide +kernel
theorem dX12_comesTo_99 : decode cX12_comesTo 99 = .ok (.iload 6, 2) := by decide +kernel
theorem dX12_comesTo_101 : decode cX12_comesTo 101 = .ok (.aload_n 0, 1) := by decide +kernel
theorem dX12_comesTo_102 : decode cX12_comesTo 102 = .ok (.getfield 68, 3) := by decide +kernel
theorem dX12_comesTo_105 : decode cX12_comesTo 105 = .ok (.iload 4, 2) := by decide +kernel
theorem dX12_comesTo_107 : decode cX12_comesTo 107 = .ok (.iconst 1, 1) := by decide +kernel
theorem dX12_comesTo_108 : decode cX12_comesTo 108 = .ok (.isub, 1) := by decide +kernel
theorem dX12_comesTo_109 : decode cX12_comesTo 109 = .ok (.iaload, 1) := by decide +kernel
theorem dX12_comesTo_110 : decode cX12_comesTo 110 = .ok (.aload_n 0, 1) := by decide +kernel
theorem dX12_comesTo_111 : decode cX12_comesTo 111 = .ok (.getfield 68, 3) := by decide +kernel
theorem dX12_comesTo_114 : decode cX12_comesTo 114 = .ok (.iload 4, 2) := by decide +kernel
theorem dX12_comesTo_116 : decode cX12_comesTo 116 = .ok (.iaload, 1) := by decide +kernel
theorem dX12_comesTo_117 : decode cX12_comesTo 117 = .ok (.invokestatic 228, 3) := by decide +kernel
theorem dX12_comesTo_120 : decode cX12_comesTo 120 = .ok (.iastore, 1) := by decide +kernel
theorem dX12_comesTo_121 : decode cX12_comesTo 121 = .ok (.iinc 5 1, 3) := by decide +kernel
theorem dX12_comesTo_124 : decode cX12_comesTo 124 = .ok (.goto (-118), 3) := by decide +kernel
theorem dX12_comesTo_127 : decode cX12_comesTo 127 = .ok (.aload_n 0, 1) := by decide +kernel
theorem dX12_comesTo_128 : decode cX12_comesTo 128 = .ok (.getfield 68, 3) := by decide +kernel
theorem dX12_comesTo_131 : decode cX12_comesTo 131 = .ok (.iconst 0, 1) := by decide +kernel
theorem dX12_comesTo_132 : decode cX12_comesTo 132 = .ok (.iaload, 1) := by decide +kernel
theorem dX12_comesTo_133 : decode cX12_comesTo 133 = .ok (.ireturn, 1) := by decide +kernel
theorem dX12_ruleOf_0 : decode cX12_ruleOf 0 = .ok (.iconst 0, 1) := by decide +kernel
theorem dX12_ruleOf_1 : decode cX12_ruleOf 1 = .ok (.istore_n 2, 1) := by decide +kernel
theorem dX12_ruleOf_2 : decode cX12_ruleOf 2 = .ok (.iload_n 2, 1) := by decide +kernel
theorem dX12_ruleOf_3 : decode cX12_ruleOf 3 = .ok (.aload_n 0, 1) := by decide +kernel
theorem dX12_ruleOf_4 : decode cX12_ruleOf 4 = .ok (.getfield 221, 3) := by decide +kernel
theorem dX12_ruleOf_7 : decode cX12_ruleOf 7 = .ok (.if_icmp .ge 34, 3) := by decide +kernel
theorem dX12_ruleOf_10 : decode cX12_ruleOf 10 = .ok (.aload_n 0, 1) := by decide +kernel
theorem dX12_ruleOf_11 : decode cX12_ruleOf 11 = .ok (.iload_n 1, 1) := by decide +kernel
theorem dX12_ruleOf_12 : decode cX12_ruleOf 12 = .ok (.aload_n 0, 1) := by decide +kernel
theorem dX12_ruleOf_13 : decode cX12_ruleOf 13 = .ok (.getfield 53, 3) := by decide +kernel
theorem dX12_ruleOf_16 : decode cX12_ruleOf 16 = .ok (.iload_n 2, 1) := by decide +kernel
theorem dX12_ruleOf_17 : decode cX12_ruleOf 17 = .ok (.iaload, 1) := by decide +kernel
theorem dX12_ruleOf_18 : decode cX12_ruleOf 18 = .ok (.aload_n 0, 1) := by decide +kernel
theorem dX12_ruleOf_19 : decode cX12_ruleOf 19 = .ok (.getfield 50, 3) := by decide +kernel
theorem dX12_ruleOf_22 : decode cX12_ruleOf 22 = .ok (.iload_n 2, 1) := by decide +kernel
theorem dX12_ruleOf_23 : decode cX12_ruleOf 23 = .ok (.iconst 1, 1) := by decide +kernel
theorem dX12_ruleOf_24 : decode cX12_ruleOf 24 = .ok (.iadd, 1) := by decide +kernel
theorem dX12_ruleOf_25 : decode cX12_ruleOf 25 = .ok (.iaload, 1) := by decide +kernel
theorem dX12_ruleOf_26 : decode cX12_ruleOf 26 = .ok (.invokevirtual 231, 3) := by decide +kernel
theorem dX12_ruleOf_29 : decode cX12_ruleOf 29 = .ok (.iconst 1, 1) := by decide +kernel
theorem dX12_ruleOf_30 : decode cX12_ruleOf 30 = .ok (.if_icmp .ne 5, 3) := by decide +kernel
theorem dX12_ruleOf_33 : decode cX12_ruleOf 33 = .ok (.iload_n 2, 1) := by decide +kernel
theorem dX12_ruleOf_34 : decode cX12_ruleOf 34 = .ok (.ireturn, 1) := by decide +kernel
theorem dX12_ruleOf_35 : decode cX12_ruleOf 35 = .ok (.iinc 2 1, 3) := by decide +kernel
theorem dX12_ruleOf_38 : decode cX12_ruleOf 38 = .ok (.goto (-36), 3) := by decide +kernel
theorem dX12_ruleOf_41 : decode cX12_ruleOf 41 = .ok (.iconst (-1), 1) := by decide +kernel
theorem dX12_ruleOf_42 : decode cX12_ruleOf 42 = .ok (.ireturn, 1) := by decide +kernel
theorem dX12_dueOf_0 : decode cX12_dueOf 0 = .ok (.aload_n 0, 1) := by decide +kernel
theorem dX12_dueOf_1 : decode cX12_dueOf 1 = .ok (.iload_n 1, 1) := by decide +kernel
theorem dX12_dueOf_2 : decode cX12_dueOf 2 = .ok (.invokevirtual 234, 3) := by decide +kernel
theorem dX12_dueOf_5 : decode cX12_dueOf 5 = .ok (.istore_n 2, 1) := by decide +kernel
theorem dX12_dueOf_6 : decode cX12_dueOf 6 = .ok (.iload_n 2, 1) := by decide +kernel
theorem dX12_dueOf_7 : decode cX12_dueOf 7 = .ok (.iconst (-1), 1) := by decide +kernel
theorem dX12_dueOf_8 : decode cX12_dueOf 8 = .ok (.if_icmp .ne 7, 3) := by decide +kernel
theorem dX12_dueOf_11 : decode cX12_dueOf 11 = .ok (.iconst 0, 1) := by decide +kernel
theorem dX12_dueOf_12 : decode cX12_dueOf 12 = .ok (.goto 20, 3) := by decide +kernel
theorem dX12_dueOf_15 : decode cX12_dueOf 15 = .ok (.aload_n 0, 1) := by decide +kernel
theorem dX12_dueOf_16 : decode cX12_dueOf 16 = .ok (.iload_n 1, 1) := by decide +kernel
theorem dX12_dueOf_17 : decode cX12_dueOf 17 = .ok (.aload_n 0, 1) := by decide +kernel
theorem dX12_dueOf_18 : decode cX12_dueOf 18 = .ok (.getfield 50, 3) := by decide +kernel
theorem dX12_dueOf_21 : decode cX12_dueOf 21 = .ok (.iload_n 2, 1) := by decide +kernel
theorem dX12_dueOf_22 : decode cX12_dueOf 22 = .ok (.iaload, 1) := by decide +kernel
theorem dX12_dueOf_23 : decode cX12_dueOf 23 = .ok (.aload_n 0, 1) := by decide +kernel
theorem dX12_dueOf_24 : decode cX12_dueOf 24 = .ok (.getfield 53, 3) := by decide +kernel
theorem dX12_dueOf_27 : decode cX12_dueOf 27 = .ok (.iload_n 2, 1) := by decide +kernel
theorem dX12_dueOf_28 : decode cX12_dueOf 28 = .ok (.iaload, 1) := by decide +kernel
theorem dX12_dueOf_29 : decode cX12_dueOf 29 = .ok (.invokevirtual 231, 3) := by decide +kernel
theorem dX12_dueOf_32 : decode cX12_dueOf 32 = .ok (.istore_n 3, 1) := by decide +kernel
theorem dX12_dueOf_33 : decode cX12_dueOf 33 = .ok (.iload_n 3, 1) := by decide +kernel
theorem dX12_dueOf_34 : decode cX12_dueOf 34 = .ok (.ifCond .ge 7, 3) := by decide +kernel
theorem dX12_dueOf_37 : decode cX12_dueOf 37 = .ok (.iconst 0, 1) := by decide +kernel
theorem dX12_dueOf_38 : decode cX12_dueOf 38 = .ok (.goto 17, 3) := by decide +kernel
theorem dX12_dueOf_41 : decode cX12_dueOf 41 = .ok (.iload_n 3, 1) := by decide +kernel
theorem dX12_dueOf_42 : decode cX12_dueOf 42 = .ok (.sipush 9999, 3) := by decide +kernel
theorem dX12_dueOf_45 : decode cX12_dueOf 45 = .ok (.if_icmp .le 9, 3) := by decide +kernel
theorem dX12_dueOf_48 : decode cX12_dueOf 48 = .ok (.sipush 9999, 3) := by decide +kernel
theorem dX12_dueOf_51 : decode cX12_dueOf 51 = .ok (.goto 4, 3) := by decide +kernel
theorem dX12_dueOf_54 : decode cX12_dueOf 54 = .ok (.iload_n 3, 1) := by decide +kernel
theorem dX12_dueOf_55 : decode cX12_dueOf 55 = .ok (.ireturn, 1) := by decide +kernel
theorem dX12_nextOne_0 : decode cX12_nextOne 0 = .ok (.iconst (-1), 1) := by decide +kernel
theorem dX12_nextOne_1 : decode cX12_nextOne 1 = .ok (.istore_n 1, 1) := by decide +kernel
theorem dX12_nextOne_2 : decode cX12_nextOne 2 = .ok (.iconst 0, 1) := by decide +kernel
theorem dX12_nextOne_3 : decode cX12_nextOne 3 = .ok (.istore_n 2, 1) := by decide +kernel
theorem dX12_nextOne_4 : decode cX12_nextOne 4 = .ok (.iload_n 2, 1) := by decide +kernel
theorem dX12_nextOne_5 : decode cX12_nextOne 5 = .ok (.aload_n 0, 1) := by decide +kernel
theorem dX12_nextOne_6 : decode cX12_nextOne 6 = .ok (.getfield 109, 3) := by decide +kernel
theorem dX12_nextOne_9 : decode cX12_nextOne 9 = .ok (.if_icmp .ge 49, 3) := by decide +kernel
theorem dX12_nextOne_12 : decode cX12_nextOne 12 = .ok (.aload_n 0, 1) := by decide +kernel
theorem dX12_nextOne_13 : decode cX12_nextOne 13 = .ok (.getfield 78, 3) := by decide +kernel
theorem dX12_nextOne_16 : decode cX12_nextOne 16 = .ok (.iload_n 2, 1) := by decide +kernel
theorem dX12_nextOne_17 : decode cX12_nextOne 17 = .ok (.iaload, 1) := by decide +kernel
theorem dX12_nextOne_18 : decode cX12_nextOne 18 = .ok (.iconst (-1), 1) := by decide +kernel
theorem dX12_nextOne_19 : decode cX12_nextOne 19 = .ok (.if_icmp .ne 33, 3) := by decide +kernel
theorem dX12_nextOne_22 : decode cX12_nextOne 22 = .ok (.iload_n 1, 1) := by decide +kernel
theorem dX12_nextOne_23 : decode cX12_nextOne 23 = .ok (.iconst (-1), 1) := by decide +kernel
theorem dX12_nextOne_24 : decode cX12_nextOne 24 = .ok (.if_icmp .eq 26, 3) := by decide +kernel
theorem dX12_nextOne_27 : decode cX12_nextOne 27 = .ok (.aload_n 0, 1) := by decide +kernel
theorem dX12_nextOne_28 : decode cX12_nextOne 28 = .ok (.aload_n 0, 1) := by decide +kernel
theorem dX12_nextOne_29 : decode cX12_nextOne 29 = .ok (.getfield 19, 3) := by decide +kernel
theorem dX12_nextOne_32 : decode cX12_nextOne 32 = .ok (.iload_n 2, 1) := by decide +kernel
theorem dX12_nextOne_33 : decode cX12_nextOne 33 = .ok (.iaload, 1) := by decide +kernel
theorem dX12_nextOne_34 : decode cX12_nextOne 34 = .ok (.invokevirtual 119, 3) := by decide +kernel
theorem dX12_nextOne_37 : decode cX12_nextOne 37 = .ok (.aload_n 0, 1) := by decide +kernel
theorem dX12_nextOne_38 : decode cX12_nextOne 38 = .ok (.aload_n 0, 1) := by decide +kernel
theorem dX12_nextOne_39 : decode cX12_nextOne 39 = .ok (.getfield 19, 3) := by decide +kernel
theorem dX12_nextOne_42 : decode cX12_nextOne 42 = .ok (.iload_n 1, 1) := by decide +kernel
theorem dX12_nextOne_43 : decode cX12_nextOne 43 = .ok (.iaload, 1) := by decide +kernel
theorem dX12_nextOne_44 : decode cX12_nextOne 44 = .ok (.invokevirtual 119, 3) := by decide +kernel
theorem dX12_nextOne_47 : decode cX12_nextOne 47 = .ok (.if_icmp .ge 5, 3) := by decide +kernel
theorem dX12_nextOne_50 : decode cX12_nextOne 50 = .ok (.iload_n 2, 1) := by decide +kernel
theorem dX12_nextOne_51 : decode cX12_nextOne 51 = .ok (.istore_n 1, 1) := by decide +kernel
theorem dX12_nextOne_52 : decode cX12_nextOne 52 = .ok (.iinc 2 1, 3) := by decide +kernel
theorem dX12_nextOne_55 : decode cX12_nextOne 55 = .ok (.goto (-51), 3) := by decide +kernel
theorem dX12_nextOne_58 : decode cX12_nextOne 58 = .ok (.iload_n 1, 1) := by decide +kernel
theorem dX12_nextOne_59 : decode cX12_nextOne 59 = .ok (.ireturn, 1) := by decide +kernel
theorem dX12_builds_0 : decode cX12_builds 0 = .ok (.iconst 0, 1) := by decide +kernel
theorem dX12_builds_1 : decode cX12_builds 1 = .ok (.istore_n 1, 1) := by decide +kernel
theorem dX12_builds_2 : decode cX12_builds 2 = .ok (.iload_n 1, 1) := by decide +kernel
theorem dX12_builds_3 : decode cX12_builds 3 = .ok (.aload_n 0, 1) := by decide +kernel
theorem dX12_builds_4 : decode cX12_builds 4 = .ok (.getfield 109, 3) := by decide +kernel
theorem dX12_builds_7 : decode cX12_builds 7 = .ok (.if_icmp .ge 21, 3) := by decide +kernel
theorem dX12_builds_10 : decode cX12_builds 10 = .ok (.aload_n 0, 1) := by decide +kernel
theorem dX12_builds_11 : decode cX12_builds 11 = .ok (.getfield 78, 3) := by decide +kernel
theorem dX12_builds_14 : decode cX12_builds 14 = .ok (.iload_n 1, 1) := by decide +kernel
theorem dX12_builds_15 : decode cX12_builds 15 = .ok (.aload_n 0, 1) := by decide +kernel
theorem dX12_builds_16 : decode cX12_builds 16 = .ok (.getfield 31, 3) := by decide +kernel
theorem dX12_builds_19 : decode cX12_builds 19 = .ok (.iload_n 1, 1) := by decide +kernel
theorem dX12_builds_20 : decode cX12_builds 20 = .ok (.iaload, 1) := by decide +kernel
theorem dX12_builds_21 : decode cX12_builds 21 = .ok (.iastore, 1) := by decide +kernel
theorem dX12_builds_22 : decode cX12_builds 22 = .ok (.iinc 1 1, 3) := by decide +kernel
theorem dX12_builds_25 : decode cX12_builds 25 = .ok (.goto (-23), 3) := by decide +kernel
theorem dX12_builds_28 : decode cX12_builds 28 = .ok (.aload_n 0, 1) := by decide +kernel
theorem dX12_builds_29 : decode cX12_builds 29 = .ok (.getfield 112, 3) := by decide +kernel
theorem dX12_builds_32 : decode cX12_builds 32 = .ok (.istore_n 1, 1) := by decide +kernel
theorem dX12_builds_33 : decode cX12_builds 33 = .ok (.iload_n 1, 1) := by decide +kernel
theorem dX12_builds_34 : decode cX12_builds 34 = .ok (.bipush 36, 2) := by decide +kernel
theorem dX12_builds_36 : decode cX12_builds 36 = .ok (.if_icmp .ge 45, 3) := by decide +kernel
theorem dX12_builds_39 : decode cX12_builds 39 = .ok (.iconst 0, 1) := by decide +kernel
theorem dX12_builds_40 : decode cX12_builds 40 = .ok (.istore_n 2, 1) := by decide +kernel
theorem dX12_builds_41 : decode cX12_builds 41 = .ok (.iload_n 2, 1) := by decide +kernel
theorem dX12_builds_42 : decode cX12_builds 42 = .ok (.aload_n 0, 1) := by decide +kernel
theorem dX12_builds_43 : decode cX12_builds 43 = .ok (.getfield 13, 3) := by decide +kernel
theorem dX12_builds_46 : decode cX12_builds 46 = .ok (.iload_n 1, 1) := by decide +kernel
theorem dX12_builds_47 : decode cX12_builds 47 = .ok (.iaload, 1) := by decide +kernel
theorem dX12_builds_48 : decode cX12_builds 48 = .ok (.if_icmp .ge 27, 3) := by decide +kernel
theorem dX12_builds_51 : decode cX12_builds 51 = .ok (.aload_n 0, 1) := by decide +kernel
theorem dX12_builds_52 : decode cX12_builds 52 = .ok (.invokevirtual 237, 3) := by decide +kernel
theorem dX12_builds_55 : decode cX12_builds 55 = .ok (.istore_n 3, 1) := by decide +kernel
theorem dX12_builds_56 : decode cX12_builds 56 = .ok (.iload_n 3, 1) := by decide +kernel
theorem dX12_builds_57 : decode cX12_builds 57 = .ok (.iconst (-1), 1) := by decide +kernel
theorem dX12_builds_58 : decode cX12_builds 58 = .ok (.if_icmp .ne 4, 3) := by decide +kernel
theorem dX12_builds_61 : decode cX12_builds 61 = .ok (.return_, 1) := by decide +kernel
theorem dX12_builds_62 : decode cX12_builds 62 = .ok (.aload_n 0, 1) := by decide +kernel
theorem dX12_builds_63 : decode cX12_builds 63 = .ok (.getfield 78, 3) := by decide +kernel
theorem dX12_builds_66 : decode cX12_builds 66 = .ok (.iload_n 3, 1) := by decide +kernel
theorem dX12_builds_67 : decode cX12_builds 67 = .ok (.iload_n 1, 1) := by decide +kernel
theorem dX12_builds_68 : decode cX12_builds 68 = .ok (.iastore, 1) := by decide +kernel
theorem dX12_builds_69 : decode cX12_builds 69 = .ok (.iinc 2 1, 3) := by decide +kernel
theorem dX12_builds_72 : decode cX12_builds 72 = .ok (.goto (-31), 3) := by decide +kernel
theorem dX12_builds_75 : decode cX12_builds 75 = .ok (.iinc 1 1, 3) := by decide +kernel
theorem dX12_builds_78 : decode cX12_builds 78 = .ok (.goto (-45), 3) := by decide +kernel
theorem dX12_builds_81 : decode cX12_builds 81 = .ok (.return_, 1) := by decide +kernel
theorem dX12_isLate_0 : decode cX12_isLate 0 = .ok (.aload_n 0, 1) := by decide +kernel
theorem dX12_isLate_1 : decode cX12_isLate 1 = .ok (.aload_n 0, 1) := by decide +kernel
theorem dX12_isLate_2 : decode cX12_isLate 2 = .ok (.getfield 19, 3) := by decide +kernel
theorem dX12_isLate_5 : decode cX12_isLate 5 = .ok (.iload_n 1, 1) := by decide +kernel
theorem dX12_isLate_6 : decode cX12_isLate 6 = .ok (.iaload, 1) := by decide +kernel
theorem dX12_isLate_7 : decode cX12_isLate 7 = .ok (.invokevirtual 119, 3) := by decide +kernel
theorem dX12_isLate_10 : decode cX12_isLate 10 = .ok (.istore_n 2, 1) := by decide +kernel
theorem dX12_isLate_11 : decode cX12_isLate 11 = .ok (.iload_n 2, 1) := by decide +kernel
theorem dX12_isLate_12 : decode cX12_isLate 12 = .ok (.bipush 36, 2) := by decide +kernel
theorem dX12_isLate_14 : decode cX12_isLate 14 = .ok (.if_icmp .ge 27, 3) := by decide +kernel
theorem dX12_isLate_17 : decode cX12_isLate 17 = .ok (.aload_n 0, 1) := by decide +kernel
theorem dX12_isLate_18 : decode cX12_isLate 18 = .ok (.getfield 78, 3) := by decide +kernel
theorem dX12_isLate_21 : decode cX12_isLate 21 = .ok (.iload_n 1, 1) := by decide +kernel
theorem dX12_isLate_22 : decode cX12_isLate 22 = .ok (.iaload, 1) := by decide +kernel
theorem dX12_isLate_23 : decode cX12_isLate 23 = .ok (.iconst (-1), 1) := by decide +kernel
theorem dX12_isLate_24 : decode cX12_isLate 24 = .ok (.if_icmp .eq 13, 3) := by decide +kernel
theorem dX12_isLate_27 : decode cX12_isLate 27 = .ok (.aload_n 0, 1) := by decide +kernel
theorem dX12_isLate_28 : decode cX12_isLate 28 = .ok (.getfield 78, 3) := by decide +kernel
theorem dX12_isLate_31 : decode cX12_isLate 31 = .ok (.iload_n 1, 1) := by decide +kernel
theorem dX12_isLate_32 : decode cX12_isLate 32 = .ok (.iaload, 1) := by decide +kernel
theorem dX12_isLate_33 : decode cX12_isLate 33 = .ok (.iload_n 2, 1) := by decide +kernel
theorem dX12_isLate_34 : decode cX12_isLate 34 = .ok (.if_icmp .lt 7, 3) := by decide +kernel
theorem dX12_isLate_37 : decode cX12_isLate 37 = .ok (.iconst 1, 1) := by decide +kernel
theorem dX12_isLate_38 : decode cX12_isLate 38 = .ok (.goto 4, 3) := by decide +kernel
theorem dX12_isLate_41 : decode cX12_isLate 41 = .ok (.iconst 0, 1) := by decide +kernel
theorem dX12_isLate_42 : decode cX12_isLate 42 = .ok (.ireturn, 1) := by decide +kernel
theorem dX12_look_0 : decode cX12_look 0 = .ok (.iconst 0, 1) := by decide +kernel
theorem dX12_look_1 : decode cX12_look 1 = .ok (.istore_n 2, 1) := by decide +kernel
theorem dX12_look_2 : decode cX12_look 2 = .ok (.iload_n 1, 1) := by decide +kernel
theorem dX12_look_3 : decode cX12_look 3 = .ok (.tableswitch 140 0 6 #[41, 46, 51, 56, 61, 66, 102], 41) := by decide +kernel
theorem dX12_look_44 : decode cX12_look 44 = .ok (.aload_n 0, 1) := by decide +kernel
theorem dX12_look_45 : decode cX12_look 45 = .ok (.getfield 112, 3) := by decide +kernel
theorem dX12_look_48 : decode cX12_look 48 = .ok (.ireturn, 1) := by decide +kernel
theorem dX12_look_49 : decode cX12_look 49 = .ok (.aload_n 0, 1) := by decide +kernel
theorem dX12_look_50 : decode cX12_look 50 = .ok (.getfield 109, 3) := by decide +kernel
theorem dX12_look_53 : decode cX12_look 53 = .ok (.ireturn, 1) := by decide +kernel
theorem dX12_look_54 : decode cX12_look 54 = .ok (.aload_n 0, 1) := by decide +kernel
theorem dX12_look_55 : decode cX12_look 55 = .ok (.getfield 126, 3) := by decide +kernel
theorem dX12_look_58 : decode cX12_look 58 = .ok (.ireturn, 1) := by decide +kernel
theorem dX12_look_59 : decode cX12_look 59 = .ok (.aload_n 0, 1) := by decide +kernel
theorem dX12_look_60 : decode cX12_look 60 = .ok (.getfield 129, 3) := by decide +kernel
theorem dX12_look_63 : decode cX12_look 63 = .ok (.ireturn, 1) := by decide +kernel
theorem dX12_look_64 : decode cX12_look 64 = .ok (.aload_n 0, 1) := by decide +kernel
theorem dX12_look_65 : decode cX12_look 65 = .ok (.getfield 221, 3) := by decide +kernel
theorem dX12_look_68 : decode cX12_look 68 = .ok (.ireturn, 1) := by decide +kernel
theorem dX12_look_69 : decode cX12_look 69 = .ok (.iconst 0, 1) := by decide +kernel
theorem dX12_look_70 : decode cX12_look 70 = .ok (.istore_n 3, 1) := by decide +kernel
theorem dX12_look_71 : decode cX12_look 71 = .ok (.iload_n 3, 1) := by decide +kernel
theorem dX12_look_72 : decode cX12_look 72 = .ok (.aload_n 0, 1) := by decide +kernel
theorem dX12_look_73 : decode cX12_look 73 = .ok (.getfield 109, 3) := by decide +kernel
theorem dX12_look_76 : decode cX12_look 76 = .ok (.if_icmp .ge 27, 3) := by decide +kernel
theorem dX12_look_79 : decode cX12_look 79 = .ok (.iload_n 2, 1) := by decide +kernel
theorem dX12_look_80 : decode cX12_look 80 = .ok (.aload_n 0, 1) := by decide +kernel
theorem dX12_look_81 : decode cX12_look 81 = .ok (.getfield 31, 3) := by decide +kernel
theorem dX12_look_84 : decode cX12_look 84 = .ok (.iload_n 3, 1) := by decide +kernel
theorem dX12_look_85 : decode cX12_look 85 = .ok (.iaload, 1) := by decide +kernel
theorem dX12_look_86 : decode cX12_look 86 = .ok (.iconst (-1), 1) := by decide +kernel
theorem dX12_look_87 : decode cX12_look 87 = .ok (.if_icmp .ne 7, 3) := by decide +kernel
theorem dX12_look_90 : decode cX12_look 90 = .ok (.iconst 0, 1) := by decide +kernel
theorem dX12_look_91 : decode cX12_look 91 = .ok (.goto 4, 3) := by decide +kernel
theorem dX12_look_94 : decode cX12_look 94 = .ok (.iconst 1, 1) := by decide +kernel
theorem dX12_look_95 : decode cX12_look 95 = .ok (.iadd, 1) := by decide +kernel
theorem dX12_look_96 : decode cX12_look 96 = .ok (.istore_n 2, 1) := by decide +kernel
theorem dX12_look_97 : decode cX12_look 97 = .ok (.iinc 3 1, 3) := by decide +kernel
theorem dX12_look_100 : decode cX12_look 100 = .ok (.goto (-29), 3) := by decide +kernel
theorem dX12_look_103 : decode cX12_look 103 = .ok (.iload_n 2, 1) := by decide +kernel
theorem dX12_look_104 : decode cX12_look 104 = .ok (.ireturn, 1) := by decide +kernel
theorem dX12_look_105 : decode cX12_look 105 = .ok (.aload_n 0, 1) := by decide +kernel
theorem dX12_look_106 : decode cX12_look 106 = .ok (.invokevirtual 241, 3) := by decide +kernel
theorem dX12_look_109 : decode cX12_look 109 = .ok (.iconst 0, 1) := by decide +kernel
theorem dX12_look_110 : decode cX12_look 110 = .ok (.istore_n 3, 1) := by decide +kernel
theorem dX12_look_111 : decode cX12_look 111 = .ok (.iload_n 3, 1) := by decide +kernel
theorem dX12_look_112 : decode cX12_look 112 = .ok (.aload_n 0, 1) := by decide +kernel
theorem dX12_look_113 : decode cX12_look 113 = .ok (.getfield 109, 3) := by decide +kernel
theorem dX12_look_116 : decode cX12_look 116 = .ok (.if_icmp .ge 25, 3) := by decide +kernel
theorem dX12_look_119 : decode cX12_look 119 = .ok (.iload_n 2, 1) := by decide +kernel
theorem dX12_look_120 : decode cX12_look 120 = .ok (.aload_n 0, 1) := by decide +kernel
theorem dX12_look_121 : decode cX12_look 121 = .ok (.iload_n 3, 1) := by decide +kernel
theorem dX12_look_122 : decode cX12_look 122 = .ok (.invokevirtual 244, 3) := by decide +kernel
theorem dX12_look_125 : decode cX12_look 125 = .ok (.ifCond .eq 7, 3) := by decide +kernel
theorem dX12_look_128 : decode cX12_look 128 = .ok (.iconst 1, 1) := by decide +kernel
theorem dX12_look_129 : decode cX12_look 129 = .ok (.goto 4, 3) := by decide +kernel
theorem dX12_look_132 : decode cX12_look 132 = .ok (.iconst 0, 1) := by decide +kernel
theorem dX12_look_133 : decode cX12_look 133 = .ok (.iadd, 1) := by decide +kernel
theorem dX12_look_134 : decode cX12_look 134 = .ok (.istore_n 2, 1) := by decide +kernel
theorem dX12_look_135 : decode cX12_look 135 = .ok (.iinc 3 1, 3) := by decide +kernel
theorem dX12_look_138 : decode cX12_look 138 = .ok (.goto (-27), 3) := by decide +kernel
theorem dX12_look_141 : decode cX12_look 141 = .ok (.iload_n 2, 1) := by decide +kernel
theorem dX12_look_142 : decode cX12_look 142 = .ok (.ireturn, 1) := by decide +kernel
theorem dX12_look_143 : decode cX12_look 143 = .ok (.iconst (-1), 1) := by decide +kernel
theorem dX12_look_144 : decode cX12_look 144 = .ok (.ireturn, 1) := by decide +kernel
theorem dX12_of_0 : decode cX12_of 0 = .ok (.aload_n 0, 1) := by decide +kernel
theorem dX12_of_1 : decode cX12_of 1 = .ok (.iload_n 1, 1) := by decide +kernel
theorem dX12_of_2 : decode cX12_of 2 = .ok (.invokevirtual 123, 3) := by decide +kernel
theorem dX12_of_5 : decode cX12_of 5 = .ok (.ifCond .ne 5, 3) := by decide +kernel
theorem dX12_of_8 : decode cX12_of 8 = .ok (.iconst (-1), 1) := by decide +kernel
theorem dX12_of_9 : decode cX12_of 9 = .ok (.ireturn, 1) := by decide +kernel
theorem dX12_of_10 : decode cX12_of 10 = .ok (.aload_n 0, 1) := by decide +kernel
theorem dX12_of_11 : decode cX12_of 11 = .ok (.invokevirtual 241, 3) := by decide +kernel
theorem dX12_of_14 : decode cX12_of 14 = .ok (.iload_n 2, 1) := by decide +kernel
theorem dX12_of_15 : decode cX12_of 15 = .ok (.tableswitch 125 0 8 #[49, 56, 63, 70, 77, 92, 98, 104, 111], 49) := by decide +kernel
theorem dX12_of_64 : decode cX12_of 64 = .ok (.aload_n 0, 1) := by decide +kernel
theorem dX12_of_65 : decode cX12_of 65 = .ok (.getfield 19, 3) := by decide +kernel
theorem dX12_of_68 : decode cX12_of 68 = .ok (.iload_n 1, 1) := by decide +kernel
theorem dX12_of_69 : decode cX12_of 69 = .ok (.iaload, 1) := by decide +kernel
theorem dX12_of_70 : decode cX12_of 70 = .ok (.ireturn, 1) := by decide +kernel
theorem dX12_of_71 : decode cX12_of 71 = .ok (.aload_n 0, 1) := by decide +kernel
theorem dX12_of_72 : decode cX12_of 72 = .ok (.getfield 22, 3) := by decide +kernel
theorem dX12_of_75 : decode cX12_of 75 = .ok (.iload_n 1, 1) := by decide +kernel
theorem dX12_of_76 : decode cX12_of 76 = .ok (.iaload, 1) := by decide +kernel
theorem dX12_of_77 : decode cX12_of 77 = .ok (.ireturn, 1) := by decide +kernel
theorem dX12_of_78 : decode cX12_of 78 = .ok (.aload_n 0, 1) := by decide +kernel
theorem dX12_of_79 : decode cX12_of 79 = .ok (.getfield 25, 3) := by decide +kernel
theorem dX12_of_82 : decode cX12_of 82 = .ok (.iload_n 1, 1) := by decide +kernel
theorem dX12_of_83 : decode cX12_of 83 = .ok (.iaload, 1) := by decide +kernel
theorem dX12_of_84 : decode cX12_of 84 = .ok (.ireturn, 1) := by decide +kernel
theorem dX12_of_85 : decode cX12_of 85 = .ok (.aload_n 0, 1) := by decide +kernel
theorem dX12_of_86 : decode cX12_of 86 = .ok (.getfield 28, 3) := by decide +kernel
theorem dX12_of_89 : decode cX12_of 89 = .ok (.iload_n 1, 1) := by decide +kernel
theorem dX12_of_90 : decode cX12_of 90 = .ok (.iaload, 1) := by decide +kernel
theorem dX12_of_91 : decode cX12_of 91 = .ok (.ireturn, 1) := by decide +kernel
theorem dX12_of_92 : decode cX12_of 92 = .ok (.aload_n 0, 1) := by decide +kernel
theorem dX12_of_93 : decode cX12_of 93 = .ok (.getfield 46, 3) := by decide +kernel
theorem dX12_of_96 : decode cX12_of 96 = .ok (.iload_n 1, 1) := by decide +kernel
theorem dX12_of_97 : decode cX12_of 97 = .ok (.baload, 1) := by decide +kernel
theorem dX12_of_98 : decode cX12_of 98 = .ok (.ifCond .eq 7, 3) := by decide +kernel
theorem dX12_of_101 : decode cX12_of 101 = .ok (.iconst 1, 1) := by decide +kernel
theorem dX12_of_102 : decode cX12_of 102 = .ok (.goto 4, 3) := by decide +kernel
theorem dX12_of_105 : decode cX12_of 105 = .ok (.iconst 0, 1) := by decide +kernel
theorem dX12_of_106 : decode cX12_of 106 = .ok (.ireturn, 1) := by decide +kernel
theorem dX12_of_107 : decode cX12_of 107 = .ok (.aload_n 0, 1) := by decide +kernel
theorem dX12_of_108 : decode cX12_of 108 = .ok (.iload_n 1, 1) := by decide +kernel
theorem dX12_of_109 : decode cX12_of 109 = .ok (.invokevirtual 247, 3) := by decide +kernel
theorem dX12_of_112 : decode cX12_of 112 = .ok (.ireturn, 1) := by decide +kernel
theorem dX12_of_113 : decode cX12_of 113 = .ok (.aload_n 0, 1) := by decide +kernel
theorem dX12_of_114 : decode cX12_of 114 = .ok (.iload_n 1, 1) := by decide +kernel
theorem dX12_of_115 : decode cX12_of 115 = .ok (.invokevirtual 234, 3) := by decide +kernel
theorem dX12_of_118 : decode cX12_of 118 = .ok (.ireturn, 1) := by decide +kernel
theorem dX12_of_119 : decode cX12_of 119 = .ok (.aload_n 0, 1) := by decide +kernel
theorem dX12_of_120 : decode cX12_of 120 = .ok (.getfield 78, 3) := by decide +kernel
theorem dX12_of_123 : decode cX12_of 123 = .ok (.iload_n 1, 1) := by decide +kernel
theorem dX12_of_124 : decode cX12_of 124 = .ok (.iaload, 1) := by decide +kernel
theorem dX12_of_125 : decode cX12_of 125 = .ok (.ireturn, 1) := by decide +kernel
theorem dX12_of_126 : decode cX12_of 126 = .ok (.aload_n 0, 1) := by decide +kernel
theorem dX12_of_127 : decode cX12_of 127 = .ok (.iload_n 1, 1) := by decide +kernel
theorem dX12_of_128 : decode cX12_of 128 = .ok (.invokevirtual 244, 3) := by decide +kernel
theorem dX12_of_131 : decode cX12_of 131 = .ok (.ifCond .eq 7, 3) := by decide +kernel
theorem dX12_of_134 : decode cX12_of 134 = .ok (.iconst 1, 1) := by decide +kernel
theorem dX12_of_135 : decode cX12_of 135 = .ok (.goto 4, 3) := by decide +kernel
theorem dX12_of_138 : decode cX12_of 138 = .ok (.iconst 0, 1) := by decide +kernel
theorem dX12_of_139 : decode cX12_of 139 = .ok (.ireturn, 1) := by decide +kernel
theorem dX12_of_140 : decode cX12_of 140 = .ok (.iconst (-1), 1) := by decide +kernel
theorem dX12_of_141 : decode cX12_of 141 = .ok (.ireturn, 1) := by decide +kernel
theorem dX12_months_0 : decode cX12_months 0 = .ok (.iload_n 1, 1) := by decide +kernel
theorem dX12_months_1 : decode cX12_months 1 = .ok (.iconst 1, 1) := by decide +kernel
theorem dX12_months_2 : decode cX12_months 2 = .ok (.bipush 12, 2) := by decide +kernel
theorem dX12_months_4 : decode cX12_months 4 = .ok (.invokestatic 105, 3) := by decide +kernel
theorem dX12_months_7 : decode cX12_months 7 = .ok (.ifCond .eq 14, 3) := by decide +kernel
theorem dX12_months_10 : decode cX12_months 10 = .ok (.aload_n 0, 1) := by decide +kernel
theorem dX12_months_11 : decode cX12_months 11 = .ok (.getfield 112, 3) := by decide +kernel
theorem dX12_months_14 : decode cX12_months 14 = .ok (.bipush 35, 2) := by decide +kernel
theorem dX12_months_16 : decode cX12_months 16 = .ok (.iload_n 1, 1) := by decide +kernel
theorem dX12_months_17 : decode cX12_months 17 = .ok (.isub, 1) := by decide +kernel
theorem dX12_months_18 : decode cX12_months 18 = .ok (.if_icmp .le 5, 3) := by decide +kernel
theorem dX12_months_21 : decode cX12_months 21 = .ok (.iconst (-1), 1) := by decide +kernel
theorem dX12_months_22 : decode cX12_months 22 = .ok (.ireturn, 1) := by decide +kernel
theorem dX12_months_23 : decode cX12_months 23 = .ok (.aload_n 0, 1) := by decide +kernel
theorem dX12_months_24 : decode cX12_months 24 = .ok (.invokevirtual 241, 3) := by decide +kernel
theorem dX12_months_27 : decode cX12_months 27 = .ok (.iconst 0, 1) := by decide +kernel
theorem dX12_months_28 : decode cX12_months 28 = .ok (.istore_n 2, 1) := by decide +kernel
theorem dX12_months_29 : decode cX12_months 29 = .ok (.iload_n 2, 1) := by decide +kernel
theorem dX12_months_30 : decode cX12_months 30 = .ok (.aload_n 0, 1) := by decide +kernel
theorem dX12_months_31 : decode cX12_months 31 = .ok (.getfield 109, 3) := by decide +kernel
theorem dX12_months_34 : decode cX12_months 34 = .ok (.if_icmp .ge 46, 3) := by decide +kernel
theorem dX12_months_37 : decode cX12_months 37 = .ok (.aload_n 0, 1) := by decide +kernel
theorem dX12_months_38 : decode cX12_months 38 = .ok (.getfield 78, 3) := by decide +kernel
theorem dX12_months_41 : decode cX12_months 41 = .ok (.iload_n 2, 1) := by decide +kernel
theorem dX12_months_42 : decode cX12_months 42 = .ok (.iaload, 1) := by decide +kernel
theorem dX12_months_43 : decode cX12_months 43 = .ok (.iconst (-1), 1) := by decide +kernel
theorem dX12_months_44 : decode cX12_months 44 = .ok (.if_icmp .eq 30, 3) := by decide +kernel
theorem dX12_months_47 : decode cX12_months 47 = .ok (.aload_n 0, 1) := by decide +kernel
theorem dX12_months_48 : decode cX12_months 48 = .ok (.getfield 78, 3) := by decide +kernel
theorem dX12_months_51 : decode cX12_months 51 = .ok (.iload_n 2, 1) := by decide +kernel
theorem dX12_months_52 : decode cX12_months 52 = .ok (.iaload, 1) := by decide +kernel
theorem dX12_months_53 : decode cX12_months 53 = .ok (.aload_n 0, 1) := by decide +kernel
theorem dX12_months_54 : decode cX12_months 54 = .ok (.getfield 112, 3) := by decide +kernel
theorem dX12_months_57 : decode cX12_months 57 = .ok (.iload_n 1, 1) := by decide +kernel
theorem dX12_months_58 : decode cX12_months 58 = .ok (.iadd, 1) := by decide +kernel
theorem dX12_months_59 : decode cX12_months 59 = .ok (.if_icmp .ge 15, 3) := by decide +kernel
theorem dX12_months_62 : decode cX12_months 62 = .ok (.aload_n 0, 1) := by decide +kernel
theorem dX12_months_63 : decode cX12_months 63 = .ok (.getfield 31, 3) := by decide +kernel
theorem dX12_months_66 : decode cX12_months 66 = .ok (.iload_n 2, 1) := by decide +kernel
theorem dX12_months_67 : decode cX12_months 67 = .ok (.aload_n 0, 1) := by decide +kernel
theorem dX12_months_68 : decode cX12_months 68 = .ok (.getfield 78, 3) := by decide +kernel
theorem dX12_months_71 : decode cX12_months 71 = .ok (.iload_n 2, 1) := by decide +kernel
theorem dX12_months_72 : decode cX12_months 72 = .ok (.iaload, 1) := by decide +kernel
theorem dX12_months_73 : decode cX12_months 73 = .ok (.iastore, 1) := by decide +kernel
theorem dX12_months_74 : decode cX12_months 74 = .ok (.iinc 2 1, 3) := by decide +kernel
theorem dX12_months_77 : decode cX12_months 77 = .ok (.goto (-48), 3) := by decide +kernel
theorem dX12_months_80 : decode cX12_months 80 = .ok (.aload_n 0, 1) := by decide +kernel
theorem dX12_months_81 : decode cX12_months 81 = .ok (.dup, 1) := by decide +kernel
theorem dX12_months_82 : decode cX12_months 82 = .ok (.getfield 112, 3) := by decide +kernel
theorem dX12_months_85 : decode cX12_months 85 = .ok (.iload_n 1, 1) := by decide +kernel
theorem dX12_months_86 : decode cX12_months 86 = .ok (.iadd, 1) := by decide +kernel
theorem dX12_months_87 : decode cX12_months 87 = .ok (.putfield 112, 3) := by decide +kernel
theorem dX12_months_90 : decode cX12_months 90 = .ok (.aload_n 0, 1) := by decide +kernel
theorem dX12_months_91 : decode cX12_months 91 = .ok (.getfield 112, 3) := by decide +kernel
theorem dX12_months_94 : decode cX12_months 94 = .ok (.ireturn, 1) := by decide +kernel
theorem dX12_abs_0 : decode cX12_abs 0 = .ok (.iload_n 0, 1) := by decide +kernel
theorem dX12_abs_1 : decode cX12_abs 1 = .ok (.ifCond .ge 8, 3) := by decide +kernel
theorem dX12_abs_4 : decode cX12_abs 4 = .ok (.iload_n 0, 1) := by decide +kernel
theorem dX12_abs_5 : decode cX12_abs 5 = .ok (.ineg, 1) := by decide +kernel
theorem dX12_abs_6 : decode cX12_abs 6 = .ok (.goto 4, 3) := by decide +kernel
theorem dX12_abs_9 : decode cX12_abs 9 = .ok (.iload_n 0, 1) := by decide +kernel
theorem dX12_abs_10 : decode cX12_abs 10 = .ok (.ireturn, 1) := by decide +kernel
theorem dX12_near_0 : decode cX12_near 0 = .ok (.aload_n 0, 1) := by decide +kernel
theorem dX12_near_1 : decode cX12_near 1 = .ok (.getfield 37, 3) := by decide +kernel
theorem dX12_near_4 : decode cX12_near 4 = .ok (.iload_n 1, 1) := by decide +kernel
theorem dX12_near_5 : decode cX12_near 5 = .ok (.iaload, 1) := by decide +kernel
theorem dX12_near_6 : decode cX12_near 6 = .ok (.aload_n 0, 1) := by decide +kernel
theorem dX12_near_7 : decode cX12_near 7 = .ok (.getfield 37, 3) := by decide +kernel
theorem dX12_near_10 : decode cX12_near 10 = .ok (.iload_n 2, 1) := by decide +kernel
theorem dX12_near_11 : decode cX12_near 11 = .ok (.iaload, 1) := by decide +kernel
theorem dX12_near_12 : decode cX12_near 12 = .ok (.isub, 1) := by decide +kernel
theorem dX12_near_13 : decode cX12_near 13 = .ok (.invokestatic 250, 3) := by decide +kernel
theorem dX12_near_16 : decode cX12_near 16 = .ok (.aload_n 0, 1) := by decide +kernel
theorem dX12_near_17 : decode cX12_near 17 = .ok (.getfield 40, 3) := by decide +kernel
theorem dX12_near_20 : decode cX12_near 20 = .ok (.iload_n 1, 1) := by decide +kernel
theorem dX12_near_21 : decode cX12_near 21 = .ok (.iaload, 1) := by decide +kernel
theorem dX12_near_22 : decode cX12_near 22 = .ok (.aload_n 0, 1) := by decide +kernel
theorem dX12_near_23 : decode cX12_near 23 = .ok (.getfield 40, 3) := by decide +kernel
theorem dX12_near_26 : decode cX12_near 26 = .ok (.iload_n 2, 1) := by decide +kernel
theorem dX12_near_27 : decode cX12_near 27 = .ok (.iaload, 1) := by decide +kernel
theorem dX12_near_28 : decode cX12_near 28 = .ok (.isub, 1) := by decide +kernel
theorem dX12_near_29 : decode cX12_near 29 = .ok (.invokestatic 250, 3) := by decide +kernel
theorem dX12_near_32 : decode cX12_near 32 = .ok (.iadd, 1) := by decide +kernel
theorem dX12_near_33 : decode cX12_near 33 = .ok (.istore_n 3, 1) := by decide +kernel
theorem dX12_near_34 : decode cX12_near 34 = .ok (.iload_n 3, 1) := by decide +kernel
theorem dX12_near_35 : decode cX12_near 35 = .ok (.bipush 10, 2) := by decide +kernel
theorem dX12_near_37 : decode cX12_near 37 = .ok (.if_icmp .ge 10, 3) := by decide +kernel
theorem dX12_near_40 : decode cX12_near 40 = .ok (.bipush 10, 2) := by decide +kernel
theorem dX12_near_42 : decode cX12_near 42 = .ok (.iload_n 3, 1) := by decide +kernel
theorem dX12_near_43 : decode cX12_near 43 = .ok (.isub, 1) := by decide +kernel
theorem dX12_near_44 : decode cX12_near 44 = .ok (.goto 4, 3) := by decide +kernel
theorem dX12_near_47 : decode cX12_near 47 = .ok (.iconst 0, 1) := by decide +kernel
theorem dX12_near_48 : decode cX12_near 48 = .ok (.ireturn, 1) := by decide +kernel
theorem dX12_ways_0 : decode cX12_ways 0 = .ok (.aload_n 0, 1) := by decide +kernel
theorem dX12_ways_1 : decode cX12_ways 1 = .ok (.iconst (-1), 1) := by decide +kernel
theorem dX12_ways_2 : decode cX12_ways 2 = .ok (.putfield 253, 3) := by decide +kernel
theorem dX12_ways_5 : decode cX12_ways 5 = .ok (.iconst 0, 1) := by decide +kernel
theorem dX12_ways_6 : decode cX12_ways 6 = .ok (.istore_n 1, 1) := by decide +kernel
theorem dX12_ways_7 : decode cX12_ways 7 = .ok (.iconst 0, 1) := by decide +kernel
theorem dX12_ways_8 : decode cX12_ways 8 = .ok (.istore_n 2, 1) := by decide +kernel
theorem dX12_ways_9 : decode cX12_ways 9 = .ok (.aload_n 0, 1) := by decide +kernel
theorem dX12_ways_10 : decode cX12_ways 10 = .ok (.getfield 81, 3) := by decide +kernel
theorem dX12_ways_13 : decode cX12_ways 13 = .ok (.iconst 0, 1) := by decide +kernel
theorem dX12_ways_14 : decode cX12_ways 14 = .ok (.iconst (-1), 1) := by decide +kernel
theorem dX12_ways_15 : decode cX12_ways 15 = .ok (.iastore, 1) := by decide +kernel
theorem dX12_ways_16 : decode cX12_ways 16 = .ok (.iload_n 1, 1) := by decide +kernel
theorem dX12_ways_17 : decode cX12_ways 17 = .ok (.ifCond .lt 260, 3) := by decide +kernel
theorem dX12_ways_20 : decode cX12_ways 20 = .ok (.aload_n 0, 1) := by decide +kernel
theorem dX12_ways_21 : decode cX12_ways 21 = .ok (.getfield 81, 3) := by decide +kernel
theorem dX12_ways_24 : decode cX12_ways 24 = .ok (.iload_n 1, 1) := by decide +kernel
theorem dX12_ways_25 : decode cX12_ways 25 = .ok (.iaload, 1) := by decide +kernel
theorem dX12_ways_26 : decode cX12_ways 26 = .ok (.iconst (-1), 1) := by decide +kernel
theorem dX12_ways_27 : decode cX12_ways 27 = .ok (.if_icmp .eq 16, 3) := by decide +kernel
theorem dX12_ways_30 : decode cX12_ways 30 = .ok (.iload_n 2, 1) := by decide +kernel
theorem dX12_ways_31 : decode cX12_ways 31 = .ok (.iconst 1, 1) := by decide +kernel
theorem dX12_ways_32 : decode cX12_ways 32 = .ok (.aload_n 0, 1) := by decide +kernel
theorem dX12_ways_33 : decode cX12_ways 33 = .ok (.getfield 81, 3) := by decide +kernel
theorem dX12_ways_36 : decode cX12_ways 36 = .ok (.iload_n 1, 1) := by decide +kernel
theorem dX12_ways_37 : decode cX12_ways 37 = .ok (.iaload, 1) := by decide +kernel
theorem dX12_ways_38 : decode cX12_ways 38 = .ok (.ishl, 1) := by decide +kernel
theorem dX12_ways_39 : decode cX12_ways 39 = .ok (.iconst (-1), 1) := by decide +kernel
theorem dX12_ways_40 : decode cX12_ways 40 = .ok (.ixor, 1) := by decide +kernel
theorem dX12_ways_41 : decode cX12_ways 41 = .ok (.iand, 1) := by decide +kernel
theorem dX12_ways_42 : decode cX12_ways 42 = .ok (.istore_n 2, 1) := by decide +kernel
theorem dX12_ways_43 : decode cX12_ways 43 = .ok (.aload_n 0, 1) := by decide +kernel
theorem dX12_ways_44 : decode cX12_ways 44 = .ok (.getfield 81, 3) := by decide +kernel
theorem dX12_ways_47 : decode cX12_ways 47 = .ok (.iload_n 1, 1) := by decide +kernel
theorem dX12_ways_48 : decode cX12_ways 48 = .ok (.dup2, 1) := by decide +kernel
theorem dX12_ways_49 : decode cX12_ways 49 = .ok (.iaload, 1) := by decide +kernel
theorem dX12_ways_50 : decode cX12_ways 50 = .ok (.iconst 1, 1) := by decide +kernel
theorem dX12_ways_51 : decode cX12_ways 51 = .ok (.iadd, 1) := by decide +kernel
theorem dX12_ways_52 : decode cX12_ways 52 = .ok (.iastore, 1) := by decide +kernel
theorem dX12_ways_53 : decode cX12_ways 53 = .ok (.aload_n 0, 1) := by decide +kernel
theorem dX12_ways_54 : decode cX12_ways 54 = .ok (.getfield 81, 3) := by decide +kernel
theorem dX12_ways_57 : decode cX12_ways 57 = .ok (.iload_n 1, 1) := by decide +kernel
theorem dX12_ways_58 : decode cX12_ways 58 = .ok (.iaload, 1) := by decide +kernel
theorem dX12_ways_59 : decode cX12_ways 59 = .ok (.aload_n 0, 1) := by decide +kernel
theorem dX12_ways_60 : decode cX12_ways 60 = .ok (.getfield 126, 3) := by decide +kernel
theorem dX12_ways_63 : decode cX12_ways 63 = .ok (.if_icmp .ge 30, 3) := by decide +kernel
theorem dX12_ways_66 : decode cX12_ways 66 = .ok (.iload_n 2, 1) := by decide +kernel
theorem dX12_ways_67 : decode cX12_ways 67 = .ok (.aload_n 0, 1) := by decide +kernel
theorem dX12_ways_68 : decode cX12_ways 68 = .ok (.getfield 81, 3) := by decide +kernel
theorem dX12_ways_71 : decode cX12_ways 71 = .ok (.iload_n 1, 1) := by decide +kernel
theorem dX12_ways_72 : decode cX12_ways 72 = .ok (.iaload, 1) := by decide +kernel
theorem dX12_ways_73 : decode cX12_ways 73 = .ok (.ishr, 1) := by decide +kernel
theorem dX12_ways_74 : decode cX12_ways 74 = .ok (.iconst 1, 1) := by decide +kernel
theorem dX12_ways_75 : decode cX12_ways 75 = .ok (.iand, 1) := by decide +kernel
theorem dX12_ways_76 : decode cX12_ways 76 = .ok (.iconst 1, 1) := by decide +kernel
theorem dX12_ways_77 : decode cX12_ways 77 = .ok (.if_icmp .ne 16, 3) := by decide +kernel
theorem dX12_ways_80 : decode cX12_ways 80 = .ok (.aload_n 0, 1) := by decide +kernel
theorem dX12_ways_81 : decode cX12_ways 81 = .ok (.getfield 81, 3) := by decide +kernel
theorem dX12_ways_84 : decode cX12_ways 84 = .ok (.iload_n 1, 1) := by decide +kernel
theorem dX12_ways_85 : decode cX12_ways 85 = .ok (.dup2, 1) := by decide +kernel
theorem dX12_ways_86 : decode cX12_ways 86 = .ok (.iaload, 1) := by decide +kernel
theorem dX12_ways_87 : decode cX12_ways 87 = .ok (.iconst 1, 1) := by decide +kernel
theorem dX12_ways_88 : decode cX12_ways 88 = .ok (.iadd, 1) := by decide +kernel
theorem dX12_ways_89 : decode cX12_ways 89 = .ok (.iastore, 1) := by decide +kernel
theorem dX12_ways_90 : decode cX12_ways 90 = .ok (.goto (-37), 3) := by decide +kernel
theorem dX12_ways_93 : decode cX12_ways 93 = .ok (.aload_n 0, 1) := by decide +kernel
theorem dX12_ways_94 : decode cX12_ways 94 = .ok (.getfield 81, 3) := by decide +kernel
theorem dX12_ways_97 : decode cX12_ways 97 = .ok (.iload_n 1, 1) := by decide +kernel
theorem dX12_ways_98 : decode cX12_ways 98 = .ok (.iaload, 1) := by decide +kernel
theorem dX12_ways_99 : decode cX12_ways 99 = .ok (.aload_n 0, 1) := by decide +kernel
theorem dX12_ways_100 : decode cX12_ways 100 = .ok (.getfield 126, 3) := by decide +kernel
theorem dX12_ways_103 : decode cX12_ways 103 = .ok (.if_icmp .ne 16, 3) := by decide +kernel
theorem dX12_ways_106 : decode cX12_ways 106 = .ok (.aload_n 0, 1) := by decide +kernel
theorem dX12_ways_107 : decode cX12_ways 107 = .ok (.getfield 81, 3) := by decide +kernel
theorem dX12_ways_110 : decode cX12_ways 110 = .ok (.iload_n 1, 1) := by decide +kernel
theorem dX12_ways_111 : decode cX12_ways 111 = .ok (.iconst (-1), 1) := by decide +kernel
theorem dX12_ways_112 : decode cX12_ways 112 = .ok (.iastore, 1) := by decide +kernel
theorem dX12_ways_113 : decode cX12_ways 113 = .ok (.iinc 1 (-1), 3) := by decide +kernel
theorem dX12_ways_116 : decode cX12_ways 116 = .ok (.goto (-100), 3) := by decide +kernel
theorem dX12_ways_119 : decode cX12_ways 119 = .ok (.iload_n 2, 1) := by decide +kernel
theorem dX12_ways_120 : decode cX12_ways 120 = .ok (.iconst 1, 1) := by decide +kernel
theorem dX12_ways_121 : decode cX12_ways 121 = .ok (.aload_n 0, 1) := by decide +kernel
theorem dX12_ways_122 : decode cX12_ways 122 = .ok (.getfield 81, 3) := by decide +kernel
theorem dX12_ways_125 : decode cX12_ways 125 = .ok (.iload_n 1, 1) := by decide +kernel
theorem dX12_ways_126 : decode cX12_ways 126 = .ok (.iaload, 1) := by decide +kernel
theorem dX12_ways_127 : decode cX12_ways 127 = .ok (.ishl, 1) := by decide +kernel
theorem dX12_ways_128 : decode cX12_ways 128 = .ok (.ior, 1) := by decide +kernel
theorem dX12_ways_129 : decode cX12_ways 129 = .ok (.istore_n 2, 1) := by decide +kernel
theorem dX12_ways_130 : decode cX12_ways 130 = .ok (.aload_n 0, 1) := by decide +kernel
theorem dX12_ways_131 : decode cX12_ways 131 = .ok (.getfield 87, 3) := by decide +kernel
theorem dX12_ways_134 : decode cX12_ways 134 = .ok (.iload_n 1, 1) := by decide +kernel
theorem dX12_ways_135 : decode cX12_ways 135 = .ok (.iconst 1, 1) := by decide +kernel
theorem dX12_ways_136 : decode cX12_ways 136 = .ok (.iadd, 1) := by decide +kernel
theorem dX12_ways_137 : decode cX12_ways 137 = .ok (.aload_n 0, 1) := by decide +kernel
theorem dX12_ways_138 : decode cX12_ways 138 = .ok (.getfield 87, 3) := by decide +kernel
theorem dX12_ways_141 : decode cX12_ways 141 = .ok (.iload_n 1, 1) := by decide +kernel
theorem dX12_ways_142 : decode cX12_ways 142 = .ok (.iaload, 1) := by decide +kernel
theorem dX12_ways_143 : decode cX12_ways 143 = .ok (.iastore, 1) := by decide +kernel
theorem dX12_ways_144 : decode cX12_ways 144 = .ok (.iconst 0, 1) := by decide +kernel
theorem dX12_ways_145 : decode cX12_ways 145 = .ok (.istore_n 3, 1) := by decide +kernel
theorem dX12_ways_146 : decode cX12_ways 146 = .ok (.iload_n 3, 1) := by decide +kernel
theorem dX12_ways_147 : decode cX12_ways 147 = .ok (.iload_n 1, 1) := by decide +kernel
theorem dX12_ways_148 : decode cX12_ways 148 = .ok (.if_icmp .ge 48, 3) := by decide +kernel
theorem dX12_ways_151 : decode cX12_ways 151 = .ok (.aload_n 0, 1) := by decide +kernel
theorem dX12_ways_152 : decode cX12_ways 152 = .ok (.getfield 87, 3) := by decide +kernel
theorem dX12_ways_155 : decode cX12_ways 155 = .ok (.iload_n 1, 1) := by decide +kernel
theorem dX12_ways_156 : decode cX12_ways 156 = .ok (.iconst 1, 1) := by decide +kernel
theorem dX12_ways_157 : decode cX12_ways 157 = .ok (.iadd, 1) := by decide +kernel
theorem dX12_ways_158 : decode cX12_ways 158 = .ok (.dup2, 1) := by decide +kernel
theorem dX12_ways_159 : decode cX12_ways 159 = .ok (.iaload, 1) := by decide +kernel
theorem dX12_ways_160 : decode cX12_ways 160 = .ok (.aload_n 0, 1) := by decide +kernel
theorem dX12_ways_161 : decode cX12_ways 161 = .ok (.getfield 34, 3) := by decide +kernel
theorem dX12_ways_164 : decode cX12_ways 164 = .ok (.bipush 8, 2) := by decide +kernel
theorem dX12_ways_166 : decode cX12_ways 166 = .ok (.iload_n 3, 1) := by decide +kernel
theorem dX12_ways_167 : decode cX12_ways 167 = .ok (.imul, 1) := by decide +kernel
theorem dX12_ways_168 : decode cX12_ways 168 = .ok (.iload_n 1, 1) := by decide +kernel
theorem dX12_ways_169 : decode cX12_ways 169 = .ok (.iadd, 1) := by decide +kernel
theorem dX12_ways_170 : decode cX12_ways 170 = .ok (.iaload, 1) := by decide +kernel
theorem dX12_ways_171 : decode cX12_ways 171 = .ok (.aload_n 0, 1) := by decide +kernel
theorem dX12_ways_172 : decode cX12_ways 172 = .ok (.aload_n 0, 1) := by decide +kernel
theorem dX12_ways_173 : decode cX12_ways 173 = .ok (.getfield 81, 3) := by decide +kernel
theorem dX12_ways_176 : decode cX12_ways 176 = .ok (.iload_n 3, 1) := by decide +kernel
theorem dX12_ways_177 : decode cX12_ways 177 = .ok (.iaload, 1) := by decide +kernel
theorem dX12_ways_178 : decode cX12_ways 178 = .ok (.aload_n 0, 1) := by decide +kernel
theorem dX12_ways_179 : decode cX12_ways 179 = .ok (.getfield 81, 3) := by decide +kernel
theorem dX12_ways_182 : decode cX12_ways 182 = .ok (.iload_n 1, 1) := by decide +kernel
theorem dX12_ways_183 : decode cX12_ways 183 = .ok (.iaload, 1) := by decide +kernel
theorem dX12_ways_184 : decode cX12_ways 184 = .ok (.invokevirtual 256, 3) := by decide +kernel
theorem dX12_ways_187 : decode cX12_ways 187 = .ok (.imul, 1) := by decide +kernel
theorem dX12_ways_188 : decode cX12_ways 188 = .ok (.iadd, 1) := by decide +kernel
theorem dX12_ways_189 : decode cX12_ways 189 = .ok (.iastore, 1) := by decide +kernel
theorem dX12_ways_190 : decode cX12_ways 190 = .ok (.iinc 3 1, 3) := by decide +kernel
theorem dX12_ways_193 : decode cX12_ways 193 = .ok (.goto (-47), 3) := by decide +kernel
theorem dX12_ways_196 : decode cX12_ways 196 = .ok (.iload_n 1, 1) := by decide +kernel
theorem dX12_ways_197 : decode cX12_ways 197 = .ok (.iconst 1, 1) := by decide +kernel
theorem dX12_ways_198 : decode cX12_ways 198 = .ok (.iadd, 1) := by decide +kernel
theorem dX12_ways_199 : decode cX12_ways 199 = .ok (.aload_n 0, 1) := by decide +kernel
theorem dX12_ways_200 : decode cX12_ways 200 = .ok (.getfield 109, 3) := by decide +kernel
theorem dX12_ways_203 : decode cX12_ways 203 = .ok (.if_icmp .ge 16, 3) := by decide +kernel
theorem dX12_ways_206 : decode cX12_ways 206 = .ok (.iinc 1 1, 3) := by decide +kernel
theorem dX12_ways_209 : decode cX12_ways 209 = .ok (.aload_n 0, 1) := by decide +kernel
theorem dX12_ways_210 : decode cX12_ways 210 = .ok (.getfield 81, 3) := by decide +kernel
theorem dX12_ways_213 : decode cX12_ways 213 = .ok (.iload_n 1, 1) := by decide +kernel
theorem dX12_ways_214 : decode cX12_ways 214 = .ok (.iconst (-1), 1) := by decide +kernel
theorem dX12_ways_215 : decode cX12_ways 215 = .ok (.iastore, 1) := by decide +kernel
theorem dX12_ways_216 : decode cX12_ways 216 = .ok (.goto (-200), 3) := by decide +kernel
theorem dX12_ways_219 : decode cX12_ways 219 = .ok (.aload_n 0, 1) := by decide +kernel
theorem dX12_ways_220 : decode cX12_ways 220 = .ok (.getfield 87, 3) := by decide +kernel
theorem dX12_ways_223 : decode cX12_ways 223 = .ok (.iload_n 1, 1) := by decide +kernel
theorem dX12_ways_224 : decode cX12_ways 224 = .ok (.iconst 1, 1) := by decide +kernel
theorem dX12_ways_225 : decode cX12_ways 225 = .ok (.iadd, 1) := by decide +kernel
theorem dX12_ways_226 : decode cX12_ways 226 = .ok (.iaload, 1) := by decide +kernel
theorem dX12_ways_227 : decode cX12_ways 227 = .ok (.aload_n 0, 1) := by decide +kernel
theorem dX12_ways_228 : decode cX12_ways 228 = .ok (.getfield 253, 3) := by decide +kernel
theorem dX12_ways_231 : decode cX12_ways 231 = .ok (.if_icmp .le (-215), 3) := by decide +kernel
theorem dX12_ways_234 : decode cX12_ways 234 = .ok (.aload_n 0, 1) := by decide +kernel
theorem dX12_ways_235 : decode cX12_ways 235 = .ok (.aload_n 0, 1) := by decide +kernel
theorem dX12_ways_236 : decode cX12_ways 236 = .ok (.getfield 87, 3) := by decide +kernel
theorem dX12_ways_239 : decode cX12_ways 239 = .ok (.iload_n 1, 1) := by decide +kernel
theorem dX12_ways_240 : decode cX12_ways 240 = .ok (.iconst 1, 1) := by decide +kernel
theorem dX12_ways_241 : decode cX12_ways 241 = .ok (.iadd, 1) := by decide +kernel
theorem dX12_ways_242 : decode cX12_ways 242 = .ok (.iaload, 1) := by decide +kernel
theorem dX12_ways_243 : decode cX12_ways 243 = .ok (.putfield 253, 3) := by decide +kernel
theorem dX12_ways_246 : decode cX12_ways 246 = .ok (.iconst 0, 1) := by decide +kernel
theorem dX12_ways_247 : decode cX12_ways 247 = .ok (.istore_n 3, 1) := by decide +kernel
theorem dX12_ways_248 : decode cX12_ways 248 = .ok (.iload_n 3, 1) := by decide +kernel
theorem dX12_ways_249 : decode cX12_ways 249 = .ok (.aload_n 0, 1) := by decide +kernel
theorem dX12_ways_250 : decode cX12_ways 250 = .ok (.getfield 109, 3) := by decide +kernel
theorem dX12_ways_253 : decode cX12_ways 253 = .ok (.if_icmp .ge 21, 3) := by decide +kernel
theorem dX12_ways_256 : decode cX12_ways 256 = .ok (.aload_n 0, 1) := by decide +kernel
theorem dX12_ways_257 : decode cX12_ways 257 = .ok (.getfield 84, 3) := by decide +kernel
theorem dX12_ways_260 : decode cX12_ways 260 = .ok (.iload_n 3, 1) := by decide +kernel
theorem dX12_ways_261 : decode cX12_ways 261 = .ok (.aload_n 0, 1) := by decide +kernel
theorem dX12_ways_262 : decode cX12_ways 262 = .ok (.getfield 81, 3) := by decide +kernel
theorem dX12_ways_265 : decode cX12_ways 265 = .ok (.iload_n 3, 1) := by decide +kernel
theorem dX12_ways_266 : decode cX12_ways 266 = .ok (.iaload, 1) := by decide +kernel
theorem dX12_ways_267 : decode cX12_ways 267 = .ok (.iastore, 1) := by decide +kernel
theorem dX12_ways_268 : decode cX12_ways 268 = .ok (.iinc 3 1, 3) := by decide +kernel
theorem dX12_ways_271 : decode cX12_ways 271 = .ok (.goto (-23), 3) := by decide +kernel
theorem dX12_ways_274 : decode cX12_ways 274 = .ok (.goto (-258), 3) := by decide +kernel
theorem dX12_ways_277 : decode cX12_ways 277 = .ok (.return_, 1) := by decide +kernel
theorem dX12_best_0 : decode cX12_best 0 = .ok (.aload_n 0, 1) := by decide +kernel
theorem dX12_best_1 : decode cX12_best 1 = .ok (.getfield 126, 3) := by decide +kernel
theorem dX12_best_4 : decode cX12_best 4 = .ok (.aload_n 0, 1) := by decide +kernel
theorem dX12_best_5 : decode cX12_best 5 = .ok (.getfield 109, 3) := by decide +kernel
theorem dX12_best_8 : decode cX12_best 8 = .ok (.if_icmp .lt 23, 3) := by decide +kernel
theorem dX12_best_11 : decode cX12_best 11 = .ok (.iload_n 1, 1) := by decide +kernel
theorem dX12_best_12 : decode cX12_best 12 = .ok (.ifCond .eq 21, 3) := by decide +kernel
theorem dX12_best_15 : decode cX12_best 15 = .ok (.iload_n 1, 1) := by decide +kernel
theorem dX12_best_16 : decode cX12_best 16 = .ok (.bipush 10, 2) := by decide +kernel
theorem dX12_best_18 : decode cX12_best 18 = .ok (.bipush 9, 2) := by decide +kernel
theorem dX12_best_20 : decode cX12_best 20 = .ok (.aload_n 0, 1) := by decide +kernel
theorem dX12_best_21 : decode cX12_best 21 = .ok (.getfield 109, 3) := by decide +kernel
theorem dX12_best_24 : decode cX12_best 24 = .ok (.iadd, 1) := by decide +kernel
theorem dX12_best_25 : decode cX12_best 25 = .ok (.invokestatic 105, 3) := by decide +kernel
theorem dX12_best_28 : decode cX12_best 28 = .ok (.ifCond .ne 5, 3) := by decide +kernel
theorem dX12_best_31 : decode cX12_best 31 = .ok (.iconst (-1), 1) := by decide +kernel
theorem dX12_best_32 : decode cX12_best 32 = .ok (.ireturn, 1) := by decide +kernel
theorem dX12_best_33 : decode cX12_best 33 = .ok (.aload_n 0, 1) := by decide +kernel
theorem dX12_best_34 : decode cX12_best 34 = .ok (.getfield 109, 3) := by decide +kernel
theorem dX12_best_37 : decode cX12_best 37 = .ok (.ifCond .ne 5, 3) := by decide +kernel
theorem dX12_best_40 : decode cX12_best 40 = .ok (.iconst 0, 1) := by decide +kernel
theorem dX12_best_41 : decode cX12_best 41 = .ok (.ireturn, 1) := by decide +kernel
theorem dX12_best_42 : decode cX12_best 42 = .ok (.aload_n 0, 1) := by decide +kernel
theorem dX12_best_43 : decode cX12_best 43 = .ok (.invokevirtual 260, 3) := by decide +kernel
theorem dX12_best_46 : decode cX12_best 46 = .ok (.iload_n 1, 1) := by decide +kernel
theorem dX12_best_47 : decode cX12_best 47 = .ok (.ifCond .ne 10, 3) := by decide +kernel
theorem dX12_best_50 : decode cX12_best 50 = .ok (.aload_n 0, 1) := by decide +kernel
theorem dX12_best_51 : decode cX12_best 51 = .ok (.getfield 253, 3) := by decide +kernel
theorem dX12_best_54 : decode cX12_best 54 = .ok (.goto 12, 3) := by decide +kernel
theorem dX12_best_57 : decode cX12_best 57 = .ok (.aload_n 0, 1) := by decide +kernel
theorem dX12_best_58 : decode cX12_best 58 = .ok (.getfield 84, 3) := by decide +kernel
theorem dX12_best_61 : decode cX12_best 61 = .ok (.iload_n 1, 1) := by decide +kernel
theorem dX12_best_62 : decode cX12_best 62 = .ok (.bipush 10, 2) := by decide +kernel
theorem dX12_best_64 : decode cX12_best 64 = .ok (.isub, 1) := by decide +kernel
theorem dX12_best_65 : decode cX12_best 65 = .ok (.iaload, 1) := by decide +kernel
theorem dX12_best_66 : decode cX12_best 66 = .ok (.ireturn, 1) := by decide +kernel
theorem dX12_serves_0 : decode cX12_serves 0 = .ok (.aload_n 0, 1) := by decide +kernel
theorem dX12_serves_1 : decode cX12_serves 1 = .ok (.getfield 96, 3) := by decide +kernel
theorem dX12_serves_4 : decode cX12_serves 4 = .ok (.iload_n 2, 1) := by decide +kernel
theorem dX12_serves_5 : decode cX12_serves 5 = .ok (.iaload, 1) := by decide +kernel
theorem dX12_serves_6 : decode cX12_serves 6 = .ok (.aload_n 0, 1) := by decide +kernel
theorem dX12_serves_7 : decode cX12_serves 7 = .ok (.getfield 90, 3) := by decide +kernel
theorem dX12_serves_10 : decode cX12_serves 10 = .ok (.iload_n 1, 1) := by decide +kernel
theorem dX12_serves_11 : decode cX12_serves 11 = .ok (.iaload, 1) := by decide +kernel
theorem dX12_serves_12 : decode cX12_serves 12 = .ok (.if_icmp .lt 16, 3) := by decide +kernel
theorem dX12_serves_15 : decode cX12_serves 15 = .ok (.ldc_w 263, 3) := by decide +kernel
theorem dX12_serves_18 : decode cX12_serves 18 = .ok (.aload_n 0, 1) := by decide +kernel
theorem dX12_serves_19 : decode cX12_serves 19 = .ok (.getfield 96, 3) := by decide +kernel
theorem dX12_serves_22 : decode cX12_serves 22 = .ok (.iload_n 2, 1) := by decide +kernel
theorem dX12_serves_23 : decode cX12_serves 23 = .ok (.iaload, 1) := by decide +kernel
theorem dX12_serves_24 : decode cX12_serves 24 = .ok (.isub, 1) := by decide +kernel
theorem dX12_serves_25 : decode cX12_serves 25 = .ok (.goto 6, 3) := by decide +kernel
theorem dX12_serves_28 : decode cX12_serves 28 = .ok (.ldc_w 264, 3) := by decide +kernel
theorem dX12_serves_31 : decode cX12_serves 31 = .ok (.ireturn, 1) := by decide +kernel
theorem dX12_weighs_0 : decode cX12_weighs 0 = .ok (.iconst 1, 1) := by decide +kernel
theorem dX12_weighs_1 : decode cX12_weighs 1 = .ok (.aload_n 0, 1) := by decide +kernel
theorem dX12_weighs_2 : decode cX12_weighs 2 = .ok (.getfield 129, 3) := by decide +kernel
theorem dX12_weighs_5 : decode cX12_weighs 5 = .ok (.ishl, 1) := by decide +kernel
theorem dX12_weighs_6 : decode cX12_weighs 6 = .ok (.istore_n 1, 1) := by decide +kernel
theorem dX12_weighs_7 : decode cX12_weighs 7 = .ok (.iconst 0, 1) := by decide +kernel
theorem dX12_weighs_8 : decode cX12_weighs 8 = .ok (.istore_n 2, 1) := by decide +kernel
theorem dX12_weighs_9 : decode cX12_weighs 9 = .ok (.iload_n 2, 1) := by decide +kernel
theorem dX12_weighs_10 : decode cX12_weighs 10 = .ok (.iload_n 1, 1) := by decide +kernel
theorem dX12_weighs_11 : decode cX12_weighs 11 = .ok (.if_icmp .ge 25, 3) := by decide +kernel
theorem dX12_weighs_14 : decode cX12_weighs 14 = .ok (.aload_n 0, 1) := by decide +kernel
theorem dX12_weighs_15 : decode cX12_weighs 15 = .ok (.getfield 99, 3) := by decide +kernel
theorem dX12_weighs_18 : decode cX12_weighs 18 = .ok (.sipush 1024, 3) := by decide +kernel
theorem dX12_weighs_21 : decode cX12_weighs 21 = .ok (.aload_n 0, 1) := by decide +kernel
theorem dX12_weighs_22 : decode cX12_weighs 22 = .ok (.getfield 109, 3) := by decide +kernel
theorem dX12_weighs_25 : decode cX12_weighs 25 = .ok (.imul, 1) := by decide +kernel
theorem dX12_weighs_26 : decode cX12_weighs 26 = .ok (.iload_n 2, 1) := by decide +kernel
theorem dX12_weighs_27 : decode cX12_weighs 27 = .ok (.iadd, 1) := by decide +kernel
theorem dX12_weighs_28 : decode cX12_weighs 28 = .ok (.iconst 0, 1) := by decide +kernel
theorem dX12_weighs_29 : decode cX12_weighs 29 = .ok (.iastore, 1) := by decide +kernel
theorem dX12_weighs_30 : decode cX12_weighs 30 = .ok (.iinc 2 1, 3) := by decide +kernel
theorem dX12_weighs_33 : decode cX12_weighs 33 = .ok (.goto (-24), 3) := by decide +kernel
theorem dX12_weighs_36 : decode cX12_weighs 36 = .ok (.aload_n 0, 1) := by decide +kernel
theorem dX12_weighs_37 : decode cX12_weighs 37 = .ok (.getfield 109, 3) := by decide +kernel
theorem dX12_weighs_40 : decode cX12_weighs 40 = .ok (.iconst 1, 1) := by decide +kernel
theorem dX12_weighs_41 : decode cX12_weighs 41 = .ok (.isub, 1) := by decide +kernel
theorem dX12_weighs_42 : decode cX12_weighs 42 = .ok (.istore_n 2, 1) := by decide +kernel
theorem dX12_weighs_43 : decode cX12_weighs 43 = .ok (.iload_n 2, 1) := by decide +kernel
theorem dX12_weighs_44 : decode cX12_weighs 44 = .ok (.ifCond .lt 168, 3) := by decide +kernel
theorem dX12_weighs_47 : decode cX12_weighs 47 = .ok (.iconst 0, 1) := by decide +kernel
theorem dX12_weighs_48 : decode cX12_weighs 48 = .ok (.istore_n 3, 1) := by decide +kernel
theorem dX12_weighs_49 : decode cX12_weighs 49 = .ok (.iload_n 3, 1) := by decide +kernel
theorem dX12_weighs_50 : decode cX12_weighs 50 = .ok (.iload_n 1, 1) := by decide +kernel
theorem dX12_weighs_51 : decode cX12_weighs 51 = .ok (.if_icmp .ge 155, 3) := by decide +kernel
theorem dX12_weighs_54 : decode cX12_weighs 54 = .ok (.iload_n 1, 1) := by decide +kernel
theorem dX12_weighs_55 : decode cX12_weighs 55 = .ok (.iconst 1, 1) := by decide +kernel
theorem dX12_weighs_56 : decode cX12_weighs 56 = .ok (.isub, 1) := by decide +kernel
theorem dX12_weighs_57 : decode cX12_weighs 57 = .ok (.iload_n 3, 1) := by decide +kernel
theorem dX12_weighs_58 : decode cX12_weighs 58 = .ok (.iconst (-1), 1) := by decide +kernel
theorem dX12_weighs_59 : decode cX12_weighs 59 = .ok (.ixor, 1) := by decide +kernel
theorem dX12_weighs_60 : decode cX12_weighs 60 = .ok (.iand, 1) := by decide +kernel
theorem dX12_weighs_61 : decode cX12_weighs 61 = .ok (.istore 4, 2) := by decide +kernel
theorem dX12_weighs_63 : decode cX12_weighs 63 = .ok (.aload_n 0, 1) := by decide +kernel
theorem dX12_weighs_64 : decode cX12_weighs 64 = .ok (.getfield 93, 3) := by decide +kernel
theorem dX12_weighs_67 : decode cX12_weighs 67 = .ok (.iload_n 2, 1) := by decide +kernel
theorem dX12_weighs_68 : decode cX12_weighs 68 = .ok (.iaload, 1) := by decide +kernel
theorem dX12_weighs_69 : decode cX12_weighs 69 = .ok (.iconst 1, 1) := by decide +kernel
theorem dX12_weighs_70 : decode cX12_weighs 70 = .ok (.if_icmp .ne 9, 3) := by decide +kernel
theorem dX12_weighs_73 : decode cX12_weighs 73 = .ok (.ldc_w 264, 3) := by decide +kernel
theorem dX12_weighs_76 : decode cX12_weighs 76 = .ok (.goto 17, 3) := by decide +kernel
theorem dX12_weighs_79 : decode cX12_weighs 79 = .ok (.aload_n 0, 1) := by decide +kernel
theorem dX12_weighs_80 : decode cX12_weighs 80 = .ok (.getfield 99, 3) := by decide +kernel
theorem dX12_weighs_83 : decode cX12_weighs 83 = .ok (.sipush 1024, 3) := by decide +kernel
theorem dX12_weighs_86 : decode cX12_weighs 86 = .ok (.iload_n 2, 1) := by decide +kernel
theorem dX12_weighs_87 : decode cX12_weighs 87 = .ok (.iconst 1, 1) := by decide +kernel
theorem dX12_weighs_88 : decode cX12_weighs 88 = .ok (.iadd, 1) := by decide +kernel
theorem dX12_weighs_89 : decode cX12_weighs 89 = .ok (.imul, 1) := by decide +kernel
theorem dX12_weighs_90 : decode cX12_weighs 90 = .ok (.iload_n 3, 1) := by decide +kernel
theorem dX12_weighs_91 : decode cX12_weighs 91 = .ok (.iadd, 1) := by decide +kernel
theorem dX12_weighs_92 : decode cX12_weighs 92 = .ok (.iaload, 1) := by decide +kernel
theorem dX12_weighs_93 : decode cX12_weighs 93 = .ok (.istore 5, 2) := by decide +kernel
theorem dX12_weighs_95 : decode cX12_weighs 95 = .ok (.aload_n 0, 1) := by decide +kernel
theorem dX12_weighs_96 : decode cX12_weighs 96 = .ok (.getfield 93, 3) := by decide +kernel
theorem dX12_weighs_99 : decode cX12_weighs 99 = .ok (.iload_n 2, 1) := by decide +kernel
theorem dX12_weighs_100 : decode cX12_weighs 100 = .ok (.iaload, 1) := by decide +kernel
theorem dX12_weighs_101 : decode cX12_weighs 101 = .ok (.ifCond .eq 56, 3) := by decide +kernel
theorem dX12_weighs_104 : decode cX12_weighs 104 = .ok (.iload 4, 2) := by decide +kernel
theorem dX12_weighs_106 : decode cX12_weighs 106 = .ok (.istore 6, 2) := by decide +kernel
theorem dX12_weighs_108 : decode cX12_weighs 108 = .ok (.iload 6, 2) := by decide +kernel
theorem dX12_weighs_110 : decode cX12_weighs 110 = .ok (.ifCond .le 47, 3) := by decide +kernel
theorem dX12_weighs_113 : decode cX12_weighs 113 = .ok (.iload 5, 2) := by decide +kernel
theorem dX12_weighs_115 : decode cX12_weighs 115 = .ok (.aload_n 0, 1) := by decide +kernel
theorem dX12_weighs_116 : decode cX12_weighs 116 = .ok (.iload_n 2, 1) := by decide +kernel
theorem dX12_weighs_117 : decode cX12_weighs 117 = .ok (.iload 6, 2) := by decide +kernel
theorem dX12_weighs_119 : decode cX12_weighs 119 = .ok (.invokevirtual 265, 3) := by decide +kernel
theorem dX12_weighs_122 : decode cX12_weighs 122 = .ok (.aload_n 0, 1) := by decide +kernel
theorem dX12_weighs_123 : decode cX12_weighs 123 = .ok (.getfield 99, 3) := by decide +kernel
theorem dX12_weighs_126 : decode cX12_weighs 126 = .ok (.sipush 1024, 3) := by decide +kernel
theorem dX12_weighs_129 : decode cX12_weighs 129 = .ok (.iload_n 2, 1) := by decide +kernel
theorem dX12_weighs_130 : decode cX12_weighs 130 = .ok (.iconst 1, 1) := by decide +kernel
theorem dX12_weighs_131 : decode cX12_weighs 131 = .ok (.iadd, 1) := by decide +kernel
theorem dX12_weighs_132 : decode cX12_weighs 132 = .ok (.imul, 1) := by decide +kernel
theorem dX12_weighs_133 : decode cX12_weighs 133 = .ok (.iload_n 3, 1) := by decide +kernel
theorem dX12_weighs_134 : decode cX12_weighs 134 = .ok (.iload 6, 2) := by decide +kernel
theorem dX12_weighs_136 : decode cX12_weighs 136 = .ok (.ior, 1) := by decide +kernel
theorem dX12_weighs_137 : decode cX12_weighs 137 = .ok (.iadd, 1) := by decide +kernel
theorem dX12_weighs_138 : decode cX12_weighs 138 = .ok (.iaload, 1) := by decide +kernel
theorem dX12_weighs_139 : decode cX12_weighs 139 = .ok (.iadd, 1) := by decide +kernel
theorem dX12_weighs_140 : decode cX12_weighs 140 = .ok (.invokestatic 268, 3) := by decide +kernel
theorem dX12_weighs_143 : decode cX12_weighs 143 = .ok (.istore 5, 2) := by decide +kernel
theorem dX12_weighs_145 : decode cX12_weighs 145 = .ok (.iload 6, 2) := by decide +kernel
theorem dX12_weighs_147 : decode cX12_weighs 147 = .ok (.iconst 1, 1) := by decide +kernel
theorem dX12_weighs_148 : decode cX12_weighs 148 = .ok (.isub, 1) := by decide +kernel
theorem dX12_weighs_149 : decode cX12_weighs 149 = .ok (.iload 4, 2) := by decide +kernel
theorem dX12_weighs_151 : decode cX12_weighs 151 = .ok (.iand, 1) := by decide +kernel
theorem dX12_weighs_152 : decode cX12_weighs 152 = .ok (.istore 6, 2) := by decide +kernel
theorem dX12_weighs_154 : decode cX12_weighs 154 = .ok (.goto (-46), 3) := by decide +kernel
theorem dX12_weighs_157 : decode cX12_weighs 157 = .ok (.aload_n 0, 1) := by decide +kernel
theorem dX12_weighs_158 : decode cX12_weighs 158 = .ok (.getfield 90, 3) := by decide +kernel
theorem dX12_weighs_161 : decode cX12_weighs 161 = .ok (.iload_n 2, 1) := by decide +kernel
theorem dX12_weighs_162 : decode cX12_weighs 162 = .ok (.iaload, 1) := by decide +kernel
theorem dX12_weighs_163 : decode cX12_weighs 163 = .ok (.ifCond .ne 23, 3) := by decide +kernel
theorem dX12_weighs_166 : decode cX12_weighs 166 = .ok (.ldc_w 263, 3) := by decide +kernel
theorem dX12_weighs_169 : decode cX12_weighs 169 = .ok (.aload_n 0, 1) := by decide +kernel
theorem dX12_weighs_170 : decode cX12_weighs 170 = .ok (.getfield 99, 3) := by decide +kernel
theorem dX12_weighs_173 : decode cX12_weighs 173 = .ok (.sipush 1024, 3) := by decide +kernel
theorem dX12_weighs_176 : decode cX12_weighs 176 = .ok (.iload_n 2, 1) := by decide +kernel
theorem dX12_weighs_177 : decode cX12_weighs 177 = .ok (.iconst 1, 1) := by decide +kernel
theorem dX12_weighs_178 : decode cX12_weighs 178 = .ok (.iadd, 1) := by decide +kernel
theorem dX12_weighs_179 : decode cX12_weighs 179 = .ok (.imul, 1) := by decide +kernel
theorem dX12_weighs_180 : decode cX12_weighs 180 = .ok (.iload_n 3, 1) := by decide +kernel
theorem dX12_weighs_181 : decode cX12_weighs 181 = .ok (.iadd, 1) := by decide +kernel
theorem dX12_weighs_182 : decode cX12_weighs 182 = .ok (.iaload, 1) := by decide +kernel
theorem dX12_weighs_183 : decode cX12_weighs 183 = .ok (.iadd, 1) := by decide +kernel
theorem dX12_weighs_184 : decode cX12_weighs 184 = .ok (.istore 5, 2) := by decide +kernel
theorem dX12_weighs_186 : decode cX12_weighs 186 = .ok (.aload_n 0, 1) := by decide +kernel
theorem dX12_weighs_187 : decode cX12_weighs 187 = .ok (.getfield 99, 3) := by decide +kernel
theorem dX12_weighs_190 : decode cX12_weighs 190 = .ok (.sipush 1024, 3) := by decide +kernel
theorem dX12_weighs_193 : decode cX12_weighs 193 = .ok (.iload_n 2, 1) := by decide +kernel
theorem dX12_weighs_194 : decode cX12_weighs 194 = .ok (.imul, 1) := by decide +kernel
theorem dX12_weighs_195 : decode cX12_weighs 195 = .ok (.iload_n 3, 1) := by decide +kernel
theorem dX12_weighs_196 : decode cX12_weighs 196 = .ok (.iadd, 1) := by decide +kernel
theorem dX12_weighs_197 : decode cX12_weighs 197 = .ok (.iload 5, 2) := by decide +kernel
theorem dX12_weighs_199 : decode cX12_weighs 199 = .ok (.iastore, 1) := by decide +kernel
theorem dX12_weighs_200 : decode cX12_weighs 200 = .ok (.iinc 3 1, 3) := by decide +kernel
theorem dX12_weighs_203 : decode cX12_weighs 203 = .ok (.goto (-154), 3) := by decide +kernel
theorem dX12_weighs_206 : decode cX12_weighs 206 = .ok (.iinc 2 (-1), 3) := by decide +kernel
theorem dX12_weighs_209 : decode cX12_weighs 209 = .ok (.goto (-166), 3) := by decide +kernel
theorem dX12_weighs_212 : decode cX12_weighs 212 = .ok (.aload_n 0, 1) := by decide +kernel
theorem dX12_weighs_213 : decode cX12_weighs 213 = .ok (.getfield 99, 3) := by decide +kernel
theorem dX12_weighs_216 : decode cX12_weighs 216 = .ok (.iconst 0, 1) := by decide +kernel
theorem dX12_weighs_217 : decode cX12_weighs 217 = .ok (.iaload, 1) := by decide +kernel
theorem dX12_weighs_218 : decode cX12_weighs 218 = .ok (.ireturn, 1) := by decide +kernel
theorem dX12_parts_0 : decode cX12_parts 0 = .ok (.iconst 0, 1) := by decide +kernel
theorem dX12_parts_1 : decode cX12_parts 1 = .ok (.istore_n 1, 1) := by decide +kernel
theorem dX12_parts_2 : decode cX12_parts 2 = .ok (.iload_n 1, 1) := by decide +kernel
theorem dX12_parts_3 : decode cX12_parts 3 = .ok (.sipush 1024, 3) := by decide +kernel
theorem dX12_parts_6 : decode cX12_parts 6 = .ok (.if_icmp .ge 53, 3) := by decide +kernel
theorem dX12_parts_9 : decode cX12_parts 9 = .ok (.aload_n 0, 1) := by decide +kernel
theorem dX12_parts_10 : decode cX12_parts 10 = .ok (.getfield 96, 3) := by decide +kernel
theorem dX12_parts_13 : decode cX12_parts 13 = .ok (.iload_n 1, 1) := by decide +kernel
theorem dX12_parts_14 : decode cX12_parts 14 = .ok (.iconst 0, 1) := by decide +kernel
theorem dX12_parts_15 : decode cX12_parts 15 = .ok (.iastore, 1) := by decide +kernel
theorem dX12_parts_16 : decode cX12_parts 16 = .ok (.iconst 0, 1) := by decide +kernel
theorem dX12_parts_17 : decode cX12_parts 17 = .ok (.istore_n 2, 1) := by decide +kernel
theorem dX12_parts_18 : decode cX12_parts 18 = .ok (.iload_n 2, 1) := by decide +kernel
theorem dX12_parts_19 : decode cX12_parts 19 = .ok (.aload_n 0, 1) := by decide +kernel
theorem dX12_parts_20 : decode cX12_parts 20 = .ok (.getfield 129, 3) := by decide +kernel
theorem dX12_parts_23 : decode cX12_parts 23 = .ok (.if_icmp .ge 30, 3) := by decide +kernel
theorem dX12_parts_26 : decode cX12_parts 26 = .ok (.aload_n 0, 1) := by decide +kernel
theorem dX12_parts_27 : decode cX12_parts 27 = .ok (.getfield 96, 3) := by decide +kernel
theorem dX12_parts_30 : decode cX12_parts 30 = .ok (.iload_n 1, 1) := by decide +kernel
theorem dX12_parts_31 : decode cX12_parts 31 = .ok (.dup2, 1) := by decide +kernel
theorem dX12_parts_32 : decode cX12_parts 32 = .ok (.iaload, 1) := by decide +kernel
theorem dX12_parts_33 : decode cX12_parts 33 = .ok (.iload_n 1, 1) := by decide +kernel
theorem dX12_parts_34 : decode cX12_parts 34 = .ok (.iload_n 2, 1) := by decide +kernel
theorem dX12_parts_35 : decode cX12_parts 35 = .ok (.ishr, 1) := by decide +kernel
theorem dX12_parts_36 : decode cX12_parts 36 = .ok (.iconst 1, 1) := by decide +kernel
theorem dX12_parts_37 : decode cX12_parts 37 = .ok (.iand, 1) := by decide +kernel
theorem dX12_parts_38 : decode cX12_parts 38 = .ok (.aload_n 0, 1) := by decide +kernel
theorem dX12_parts_39 : decode cX12_parts 39 = .ok (.getfield 43, 3) := by decide +kernel
theorem dX12_parts_42 : decode cX12_parts 42 = .ok (.iload_n 2, 1) := by decide +kernel
theorem dX12_parts_43 : decode cX12_parts 43 = .ok (.iaload, 1) := by decide +kernel
theorem dX12_parts_44 : decode cX12_parts 44 = .ok (.imul, 1) := by decide +kernel
theorem dX12_parts_45 : decode cX12_parts 45 = .ok (.iadd, 1) := by decide +kernel
theorem dX12_parts_46 : decode cX12_parts 46 = .ok (.iastore, 1) := by decide +kernel
theorem dX12_parts_47 : decode cX12_parts 47 = .ok (.iinc 2 1, 3) := by decide +kernel
theorem dX12_parts_50 : decode cX12_parts 50 = .ok (.goto (-32), 3) := by decide +kernel
theorem dX12_parts_53 : decode cX12_parts 53 = .ok (.iinc 1 1, 3) := by decide +kernel
theorem dX12_parts_56 : decode cX12_parts 56 = .ok (.goto (-54), 3) := by decide +kernel
theorem dX12_parts_59 : decode cX12_parts 59 = .ok (.iconst 0, 1) := by decide +kernel
theorem dX12_parts_60 : decode cX12_parts 60 = .ok (.istore_n 1, 1) := by decide +kernel
theorem dX12_parts_61 : decode cX12_parts 61 = .ok (.iload_n 1, 1) := by decide +kernel
theorem dX12_parts_62 : decode cX12_parts 62 = .ok (.aload_n 0, 1) := by decide +kernel
theorem dX12_parts_63 : decode cX12_parts 63 = .ok (.getfield 109, 3) := by decide +kernel
theorem dX12_parts_66 : decode cX12_parts 66 = .ok (.if_icmp .ge 27, 3) := by decide +kernel
theorem dX12_parts_69 : decode cX12_parts 69 = .ok (.aload_n 0, 1) := by decide +kernel
theorem dX12_parts_70 : decode cX12_parts 70 = .ok (.getfield 90, 3) := by decide +kernel
theorem dX12_parts_73 : decode cX12_parts 73 = .ok (.iload_n 1, 1) := by decide +kernel
theorem dX12_parts_74 : decode cX12_parts 74 = .ok (.aload_n 0, 1) := by decide +kernel
theorem dX12_parts_75 : decode cX12_parts 75 = .ok (.iload_n 1, 1) := by decide +kernel
theorem dX12_parts_76 : decode cX12_parts 76 = .ok (.invokevirtual 247, 3) := by decide +kernel
theorem dX12_parts_79 : decode cX12_parts 79 = .ok (.iastore, 1) := by decide +kernel
theorem dX12_parts_80 : decode cX12_parts 80 = .ok (.aload_n 0, 1) := by decide +kernel
theorem dX12_parts_81 : decode cX12_parts 81 = .ok (.getfield 93, 3) := by decide +kernel
theorem dX12_parts_84 : decode cX12_parts 84 = .ok (.iload_n 1, 1) := by decide +kernel
theorem dX12_parts_85 : decode cX12_parts 85 = .ok (.iconst (-1), 1) := by decide +kernel
theorem dX12_parts_86 : decode cX12_parts 86 = .ok (.iastore, 1) := by decide +kernel
theorem dX12_parts_87 : decode cX12_parts 87 = .ok (.iinc 1 1, 3) := by decide +kernel
theorem dX12_parts_90 : decode cX12_parts 90 = .ok (.goto (-29), 3) := by decide +kernel
theorem dX12_parts_93 : decode cX12_parts 93 = .ok (.aload_n 0, 1) := by decide +kernel
theorem dX12_parts_94 : decode cX12_parts 94 = .ok (.invokevirtual 273, 3) := by decide +kernel
theorem dX12_parts_97 : decode cX12_parts 97 = .ok (.istore_n 1, 1) := by decide +kernel
theorem dX12_parts_98 : decode cX12_parts 98 = .ok (.iconst 0, 1) := by decide +kernel
theorem dX12_parts_99 : decode cX12_parts 99 = .ok (.istore_n 2, 1) := by decide +kernel
theorem dX12_parts_100 : decode cX12_parts 100 = .ok (.iload_n 2, 1) := by decide +kernel
theorem dX12_parts_101 : decode cX12_parts 101 = .ok (.aload_n 0, 1) := by decide +kernel
theorem dX12_parts_102 : decode cX12_parts 102 = .ok (.getfield 109, 3) := by decide +kernel
theorem dX12_parts_105 : decode cX12_parts 105 = .ok (.if_icmp .ge 31, 3) := by decide +kernel
theorem dX12_parts_108 : decode cX12_parts 108 = .ok (.aload_n 0, 1) := by decide +kernel
theorem dX12_parts_109 : decode cX12_parts 109 = .ok (.getfield 93, 3) := by decide +kernel
theorem dX12_parts_112 : decode cX12_parts 112 = .ok (.iload_n 2, 1) := by decide +kernel
theorem dX12_parts_113 : decode cX12_parts 113 = .ok (.iconst 1, 1) := by decide +kernel
theorem dX12_parts_114 : decode cX12_parts 114 = .ok (.iastore, 1) := by decide +kernel
theorem dX12_parts_115 : decode cX12_parts 115 = .ok (.aload_n 0, 1) := by decide +kernel
theorem dX12_parts_116 : decode cX12_parts 116 = .ok (.invokevirtual 273, 3) := by decide +kernel
theorem dX12_parts_119 : decode cX12_parts 119 = .ok (.iload_n 1, 1) := by decide +kernel
theorem dX12_parts_120 : decode cX12_parts 120 = .ok (.if_icmp .eq 10, 3) := by decide +kernel
theorem dX12_parts_123 : decode cX12_parts 123 = .ok (.aload_n 0, 1) := by decide +kernel
theorem dX12_parts_124 : decode cX12_parts 124 = .ok (.getfield 93, 3) := by decide +kernel
theorem dX12_parts_127 : decode cX12_parts 127 = .ok (.iload_n 2, 1) := by decide +kernel
theorem dX12_parts_128 : decode cX12_parts 128 = .ok (.iconst 0, 1) := by decide +kernel
theorem dX12_parts_129 : decode cX12_parts 129 = .ok (.iastore, 1) := by decide +kernel
theorem dX12_parts_130 : decode cX12_parts 130 = .ok (.iinc 2 1, 3) := by decide +kernel
theorem dX12_parts_133 : decode cX12_parts 133 = .ok (.goto (-33), 3) := by decide +kernel
theorem dX12_parts_136 : decode cX12_parts 136 = .ok (.aload_n 0, 1) := by decide +kernel
theorem dX12_parts_137 : decode cX12_parts 137 = .ok (.invokevirtual 273, 3) := by decide +kernel
theorem dX12_parts_140 : decode cX12_parts 140 = .ok (.pop, 1) := by decide +kernel
theorem dX12_parts_141 : decode cX12_parts 141 = .ok (.iconst 0, 1) := by decide +kernel
theorem dX12_parts_142 : decode cX12_parts 142 = .ok (.istore_n 2, 1) := by decide +kernel
theorem dX12_parts_143 : decode cX12_parts 143 = .ok (.aload_n 0, 1) := by decide +kernel
theorem dX12_parts_144 : decode cX12_parts 144 = .ok (.iconst 0, 1) := by decide +kernel
theorem dX12_parts_145 : decode cX12_parts 145 = .ok (.putfield 276, 3) := by decide +kernel
theorem dX12_parts_148 : decode cX12_parts 148 = .ok (.iconst 0, 1) := by decide +kernel
theorem dX12_parts_149 : decode cX12_parts 149 = .ok (.istore_n 3, 1) := by decide +kernel
theorem dX12_parts_150 : decode cX12_parts 150 = .ok (.iload_n 3, 1) := by decide +kernel
theorem dX12_parts_151 : decode cX12_parts 151 = .ok (.aload_n 0, 1) := by decide +kernel
theorem dX12_parts_152 : decode cX12_parts 152 = .ok (.getfield 109, 3) := by decide +kernel
theorem dX12_parts_155 : decode cX12_parts 155 = .ok (.if_icmp .ge 132, 3) := by decide +kernel
theorem dX12_parts_158 : decode cX12_parts 158 = .ok (.aload_n 0, 1) := by decide +kernel
theorem dX12_parts_159 : decode cX12_parts 159 = .ok (.getfield 102, 3) := by decide +kernel
theorem dX12_parts_162 : decode cX12_parts 162 = .ok (.iload_n 3, 1) := by decide +kernel
theorem dX12_parts_163 : decode cX12_parts 163 = .ok (.iconst 0, 1) := by decide +kernel
theorem dX12_parts_164 : decode cX12_parts 164 = .ok (.iastore, 1) := by decide +kernel
theorem dX12_parts_165 : decode cX12_parts 165 = .ok (.aload_n 0, 1) := by decide +kernel
theorem dX12_parts_166 : decode cX12_parts 166 = .ok (.dup, 1) := by decide +kernel
theorem dX12_parts_167 : decode cX12_parts 167 = .ok (.getfield 276, 3) := by decide +kernel
theorem dX12_parts_170 : decode cX12_parts 170 = .ok (.aload_n 0, 1) := by decide +kernel
theorem dX12_parts_171 : decode cX12_parts 171 = .ok (.getfield 93, 3) := by decide +kernel
theorem dX12_parts_174 : decode cX12_parts 174 = .ok (.iload_n 3, 1) := by decide +kernel
theorem dX12_parts_175 : decode cX12_parts 175 = .ok (.iaload, 1) := by decide +kernel
theorem dX12_parts_176 : decode cX12_parts 176 = .ok (.iconst 1, 1) := by decide +kernel
theorem dX12_parts_177 : decode cX12_parts 177 = .ok (.if_icmp .ne 9, 3) := by decide +kernel
theorem dX12_parts_180 : decode cX12_parts 180 = .ok (.iconst 1, 1) := by decide +kernel
theorem dX12_parts_181 : decode cX12_parts 181 = .ok (.iload_n 3, 1) := by decide +kernel
theorem dX12_parts_182 : decode cX12_parts 182 = .ok (.ishl, 1) := by decide +kernel
theorem dX12_parts_183 : decode cX12_parts 183 = .ok (.goto 4, 3) := by decide +kernel
theorem dX12_parts_186 : decode cX12_parts 186 = .ok (.iconst 0, 1) := by decide +kernel
theorem dX12_parts_187 : decode cX12_parts 187 = .ok (.ior, 1) := by decide +kernel
theorem dX12_parts_188 : decode cX12_parts 188 = .ok (.putfield 276, 3) := by decide +kernel
theorem dX12_parts_191 : decode cX12_parts 191 = .ok (.aload_n 0, 1) := by decide +kernel
theorem dX12_parts_192 : decode cX12_parts 192 = .ok (.getfield 93, 3) := by decide +kernel
theorem dX12_parts_195 : decode cX12_parts 195 = .ok (.iload_n 3, 1) := by decide +kernel
theorem dX12_parts_196 : decode cX12_parts 196 = .ok (.iaload, 1) := by decide +kernel
theorem dX12_parts_197 : decode cX12_parts 197 = .ok (.ifCond .eq 84, 3) := by decide +kernel
theorem dX12_parts_200 : decode cX12_parts 200 = .ok (.aload_n 0, 1) := by decide +kernel
theorem dX12_parts_201 : decode cX12_parts 201 = .ok (.getfield 90, 3) := by decide +kernel
theorem dX12_parts_204 : decode cX12_parts 204 = .ok (.iload_n 3, 1) := by decide +kernel
theorem dX12_parts_205 : decode cX12_parts 205 = .ok (.iaload, 1) := by decide +kernel
theorem dX12_parts_206 : decode cX12_parts 206 = .ok (.ifCond .ne 6, 3) := by decide +kernel
theorem dX12_parts_209 : decode cX12_parts 209 = .ok (.goto 72, 3) := by decide +kernel
theorem dX12_parts_212 : decode cX12_parts 212 = .ok (.iconst 1, 1) := by decide +kernel
theorem dX12_parts_213 : decode cX12_parts 213 = .ok (.istore 4, 2) := by decide +kernel
theorem dX12_parts_215 : decode cX12_parts 215 = .ok (.iload 4, 2) := by decide +kernel
theorem dX12_parts_217 : decode cX12_parts 217 = .ok (.iload_n 2, 1) := by decide +kernel
theorem dX12_parts_218 : decode cX12_parts 218 = .ok (.iand, 1) := by decide +kernel
theorem dX12_parts_219 : decode cX12_parts 219 = .ok (.ifCond .ne 43, 3) := by decide +kernel
theorem dX12_parts_222 : decode cX12_parts 222 = .ok (.aload_n 0, 1) := by decide +kernel
theorem dX12_parts_223 : decode cX12_parts 223 = .ok (.iload_n 3, 1) := by decide +kernel
theorem dX12_parts_224 : decode cX12_parts 224 = .ok (.iload 4, 2) := by decide +kernel
theorem dX12_parts_226 : decode cX12_parts 226 = .ok (.invokevirtual 265, 3) := by decide +kernel
theorem dX12_parts_229 : decode cX12_parts 229 = .ok (.aload_n 0, 1) := by decide +kernel
theorem dX12_parts_230 : decode cX12_parts 230 = .ok (.getfield 99, 3) := by decide +kernel
theorem dX12_parts_233 : decode cX12_parts 233 = .ok (.sipush 1024, 3) := by decide +kernel
theorem dX12_parts_236 : decode cX12_parts 236 = .ok (.iload_n 3, 1) := by decide +kernel
theorem dX12_parts_237 : decode cX12_parts 237 = .ok (.iconst 1, 1) := by decide +kernel
theorem dX12_parts_238 : decode cX12_parts 238 = .ok (.iadd, 1) := by decide +kernel
theorem dX12_parts_239 : decode cX12_parts 239 = .ok (.imul, 1) := by decide +kernel
theorem dX12_parts_240 : decode cX12_parts 240 = .ok (.iload_n 2, 1) := by decide +kernel
theorem dX12_parts_241 : decode cX12_parts 241 = .ok (.iload 4, 2) := by decide +kernel
theorem dX12_parts_243 : decode cX12_parts 243 = .ok (.ior, 1) := by decide +kernel
theorem dX12_parts_244 : decode cX12_parts 244 = .ok (.iadd, 1) := by decide +kernel
theorem dX12_parts_245 : decode cX12_parts 245 = .ok (.iaload, 1) := by decide +kernel
theorem dX12_parts_246 : decode cX12_parts 246 = .ok (.iadd, 1) := by decide +kernel
theorem dX12_parts_247 : decode cX12_parts 247 = .ok (.aload_n 0, 1) := by decide +kernel
theorem dX12_parts_248 : decode cX12_parts 248 = .ok (.getfield 99, 3) := by decide +kernel
theorem dX12_parts_251 : decode cX12_parts 251 = .ok (.sipush 1024, 3) := by decide +kernel
theorem dX12_parts_254 : decode cX12_parts 254 = .ok (.iload_n 3, 1) := by decide +kernel
theorem dX12_parts_255 : decode cX12_parts 255 = .ok (.imul, 1) := by decide +kernel
theorem dX12_parts_256 : decode cX12_parts 256 = .ok (.iload_n 2, 1) := by decide +kernel
theorem dX12_parts_257 : decode cX12_parts 257 = .ok (.iadd, 1) := by decide +kernel
theorem dX12_parts_258 : decode cX12_parts 258 = .ok (.iaload, 1) := by decide +kernel
theorem dX12_parts_259 : decode cX12_parts 259 = .ok (.if_icmp .eq 9, 3) := by decide +kernel
theorem dX12_parts_262 : decode cX12_parts 262 = .ok (.iinc 4 1, 3) := by decide +kernel
theorem dX12_parts_265 : decode cX12_parts 265 = .ok (.goto (-50), 3) := by decide +kernel
theorem dX12_parts_268 : decode cX12_parts 268 = .ok (.aload_n 0, 1) := by decide +kernel
theorem dX12_parts_269 : decode cX12_parts 269 = .ok (.getfield 102, 3) := by decide +kernel
theorem dX12_parts_272 : decode cX12_parts 272 = .ok (.iload_n 3, 1) := by decide +kernel
theorem dX12_parts_273 : decode cX12_parts 273 = .ok (.iload 4, 2) := by decide +kernel
theorem dX12_parts_275 : decode cX12_parts 275 = .ok (.iastore, 1) := by decide +kernel
theorem dX12_parts_276 : decode cX12_parts 276 = .ok (.iload_n 2, 1) := by decide +kernel
theorem dX12_parts_277 : decode cX12_parts 277 = .ok (.iload 4, 2) := by decide +kernel
theorem dX12_parts_279 : decode cX12_parts 279 = .ok (.ior, 1) := by decide +kernel
theorem dX12_parts_280 : decode cX12_parts 280 = .ok (.istore_n 2, 1) := by decide +kernel
theorem dX12_parts_281 : decode cX12_parts 281 = .ok (.iinc 3 1, 3) := by decide +kernel
theorem dX12_parts_284 : decode cX12_parts 284 = .ok (.goto (-134), 3) := by decide +kernel
theorem dX12_parts_287 : decode cX12_parts 287 = .ok (.aload_n 0, 1) := by decide +kernel
theorem dX12_parts_288 : decode cX12_parts 288 = .ok (.aload_n 0, 1) := by decide +kernel
theorem dX12_parts_289 : decode cX12_parts 289 = .ok (.getfield 96, 3) := by decide +kernel
theorem dX12_parts_292 : decode cX12_parts 292 = .ok (.iload_n 2, 1) := by decide +kernel
theorem dX12_parts_293 : decode cX12_parts 293 = .ok (.iaload, 1) := by decide +kernel
theorem dX12_parts_294 : decode cX12_parts 294 = .ok (.putfield 279, 3) := by decide +kernel
theorem dX12_parts_297 : decode cX12_parts 297 = .ok (.return_, 1) := by decide +kernel
theorem dX12_bits_0 : decode cX12_bits 0 = .ok (.iconst 0, 1) := by decide +kernel
theorem dX12_bits_1 : decode cX12_bits 1 = .ok (.istore_n 1, 1) := by decide +kernel
theorem dX12_bits_2 : decode cX12_bits 2 = .ok (.iconst 0, 1) := by decide +kernel
theorem dX12_bits_3 : decode cX12_bits 3 = .ok (.istore_n 2, 1) := by decide +kernel
theorem dX12_bits_4 : decode cX12_bits 4 = .ok (.iload_n 2, 1) := by decide +kernel
theorem dX12_bits_5 : decode cX12_bits 5 = .ok (.bipush 8, 2) := by decide +kernel
theorem dX12_bits_7 : decode cX12_bits 7 = .ok (.if_icmp .ge 17, 3) := by decide +kernel
theorem dX12_bits_10 : decode cX12_bits 10 = .ok (.iload_n 1, 1) := by decide +kernel
theorem dX12_bits_11 : decode cX12_bits 11 = .ok (.iload_n 0, 1) := by decide +kernel
theorem dX12_bits_12 : decode cX12_bits 12 = .ok (.iload_n 2, 1) := by decide +kernel
theorem dX12_bits_13 : decode cX12_bits 13 = .ok (.ishr, 1) := by decide +kernel
theorem dX12_bits_14 : decode cX12_bits 14 = .ok (.iconst 1, 1) := by decide +kernel
theorem dX12_bits_15 : decode cX12_bits 15 = .ok (.iand, 1) := by decide +kernel
theorem dX12_bits_16 : decode cX12_bits 16 = .ok (.iadd, 1) := by decide +kernel
theorem dX12_bits_17 : decode cX12_bits 17 = .ok (.istore_n 1, 1) := by decide +kernel
theorem dX12_bits_18 : decode cX12_bits 18 = .ok (.iinc 2 1, 3) := by decide +kernel
theorem dX12_bits_21 : decode cX12_bits 21 = .ok (.goto (-17), 3) := by decide +kernel
theorem dX12_bits_24 : decode cX12_bits 24 = .ok (.iload_n 1, 1) := by decide +kernel
theorem dX12_bits_25 : decode cX12_bits 25 = .ok (.ireturn, 1) := by decide +kernel
theorem dX12_part_0 : decode cX12_part 0 = .ok (.iload_n 1, 1) := by decide +kernel
theorem dX12_part_1 : decode cX12_part 1 = .ok (.iconst 0, 1) := by decide +kernel
theorem dX12_part_2 : decode cX12_part 2 = .ok (.iconst 2, 1) := by decide +kernel
theorem dX12_part_3 : decode cX12_part 3 = .ok (.invokestatic 105, 3) := by decide +kernel
theorem dX12_part_6 : decode cX12_part 6 = .ok (.ifCond .ne 21, 3) := by decide +kernel
theorem dX12_part_9 : decode cX12_part 9 = .ok (.iload_n 1, 1) := by decide +kernel
theorem dX12_part_10 : decode cX12_part 10 = .ok (.bipush 10, 2) := by decide +kernel
theorem dX12_part_12 : decode cX12_part 12 = .ok (.bipush 9, 2) := by decide +kernel
theorem dX12_part_14 : decode cX12_part 14 = .ok (.aload_n 0, 1) := by decide +kernel
theorem dX12_part_15 : decode cX12_part 15 = .ok (.getfield 109, 3) := by decide +kernel
theorem dX12_part_18 : decode cX12_part 18 = .ok (.iadd, 1) := by decide +kernel
theorem dX12_part_19 : decode cX12_part 19 = .ok (.invokestatic 105, 3) := by decide +kernel
theorem dX12_part_22 : decode cX12_part 22 = .ok (.ifCond .ne 5, 3) := by decide +kernel
theorem dX12_part_25 : decode cX12_part 25 = .ok (.iconst (-1), 1) := by decide +kernel
theorem dX12_part_26 : decode cX12_part 26 = .ok (.ireturn, 1) := by decide +kernel
theorem dX12_part_27 : decode cX12_part 27 = .ok (.aload_n 0, 1) := by decide +kernel
theorem dX12_part_28 : decode cX12_part 28 = .ok (.invokevirtual 282, 3) := by decide +kernel
theorem dX12_part_31 : decode cX12_part 31 = .ok (.iload_n 1, 1) := by decide +kernel
theorem dX12_part_32 : decode cX12_part 32 = .ok (.ifCond .ne 13, 3) := by decide +kernel
theorem dX12_part_35 : decode cX12_part 35 = .ok (.aload_n 0, 1) := by decide +kernel
theorem dX12_part_36 : decode cX12_part 36 = .ok (.getfield 276, 3) := by decide +kernel
theorem dX12_part_39 : decode cX12_part 39 = .ok (.invokestatic 285, 3) := by decide +kernel
theorem dX12_part_42 : decode cX12_part 42 = .ok (.goto 36, 3) := by decide +kernel
theorem dX12_part_45 : decode cX12_part 45 = .ok (.iload_n 1, 1) := by decide +kernel
theorem dX12_part_46 : decode cX12_part 46 = .ok (.iconst 1, 1) := by decide +kernel
theorem dX12_part_47 : decode cX12_part 47 = .ok (.if_icmp .ne 10, 3) := by decide +kernel
theorem dX12_part_50 : decode cX12_part 50 = .ok (.aload_n 0, 1) := by decide +kernel
theorem dX12_part_51 : decode cX12_part 51 = .ok (.getfield 279, 3) := by decide +kernel
theorem dX12_part_54 : decode cX12_part 54 = .ok (.goto 24, 3) := by decide +kernel
theorem dX12_part_57 : decode cX12_part 57 = .ok (.iload_n 1, 1) := by decide +kernel
theorem dX12_part_58 : decode cX12_part 58 = .ok (.iconst 2, 1) := by decide +kernel
theorem dX12_part_59 : decode cX12_part 59 = .ok (.if_icmp .ne 10, 3) := by decide +kernel
theorem dX12_part_62 : decode cX12_part 62 = .ok (.aload_n 0, 1) := by decide +kernel
theorem dX12_part_63 : decode cX12_part 63 = .ok (.getfield 276, 3) := by decide +kernel
theorem dX12_part_66 : decode cX12_part 66 = .ok (.goto 12, 3) := by decide +kernel
theorem dX12_part_69 : decode cX12_part 69 = .ok (.aload_n 0, 1) := by decide +kernel
theorem dX12_part_70 : decode cX12_part 70 = .ok (.getfield 102, 3) := by decide +kernel
theorem dX12_part_73 : decode cX12_part 73 = .ok (.iload_n 1, 1) := by decide +kernel
theorem dX12_part_74 : decode cX12_part 74 = .ok (.bipush 10, 2) := by decide +kernel
theorem dX12_part_76 : decode cX12_part 76 = .ok (.isub, 1) := by decide +kernel
theorem dX12_part_77 : decode cX12_part 77 = .ok (.iaload, 1) := by decide +kernel
theorem dX12_part_78 : decode cX12_part 78 = .ok (.ireturn, 1) := by decide +kernel
