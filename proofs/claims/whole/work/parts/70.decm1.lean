theorem dX11_init_0 : decode cX11_init 0 = .ok (.aload_n 0, 1) := by decide +kernel
theorem dX11_init_1 : decode cX11_init 1 = .ok (.invokespecial 1, 3) := by decide +kernel
theorem dX11_init_4 : decode cX11_init 4 = .ok (.aload_n 0, 1) := by decide +kernel
theorem dX11_init_5 : decode cX11_init 5 = .ok (.sipush 6070, 3) := by decide +kernel
theorem dX11_init_8 : decode cX11_init 8 = .ok (.newarray .int, 2) := by decide +kernel
theorem dX11_init_10 : decode cX11_init 10 = .ok (.putfield 7, 3) := by decide +kernel
theorem dX11_init_13 : decode cX11_init 13 = .ok (.aload_n 0, 1) := by decide +kernel
theorem dX11_init_14 : decode cX11_init 14 = .ok (.sipush 6070, 3) := by decide +kernel
theorem dX11_init_17 : decode cX11_init 17 = .ok (.newarray .int, 2) := by decide +kernel
theorem dX11_init_19 : decode cX11_init 19 = .ok (.putfield 13, 3) := by decide +kernel
theorem dX11_init_22 : decode cX11_init 22 = .ok (.aload_n 0, 1) := by decide +kernel
theorem dX11_init_23 : decode cX11_init 23 = .ok (.bipush 125, 2) := by decide +kernel
theorem dX11_init_25 : decode cX11_init 25 = .ok (.newarray .int, 2) := by decide +kernel
theorem dX11_init_27 : decode cX11_init 27 = .ok (.putfield 16, 3) := by decide +kernel
theorem dX11_init_30 : decode cX11_init 30 = .ok (.aload_n 0, 1) := by decide +kernel
theorem dX11_init_31 : decode cX11_init 31 = .ok (.iconst 5, 1) := by decide +kernel
theorem dX11_init_32 : decode cX11_init 32 = .ok (.newarray .int, 2) := by decide +kernel
theorem dX11_init_34 : decode cX11_init 34 = .ok (.putfield 19, 3) := by decide +kernel
theorem dX11_init_37 : decode cX11_init 37 = .ok (.aload_n 0, 1) := by decide +kernel
theorem dX11_init_38 : decode cX11_init 38 = .ok (.iconst 5, 1) := by decide +kernel
theorem dX11_init_39 : decode cX11_init 39 = .ok (.newarray .int, 2) := by decide +kernel
theorem dX11_init_41 : decode cX11_init 41 = .ok (.putfield 22, 3) := by decide +kernel
theorem dX11_init_44 : decode cX11_init 44 = .ok (.aload_n 0, 1) := by decide +kernel
theorem dX11_init_45 : decode cX11_init 45 = .ok (.iconst 5, 1) := by decide +kernel
theorem dX11_init_46 : decode cX11_init 46 = .ok (.newarray .int, 2) := by decide +kernel
theorem dX11_init_48 : decode cX11_init 48 = .ok (.putfield 25, 3) := by decide +kernel
theorem dX11_init_51 : decode cX11_init 51 = .ok (.aload_n 0, 1) := by decide +kernel
theorem dX11_init_52 : decode cX11_init 52 = .ok (.bipush 125, 2) := by decide +kernel
theorem dX11_init_54 : decode cX11_init 54 = .ok (.newarray .int, 2) := by decide +kernel
theorem dX11_init_56 : decode cX11_init 56 = .ok (.putfield 28, 3) := by decide +kernel
theorem dX11_init_59 : decode cX11_init 59 = .ok (.aload_n 0, 1) := by decide +kernel
theorem dX11_init_60 : decode cX11_init 60 = .ok (.bipush 125, 2) := by decide +kernel
theorem dX11_init_62 : decode cX11_init 62 = .ok (.newarray .int, 2) := by decide +kernel
theorem dX11_init_64 : decode cX11_init 64 = .ok (.putfield 31, 3) := by decide +kernel
theorem dX11_init_67 : decode cX11_init 67 = .ok (.aload_n 0, 1) := by decide +kernel
theorem dX11_init_68 : decode cX11_init 68 = .ok (.sipush 600, 3) := by decide +kernel
theorem dX11_init_71 : decode cX11_init 71 = .ok (.newarray .int, 2) := by decide +kernel
theorem dX11_init_73 : decode cX11_init 73 = .ok (.putfield 34, 3) := by decide +kernel
theorem dX11_init_76 : decode cX11_init 76 = .ok (.aload_n 0, 1) := by decide +kernel
theorem dX11_init_77 : decode cX11_init 77 = .ok (.iconst (-1), 1) := by decide +kernel
theorem dX11_init_78 : decode cX11_init 78 = .ok (.putfield 37, 3) := by decide +kernel
theorem dX11_init_81 : decode cX11_init 81 = .ok (.aload_n 0, 1) := by decide +kernel
theorem dX11_init_82 : decode cX11_init 82 = .ok (.bipush 7, 2) := by decide +kernel
theorem dX11_init_84 : decode cX11_init 84 = .ok (.newarray .int, 2) := by decide +kernel
theorem dX11_init_86 : decode cX11_init 86 = .ok (.putfield 41, 3) := by decide +kernel
theorem dX11_init_89 : decode cX11_init 89 = .ok (.aload_n 0, 1) := by decide +kernel
theorem dX11_init_90 : decode cX11_init 90 = .ok (.iconst 5, 1) := by decide +kernel
theorem dX11_init_91 : decode cX11_init 91 = .ok (.iconst 5, 1) := by decide +kernel
theorem dX11_init_92 : decode cX11_init 92 = .ok (.multianewarray 44 2, 4) := by decide +kernel
theorem dX11_init_96 : decode cX11_init 96 = .ok (.putfield 46, 3) := by decide +kernel
theorem dX11_init_99 : decode cX11_init 99 = .ok (.aload_n 0, 1) := by decide +kernel
theorem dX11_init_100 : decode cX11_init 100 = .ok (.bipush 75, 2) := by decide +kernel
theorem dX11_init_102 : decode cX11_init 102 = .ok (.bipush 75, 2) := by decide +kernel
theorem dX11_init_104 : decode cX11_init 104 = .ok (.multianewarray 44 2, 4) := by decide +kernel
theorem dX11_init_108 : decode cX11_init 108 = .ok (.putfield 49, 3) := by decide +kernel
theorem dX11_init_111 : decode cX11_init 111 = .ok (.aload_n 0, 1) := by decide +kernel
theorem dX11_init_112 : decode cX11_init 112 = .ok (.bipush 75, 2) := by decide +kernel
theorem dX11_init_114 : decode cX11_init 114 = .ok (.newarray .int, 2) := by decide +kernel
theorem dX11_init_116 : decode cX11_init 116 = .ok (.putfield 52, 3) := by decide +kernel
theorem dX11_init_119 : decode cX11_init 119 = .ok (.aload_n 0, 1) := by decide +kernel
theorem dX11_init_120 : decode cX11_init 120 = .ok (.bipush 75, 2) := by decide +kernel
theorem dX11_init_122 : decode cX11_init 122 = .ok (.newarray .boolean, 2) := by decide +kernel
theorem dX11_init_124 : decode cX11_init 124 = .ok (.putfield 55, 3) := by decide +kernel
theorem dX11_init_127 : decode cX11_init 127 = .ok (.aload_n 0, 1) := by decide +kernel
theorem dX11_init_128 : decode cX11_init 128 = .ok (.sipush 243, 3) := by decide +kernel
theorem dX11_init_131 : decode cX11_init 131 = .ok (.newarray .boolean, 2) := by decide +kernel
theorem dX11_init_133 : decode cX11_init 133 = .ok (.putfield 59, 3) := by decide +kernel
theorem dX11_init_136 : decode cX11_init 136 = .ok (.aload_n 0, 1) := by decide +kernel
theorem dX11_init_137 : decode cX11_init 137 = .ok (.iconst 5, 1) := by decide +kernel
theorem dX11_init_138 : decode cX11_init 138 = .ok (.newarray .int, 2) := by decide +kernel
theorem dX11_init_140 : decode cX11_init 140 = .ok (.putfield 62, 3) := by decide +kernel
theorem dX11_init_143 : decode cX11_init 143 = .ok (.aload_n 0, 1) := by decide +kernel
theorem dX11_init_144 : decode cX11_init 144 = .ok (.bipush 125, 2) := by decide +kernel
theorem dX11_init_146 : decode cX11_init 146 = .ok (.newarray .int, 2) := by decide +kernel
theorem dX11_init_148 : decode cX11_init 148 = .ok (.putfield 65, 3) := by decide +kernel
theorem dX11_init_151 : decode cX11_init 151 = .ok (.aload_n 0, 1) := by decide +kernel
theorem dX11_init_152 : decode cX11_init 152 = .ok (.iconst 5, 1) := by decide +kernel
theorem dX11_init_153 : decode cX11_init 153 = .ok (.newarray .int, 2) := by decide +kernel
theorem dX11_init_155 : decode cX11_init 155 = .ok (.putfield 68, 3) := by decide +kernel
theorem dX11_init_158 : decode cX11_init 158 = .ok (.aload_n 0, 1) := by decide +kernel
theorem dX11_init_159 : decode cX11_init 159 = .ok (.iconst 5, 1) := by decide +kernel
theorem dX11_init_160 : decode cX11_init 160 = .ok (.newarray .int, 2) := by decide +kernel
theorem dX11_init_162 : decode cX11_init 162 = .ok (.putfield 71, 3) := by decide +kernel
theorem dX11_init_165 : decode cX11_init 165 = .ok (.aload_n 0, 1) := by decide +kernel
theorem dX11_init_166 : decode cX11_init 166 = .ok (.iconst 5, 1) := by decide +kernel
theorem dX11_init_167 : decode cX11_init 167 = .ok (.newarray .int, 2) := by decide +kernel
theorem dX11_init_169 : decode cX11_init 169 = .ok (.putfield 74, 3) := by decide +kernel
theorem dX11_init_172 : decode cX11_init 172 = .ok (.aload_n 0, 1) := by decide +kernel
theorem dX11_init_173 : decode cX11_init 173 = .ok (.iconst 5, 1) := by decide +kernel
theorem dX11_init_174 : decode cX11_init 174 = .ok (.newarray .int, 2) := by decide +kernel
theorem dX11_init_176 : decode cX11_init 176 = .ok (.putfield 77, 3) := by decide +kernel
theorem dX11_init_179 : decode cX11_init 179 = .ok (.aload_n 0, 1) := by decide +kernel
theorem dX11_init_180 : decode cX11_init 180 = .ok (.iconst 5, 1) := by decide +kernel
theorem dX11_init_181 : decode cX11_init 181 = .ok (.newarray .int, 2) := by decide +kernel
theorem dX11_init_183 : decode cX11_init 183 = .ok (.putfield 80, 3) := by decide +kernel
theorem dX11_init_186 : decode cX11_init 186 = .ok (.aload_n 0, 1) := by decide +kernel
theorem dX11_init_187 : decode cX11_init 187 = .ok (.bipush 125, 2) := by decide +kernel
theorem dX11_init_189 : decode cX11_init 189 = .ok (.newarray .int, 2) := by decide +kernel
theorem dX11_init_191 : decode cX11_init 191 = .ok (.putfield 83, 3) := by decide +kernel
theorem dX11_init_194 : decode cX11_init 194 = .ok (.aload_n 0, 1) := by decide +kernel
theorem dX11_init_195 : decode cX11_init 195 = .ok (.iconst 5, 1) := by decide +kernel
theorem dX11_init_196 : decode cX11_init 196 = .ok (.newarray .int, 2) := by decide +kernel
theorem dX11_init_198 : decode cX11_init 198 = .ok (.putfield 86, 3) := by decide +kernel
theorem dX11_init_201 : decode cX11_init 201 = .ok (.aload_n 0, 1) := by decide +kernel
theorem dX11_init_202 : decode cX11_init 202 = .ok (.iconst (-1), 1) := by decide +kernel
theorem dX11_init_203 : decode cX11_init 203 = .ok (.putfield 89, 3) := by decide +kernel
theorem dX11_init_206 : decode cX11_init 206 = .ok (.aload_n 0, 1) := by decide +kernel
theorem dX11_init_207 : decode cX11_init 207 = .ok (.bipush 125, 2) := by decide +kernel
theorem dX11_init_209 : decode cX11_init 209 = .ok (.newarray .int, 2) := by decide +kernel
theorem dX11_init_211 : decode cX11_init 211 = .ok (.putfield 92, 3) := by decide +kernel
theorem dX11_init_214 : decode cX11_init 214 = .ok (.aload_n 0, 1) := by decide +kernel
theorem dX11_init_215 : decode cX11_init 215 = .ok (.bipush 18, 2) := by decide +kernel
theorem dX11_init_217 : decode cX11_init 217 = .ok (.newarray .int, 2) := by decide +kernel
theorem dX11_init_219 : decode cX11_init 219 = .ok (.putfield 95, 3) := by decide +kernel
theorem dX11_init_222 : decode cX11_init 222 = .ok (.iconst 0, 1) := by decide +kernel
theorem dX11_init_223 : decode cX11_init 223 = .ok (.istore_n 1, 1) := by decide +kernel
theorem dX11_init_224 : decode cX11_init 224 = .ok (.iload_n 1, 1) := by decide +kernel
theorem dX11_init_225 : decode cX11_init 225 = .ok (.bipush 6, 2) := by decide +kernel
theorem dX11_init_227 : decode cX11_init 227 = .ok (.if_icmp .ge 35, 3) := by decide +kernel
theorem dX11_init_230 : decode cX11_init 230 = .ok (.aload_n 0, 1) := by decide +kernel
theorem dX11_init_231 : decode cX11_init 231 = .ok (.getfield 7, 3) := by decide +kernel
theorem dX11_init_234 : decode cX11_init 234 = .ok (.sipush 130, 3) := by decide +kernel
theorem dX11_init_237 : decode cX11_init 237 = .ok (.iload_n 1, 1) := by decide +kernel
theorem dX11_init_238 : decode cX11_init 238 = .ok (.imul, 1) := by decide +kernel
theorem dX11_init_239 : decode cX11_init 239 = .ok (.iconst 0, 1) := by decide +kernel
theorem dX11_init_240 : decode cX11_init 240 = .ok (.iadd, 1) := by decide +kernel
theorem dX11_init_241 : decode cX11_init 241 = .ok (.iconst 2, 1) := by decide +kernel
theorem dX11_init_242 : decode cX11_init 242 = .ok (.iastore, 1) := by decide +kernel
theorem dX11_init_243 : decode cX11_init 243 = .ok (.aload_n 0, 1) := by decide +kernel
theorem dX11_init_244 : decode cX11_init 244 = .ok (.getfield 7, 3) := by decide +kernel
theorem dX11_init_247 : decode cX11_init 247 = .ok (.sipush 130, 3) := by decide +kernel
theorem dX11_init_250 : decode cX11_init 250 = .ok (.iload_n 1, 1) := by decide +kernel
theorem dX11_init_251 : decode cX11_init 251 = .ok (.imul, 1) := by decide +kernel
theorem dX11_init_252 : decode cX11_init 252 = .ok (.iconst 1, 1) := by decide +kernel
theorem dX11_init_253 : decode cX11_init 253 = .ok (.iadd, 1) := by decide +kernel
theorem dX11_init_254 : decode cX11_init 254 = .ok (.iconst 1, 1) := by decide +kernel
theorem dX11_init_255 : decode cX11_init 255 = .ok (.iastore, 1) := by decide +kernel
theorem dX11_init_256 : decode cX11_init 256 = .ok (.iinc 1 1, 3) := by decide +kernel
theorem dX11_init_259 : decode cX11_init 259 = .ok (.goto (-35), 3) := by decide +kernel
theorem dX11_init_262 : decode cX11_init 262 = .ok (.iconst 0, 1) := by decide +kernel
theorem dX11_init_263 : decode cX11_init 263 = .ok (.istore_n 1, 1) := by decide +kernel
theorem dX11_init_264 : decode cX11_init 264 = .ok (.iload_n 1, 1) := by decide +kernel
theorem dX11_init_265 : decode cX11_init 265 = .ok (.bipush 15, 2) := by decide +kernel
theorem dX11_init_267 : decode cX11_init 267 = .ok (.if_icmp .ge 20, 3) := by decide +kernel
theorem dX11_init_270 : decode cX11_init 270 = .ok (.aload_n 0, 1) := by decide +kernel
theorem dX11_init_271 : decode cX11_init 271 = .ok (.getfield 7, 3) := by decide +kernel
theorem dX11_init_274 : decode cX11_init 274 = .ok (.sipush 800, 3) := by decide +kernel
theorem dX11_init_277 : decode cX11_init 277 = .ok (.iload_n 1, 1) := by decide +kernel
theorem dX11_init_278 : decode cX11_init 278 = .ok (.iadd, 1) := by decide +kernel
theorem dX11_init_279 : decode cX11_init 279 = .ok (.iconst (-1), 1) := by decide +kernel
theorem dX11_init_280 : decode cX11_init 280 = .ok (.iastore, 1) := by decide +kernel
theorem dX11_init_281 : decode cX11_init 281 = .ok (.iinc 1 1, 3) := by decide +kernel
theorem dX11_init_284 : decode cX11_init 284 = .ok (.goto (-20), 3) := by decide +kernel
theorem dX11_init_287 : decode cX11_init 287 = .ok (.return_, 1) := by decide +kernel
theorem dX11_isIn_0 : decode cX11_isIn 0 = .ok (.iload_n 0, 1) := by decide +kernel
theorem dX11_isIn_1 : decode cX11_isIn 1 = .ok (.iload_n 1, 1) := by decide +kernel
theorem dX11_isIn_2 : decode cX11_isIn 2 = .ok (.if_icmp .lt 12, 3) := by decide +kernel
theorem dX11_isIn_5 : decode cX11_isIn 5 = .ok (.iload_n 0, 1) := by decide +kernel
theorem dX11_isIn_6 : decode cX11_isIn 6 = .ok (.iload_n 2, 1) := by decide +kernel
theorem dX11_isIn_7 : decode cX11_isIn 7 = .ok (.if_icmp .gt 7, 3) := by decide +kernel
theorem dX11_isIn_10 : decode cX11_isIn 10 = .ok (.iconst 1, 1) := by decide +kernel
theorem dX11_isIn_11 : decode cX11_isIn 11 = .ok (.goto 4, 3) := by decide +kernel
theorem dX11_isIn_14 : decode cX11_isIn 14 = .ok (.iconst 0, 1) := by decide +kernel
theorem dX11_isIn_15 : decode cX11_isIn 15 = .ok (.ireturn, 1) := by decide +kernel
theorem dX11_isWorld_0 : decode cX11_isWorld 0 = .ok (.iload_n 0, 1) := by decide +kernel
theorem dX11_isWorld_1 : decode cX11_isWorld 1 = .ok (.iconst 0, 1) := by decide +kernel
theorem dX11_isWorld_2 : decode cX11_isWorld 2 = .ok (.iconst 5, 1) := by decide +kernel
theorem dX11_isWorld_3 : decode cX11_isWorld 3 = .ok (.invokestatic 98, 3) := by decide +kernel
theorem dX11_isWorld_6 : decode cX11_isWorld 6 = .ok (.ireturn, 1) := by decide +kernel
theorem dX11_power_0 : decode cX11_power 0 = .ok (.iconst 1, 1) := by decide +kernel
theorem dX11_power_1 : decode cX11_power 1 = .ok (.istore_n 2, 1) := by decide +kernel
theorem dX11_power_2 : decode cX11_power 2 = .ok (.iconst 0, 1) := by decide +kernel
theorem dX11_power_3 : decode cX11_power 3 = .ok (.istore_n 3, 1) := by decide +kernel
theorem dX11_power_4 : decode cX11_power 4 = .ok (.iload_n 3, 1) := by decide +kernel
theorem dX11_power_5 : decode cX11_power 5 = .ok (.iload_n 1, 1) := by decide +kernel
theorem dX11_power_6 : decode cX11_power 6 = .ok (.if_icmp .ge 13, 3) := by decide +kernel
theorem dX11_power_9 : decode cX11_power 9 = .ok (.iload_n 2, 1) := by decide +kernel
theorem dX11_power_10 : decode cX11_power 10 = .ok (.iload_n 0, 1) := by decide +kernel
theorem dX11_power_11 : decode cX11_power 11 = .ok (.imul, 1) := by decide +kernel
theorem dX11_power_12 : decode cX11_power 12 = .ok (.istore_n 2, 1) := by decide +kernel
theorem dX11_power_13 : decode cX11_power 13 = .ok (.iinc 3 1, 3) := by decide +kernel
theorem dX11_power_16 : decode cX11_power 16 = .ok (.goto (-12), 3) := by decide +kernel
theorem dX11_power_19 : decode cX11_power 19 = .ok (.iload_n 2, 1) := by decide +kernel
theorem dX11_power_20 : decode cX11_power 20 = .ok (.ireturn, 1) := by decide +kernel
theorem dX11_orderOf_0 : decode cX11_orderOf 0 = .ok (.aload_n 0, 1) := by decide +kernel
theorem dX11_orderOf_1 : decode cX11_orderOf 1 = .ok (.getfield 7, 3) := by decide +kernel
theorem dX11_orderOf_4 : decode cX11_orderOf 4 = .ok (.sipush 130, 3) := by decide +kernel
theorem dX11_orderOf_7 : decode cX11_orderOf 7 = .ok (.iload_n 1, 1) := by decide +kernel
theorem dX11_orderOf_8 : decode cX11_orderOf 8 = .ok (.imul, 1) := by decide +kernel
theorem dX11_orderOf_9 : decode cX11_orderOf 9 = .ok (.iconst 0, 1) := by decide +kernel
theorem dX11_orderOf_10 : decode cX11_orderOf 10 = .ok (.iadd, 1) := by decide +kernel
theorem dX11_orderOf_11 : decode cX11_orderOf 11 = .ok (.iaload, 1) := by decide +kernel
theorem dX11_orderOf_12 : decode cX11_orderOf 12 = .ok (.aload_n 0, 1) := by decide +kernel
theorem dX11_orderOf_13 : decode cX11_orderOf 13 = .ok (.getfield 7, 3) := by decide +kernel
theorem dX11_orderOf_16 : decode cX11_orderOf 16 = .ok (.sipush 130, 3) := by decide +kernel
theorem dX11_orderOf_19 : decode cX11_orderOf 19 = .ok (.iload_n 1, 1) := by decide +kernel
theorem dX11_orderOf_20 : decode cX11_orderOf 20 = .ok (.imul, 1) := by decide +kernel
theorem dX11_orderOf_21 : decode cX11_orderOf 21 = .ok (.iconst 1, 1) := by decide +kernel
theorem dX11_orderOf_22 : decode cX11_orderOf 22 = .ok (.iadd, 1) := by decide +kernel
theorem dX11_orderOf_23 : decode cX11_orderOf 23 = .ok (.iaload, 1) := by decide +kernel
theorem dX11_orderOf_24 : decode cX11_orderOf 24 = .ok (.invokestatic 102, 3) := by decide +kernel
theorem dX11_orderOf_27 : decode cX11_orderOf 27 = .ok (.ireturn, 1) := by decide +kernel
theorem dX11_laysOut_0 : decode cX11_laysOut 0 = .ok (.aload_n 0, 1) := by decide +kernel
theorem dX11_laysOut_1 : decode cX11_laysOut 1 = .ok (.aload_n 0, 1) := by decide +kernel
theorem dX11_laysOut_2 : decode cX11_laysOut 2 = .ok (.getfield 7, 3) := by decide +kernel
theorem dX11_laysOut_5 : decode cX11_laysOut 5 = .ok (.sipush 130, 3) := by decide +kernel
theorem dX11_laysOut_8 : decode cX11_laysOut 8 = .ok (.iload_n 1, 1) := by decide +kernel
theorem dX11_laysOut_9 : decode cX11_laysOut 9 = .ok (.imul, 1) := by decide +kernel
theorem dX11_laysOut_10 : decode cX11_laysOut 10 = .ok (.iconst 0, 1) := by decide +kernel
theorem dX11_laysOut_11 : decode cX11_laysOut 11 = .ok (.iadd, 1) := by decide +kernel
theorem dX11_laysOut_12 : decode cX11_laysOut 12 = .ok (.iaload, 1) := by decide +kernel
theorem dX11_laysOut_13 : decode cX11_laysOut 13 = .ok (.putfield 106, 3) := by decide +kernel
theorem dX11_laysOut_16 : decode cX11_laysOut 16 = .ok (.aload_n 0, 1) := by decide +kernel
theorem dX11_laysOut_17 : decode cX11_laysOut 17 = .ok (.aload_n 0, 1) := by decide +kernel
theorem dX11_laysOut_18 : decode cX11_laysOut 18 = .ok (.getfield 7, 3) := by decide +kernel
theorem dX11_laysOut_21 : decode cX11_laysOut 21 = .ok (.sipush 130, 3) := by decide +kernel
theorem dX11_laysOut_24 : decode cX11_laysOut 24 = .ok (.iload_n 1, 1) := by decide +kernel
theorem dX11_laysOut_25 : decode cX11_laysOut 25 = .ok (.imul, 1) := by decide +kernel
theorem dX11_laysOut_26 : decode cX11_laysOut 26 = .ok (.iconst 1, 1) := by decide +kernel
theorem dX11_laysOut_27 : decode cX11_laysOut 27 = .ok (.iadd, 1) := by decide +kernel
theorem dX11_laysOut_28 : decode cX11_laysOut 28 = .ok (.iaload, 1) := by decide +kernel
theorem dX11_laysOut_29 : decode cX11_laysOut 29 = .ok (.putfield 109, 3) := by decide +kernel
theorem dX11_laysOut_32 : decode cX11_laysOut 32 = .ok (.aload_n 0, 1) := by decide +kernel
theorem dX11_laysOut_33 : decode cX11_laysOut 33 = .ok (.aload_n 0, 1) := by decide +kernel
theorem dX11_laysOut_34 : decode cX11_laysOut 34 = .ok (.getfield 106, 3) := by decide +kernel
theorem dX11_laysOut_37 : decode cX11_laysOut 37 = .ok (.aload_n 0, 1) := by decide +kernel
theorem dX11_laysOut_38 : decode cX11_laysOut 38 = .ok (.getfield 109, 3) := by decide +kernel
theorem dX11_laysOut_41 : decode cX11_laysOut 41 = .ok (.invokestatic 102, 3) := by decide +kernel
theorem dX11_laysOut_44 : decode cX11_laysOut 44 = .ok (.putfield 112, 3) := by decide +kernel
theorem dX11_laysOut_47 : decode cX11_laysOut 47 = .ok (.iconst 0, 1) := by decide +kernel
theorem dX11_laysOut_48 : decode cX11_laysOut 48 = .ok (.istore_n 2, 1) := by decide +kernel
theorem dX11_laysOut_49 : decode cX11_laysOut 49 = .ok (.iload_n 2, 1) := by decide +kernel
theorem dX11_laysOut_50 : decode cX11_laysOut 50 = .ok (.bipush 125, 2) := by decide +kernel
theorem dX11_laysOut_52 : decode cX11_laysOut 52 = .ok (.if_icmp .ge 29, 3) := by decide +kernel
theorem dX11_laysOut_55 : decode cX11_laysOut 55 = .ok (.aload_n 0, 1) := by decide +kernel
theorem dX11_laysOut_56 : decode cX11_laysOut 56 = .ok (.getfield 16, 3) := by decide +kernel
theorem dX11_laysOut_59 : decode cX11_laysOut 59 = .ok (.iload_n 2, 1) := by decide +kernel
theorem dX11_laysOut_60 : decode cX11_laysOut 60 = .ok (.aload_n 0, 1) := by decide +kernel
theorem dX11_laysOut_61 : decode cX11_laysOut 61 = .ok (.getfield 7, 3) := by decide +kernel
theorem dX11_laysOut_64 : decode cX11_laysOut 64 = .ok (.sipush 130, 3) := by decide +kernel
theorem dX11_laysOut_67 : decode cX11_laysOut 67 = .ok (.iload_n 1, 1) := by decide +kernel
theorem dX11_laysOut_68 : decode cX11_laysOut 68 = .ok (.imul, 1) := by decide +kernel
theorem dX11_laysOut_69 : decode cX11_laysOut 69 = .ok (.iconst 2, 1) := by decide +kernel
theorem dX11_laysOut_70 : decode cX11_laysOut 70 = .ok (.iadd, 1) := by decide +kernel
theorem dX11_laysOut_71 : decode cX11_laysOut 71 = .ok (.iload_n 2, 1) := by decide +kernel
theorem dX11_laysOut_72 : decode cX11_laysOut 72 = .ok (.iadd, 1) := by decide +kernel
theorem dX11_laysOut_73 : decode cX11_laysOut 73 = .ok (.iaload, 1) := by decide +kernel
theorem dX11_laysOut_74 : decode cX11_laysOut 74 = .ok (.iastore, 1) := by decide +kernel
theorem dX11_laysOut_75 : decode cX11_laysOut 75 = .ok (.iinc 2 1, 3) := by decide +kernel
theorem dX11_laysOut_78 : decode cX11_laysOut 78 = .ok (.goto (-29), 3) := by decide +kernel
theorem dX11_laysOut_81 : decode cX11_laysOut 81 = .ok (.return_, 1) := by decide +kernel
theorem dX11_digits_0 : decode cX11_digits 0 = .ok (.iload_n 1, 1) := by decide +kernel
theorem dX11_digits_1 : decode cX11_digits 1 = .ok (.istore_n 3, 1) := by decide +kernel
theorem dX11_digits_2 : decode cX11_digits 2 = .ok (.iconst 0, 1) := by decide +kernel
theorem dX11_digits_3 : decode cX11_digits 3 = .ok (.istore 4, 2) := by decide +kernel
theorem dX11_digits_5 : decode cX11_digits 5 = .ok (.iload 4, 2) := by decide +kernel
theorem dX11_digits_7 : decode cX11_digits 7 = .ok (.iconst 5, 1) := by decide +kernel
theorem dX11_digits_8 : decode cX11_digits 8 = .ok (.if_icmp .ge 52, 3) := by decide +kernel
theorem dX11_digits_11 : decode cX11_digits 11 = .ok (.aload_n 2, 1) := by decide +kernel
theorem dX11_digits_12 : decode cX11_digits 12 = .ok (.iload 4, 2) := by decide +kernel
theorem dX11_digits_14 : decode cX11_digits 14 = .ok (.iload 4, 2) := by decide +kernel
theorem dX11_digits_16 : decode cX11_digits 16 = .ok (.aload_n 0, 1) := by decide +kernel
theorem dX11_digits_17 : decode cX11_digits 17 = .ok (.getfield 109, 3) := by decide +kernel
theorem dX11_digits_20 : decode cX11_digits 20 = .ok (.if_icmp .ge 12, 3) := by decide +kernel
theorem dX11_digits_23 : decode cX11_digits 23 = .ok (.iload_n 3, 1) := by decide +kernel
theorem dX11_digits_24 : decode cX11_digits 24 = .ok (.aload_n 0, 1) := by decide +kernel
theorem dX11_digits_25 : decode cX11_digits 25 = .ok (.getfield 106, 3) := by decide +kernel
theorem dX11_digits_28 : decode cX11_digits 28 = .ok (.irem, 1) := by decide +kernel
theorem dX11_digits_29 : decode cX11_digits 29 = .ok (.goto 4, 3) := by decide +kernel
theorem dX11_digits_32 : decode cX11_digits 32 = .ok (.iconst 0, 1) := by decide +kernel
theorem dX11_digits_33 : decode cX11_digits 33 = .ok (.iastore, 1) := by decide +kernel
theorem dX11_digits_34 : decode cX11_digits 34 = .ok (.iload 4, 2) := by decide +kernel
theorem dX11_digits_36 : decode cX11_digits 36 = .ok (.aload_n 0, 1) := by decide +kernel
theorem dX11_digits_37 : decode cX11_digits 37 = .ok (.getfield 109, 3) := by decide +kernel
theorem dX11_digits_40 : decode cX11_digits 40 = .ok (.if_icmp .ge 12, 3) := by decide +kernel
theorem dX11_digits_43 : decode cX11_digits 43 = .ok (.iload_n 3, 1) := by decide +kernel
theorem dX11_digits_44 : decode cX11_digits 44 = .ok (.aload_n 0, 1) := by decide +kernel
theorem dX11_digits_45 : decode cX11_digits 45 = .ok (.getfield 106, 3) := by decide +kernel
theorem dX11_digits_48 : decode cX11_digits 48 = .ok (.idiv, 1) := by decide +kernel
theorem dX11_digits_49 : decode cX11_digits 49 = .ok (.goto 4, 3) := by decide +kernel
theorem dX11_digits_52 : decode cX11_digits 52 = .ok (.iload_n 3, 1) := by decide +kernel
theorem dX11_digits_53 : decode cX11_digits 53 = .ok (.istore_n 3, 1) := by decide +kernel
theorem dX11_digits_54 : decode cX11_digits 54 = .ok (.iinc 4 1, 3) := by decide +kernel
theorem dX11_digits_57 : decode cX11_digits 57 = .ok (.goto (-52), 3) := by decide +kernel
theorem dX11_digits_60 : decode cX11_digits 60 = .ok (.return_, 1) := by decide +kernel
theorem dX11_element_0 : decode cX11_element 0 = .ok (.iconst 0, 1) := by decide +kernel
theorem dX11_element_1 : decode cX11_element 1 = .ok (.istore_n 2, 1) := by decide +kernel
theorem dX11_element_2 : decode cX11_element 2 = .ok (.aload_n 0, 1) := by decide +kernel
theorem dX11_element_3 : decode cX11_element 3 = .ok (.getfield 109, 3) := by decide +kernel
theorem dX11_element_6 : decode cX11_element 6 = .ok (.iconst 1, 1) := by decide +kernel
theorem dX11_element_7 : decode cX11_element 7 = .ok (.isub, 1) := by decide +kernel
theorem dX11_element_8 : decode cX11_element 8 = .ok (.istore_n 3, 1) := by decide +kernel
theorem dX11_element_9 : decode cX11_element 9 = .ok (.iload_n 3, 1) := by decide +kernel
theorem dX11_element_10 : decode cX11_element 10 = .ok (.ifCond .lt 20, 3) := by decide +kernel
theorem dX11_element_13 : decode cX11_element 13 = .ok (.aload_n 0, 1) := by decide +kernel
theorem dX11_element_14 : decode cX11_element 14 = .ok (.getfield 106, 3) := by decide +kernel
theorem dX11_element_17 : decode cX11_element 17 = .ok (.iload_n 2, 1) := by decide +kernel
theorem dX11_element_18 : decode cX11_element 18 = .ok (.imul, 1) := by decide +kernel
theorem dX11_element_19 : decode cX11_element 19 = .ok (.aload_n 1, 1) := by decide +kernel
theorem dX11_element_20 : decode cX11_element 20 = .ok (.iload_n 3, 1) := by decide +kernel
theorem dX11_element_21 : decode cX11_element 21 = .ok (.iaload, 1) := by decide +kernel
theorem dX11_element_22 : decode cX11_element 22 = .ok (.iadd, 1) := by decide +kernel
theorem dX11_element_23 : decode cX11_element 23 = .ok (.istore_n 2, 1) := by decide +kernel
theorem dX11_element_24 : decode cX11_element 24 = .ok (.iinc 3 (-1), 3) := by decide +kernel
theorem dX11_element_27 : decode cX11_element 27 = .ok (.goto (-18), 3) := by decide +kernel
theorem dX11_element_30 : decode cX11_element 30 = .ok (.iload_n 2, 1) := by decide +kernel
theorem dX11_element_31 : decode cX11_element 31 = .ok (.ireturn, 1) := by decide +kernel
theorem dX11_timesBy_0 : decode cX11_timesBy 0 = .ok (.aload_n 0, 1) := by decide +kernel
theorem dX11_timesBy_1 : decode cX11_timesBy 1 = .ok (.iload_n 2, 1) := by decide +kernel
theorem dX11_timesBy_2 : decode cX11_timesBy 2 = .ok (.aload_n 0, 1) := by decide +kernel
theorem dX11_timesBy_3 : decode cX11_timesBy 3 = .ok (.getfield 19, 3) := by decide +kernel
theorem dX11_timesBy_6 : decode cX11_timesBy 6 = .ok (.invokevirtual 115, 3) := by decide +kernel
theorem dX11_timesBy_9 : decode cX11_timesBy 9 = .ok (.aload_n 0, 1) := by decide +kernel
theorem dX11_timesBy_10 : decode cX11_timesBy 10 = .ok (.iload_n 3, 1) := by decide +kernel
theorem dX11_timesBy_11 : decode cX11_timesBy 11 = .ok (.aload_n 0, 1) := by decide +kernel
theorem dX11_timesBy_12 : decode cX11_timesBy 12 = .ok (.getfield 22, 3) := by decide +kernel
theorem dX11_timesBy_15 : decode cX11_timesBy 15 = .ok (.invokevirtual 115, 3) := by decide +kernel
theorem dX11_timesBy_18 : decode cX11_timesBy 18 = .ok (.iconst 0, 1) := by decide +kernel
theorem dX11_timesBy_19 : decode cX11_timesBy 19 = .ok (.istore 4, 2) := by decide +kernel
theorem dX11_timesBy_21 : decode cX11_timesBy 21 = .ok (.iload 4, 2) := by decide +kernel
theorem dX11_timesBy_23 : decode cX11_timesBy 23 = .ok (.aload_n 0, 1) := by decide +kernel
theorem dX11_timesBy_24 : decode cX11_timesBy 24 = .ok (.getfield 109, 3) := by decide +kernel
theorem dX11_timesBy_27 : decode cX11_timesBy 27 = .ok (.if_icmp .ge 17, 3) := by decide +kernel
theorem dX11_timesBy_30 : decode cX11_timesBy 30 = .ok (.aload_n 0, 1) := by decide +kernel
theorem dX11_timesBy_31 : decode cX11_timesBy 31 = .ok (.getfield 25, 3) := by decide +kernel
theorem dX11_timesBy_34 : decode cX11_timesBy 34 = .ok (.iload 4, 2) := by decide +kernel
theorem dX11_timesBy_36 : decode cX11_timesBy 36 = .ok (.iconst 0, 1) := by decide +kernel
theorem dX11_timesBy_37 : decode cX11_timesBy 37 = .ok (.iastore, 1) := by decide +kernel
theorem dX11_timesBy_38 : decode cX11_timesBy 38 = .ok (.iinc 4 1, 3) := by decide +kernel
theorem dX11_timesBy_41 : decode cX11_timesBy 41 = .ok (.goto (-20), 3) := by decide +kernel
theorem dX11_timesBy_44 : decode cX11_timesBy 44 = .ok (.iconst 0, 1) := by decide +kernel
theorem dX11_timesBy_45 : decode cX11_timesBy 45 = .ok (.istore 4, 2) := by decide +kernel
theorem dX11_timesBy_47 : decode cX11_timesBy 47 = .ok (.iload 4, 2) := by decide +kernel
theorem dX11_timesBy_49 : decode cX11_timesBy 49 = .ok (.aload_n 0, 1) := by decide +kernel
theorem dX11_timesBy_50 : decode cX11_timesBy 50 = .ok (.getfield 109, 3) := by decide +kernel
theorem dX11_timesBy_53 : decode cX11_timesBy 53 = .ok (.if_icmp .ge 112, 3) := by decide +kernel
theorem dX11_timesBy_56 : decode cX11_timesBy 56 = .ok (.aload_n 0, 1) := by decide +kernel
theorem dX11_timesBy_57 : decode cX11_timesBy 57 = .ok (.getfield 19, 3) := by decide +kernel
theorem dX11_timesBy_60 : decode cX11_timesBy 60 = .ok (.iload 4, 2) := by decide +kernel
theorem dX11_timesBy_62 : decode cX11_timesBy 62 = .ok (.iaload, 1) := by decide +kernel
theorem dX11_timesBy_63 : decode cX11_timesBy 63 = .ok (.ifCond .ne 6, 3) := by decide +kernel
theorem dX11_timesBy_66 : decode cX11_timesBy 66 = .ok (.goto 93, 3) := by decide +kernel
theorem dX11_timesBy_69 : decode cX11_timesBy 69 = .ok (.iconst 0, 1) := by decide +kernel
theorem dX11_timesBy_70 : decode cX11_timesBy 70 = .ok (.istore 5, 2) := by decide +kernel
theorem dX11_timesBy_72 : decode cX11_timesBy 72 = .ok (.iload 5, 2) := by decide +kernel
theorem dX11_timesBy_74 : decode cX11_timesBy 74 = .ok (.aload_n 0, 1) := by decide +kernel
theorem dX11_timesBy_75 : decode cX11_timesBy 75 = .ok (.getfield 109, 3) := by decide +kernel
theorem dX11_timesBy_78 : decode cX11_timesBy 78 = .ok (.if_icmp .ge 81, 3) := by decide +kernel
theorem dX11_timesBy_81 : decode cX11_timesBy 81 = .ok (.aload_n 0, 1) := by decide +kernel
theorem dX11_timesBy_82 : decode cX11_timesBy 82 = .ok (.getfield 22, 3) := by decide +kernel
theorem dX11_timesBy_85 : decode cX11_timesBy 85 = .ok (.iload 5, 2) := by decide +kernel
theorem dX11_timesBy_87 : decode cX11_timesBy 87 = .ok (.iaload, 1) := by decide +kernel
theorem dX11_timesBy_88 : decode cX11_timesBy 88 = .ok (.ifCond .ne 6, 3) := by decide +kernel
theorem dX11_timesBy_91 : decode cX11_timesBy 91 = .ok (.goto 62, 3) := by decide +kernel
theorem dX11_timesBy_94 : decode cX11_timesBy 94 = .ok (.iconst 0, 1) := by decide +kernel
theorem dX11_timesBy_95 : decode cX11_timesBy 95 = .ok (.istore 6, 2) := by decide +kernel
theorem dX11_timesBy_97 : decode cX11_timesBy 97 = .ok (.iload 6, 2) := by decide +kernel
theorem dX11_timesBy_99 : decode cX11_timesBy 99 = .ok (.aload_n 0, 1) := by decide +kernel
theorem dX11_timesBy_100 : decode cX11_timesBy 100 = .ok (.getfield 109, 3) := by decide +kernel
theorem dX11_timesBy_103 : decode cX11_timesBy 103 = .ok (.if_icmp .ge 50, 3) := by decide +kernel
theorem dX11_timesBy_106 : decode cX11_timesBy 106 = .ok (.aload_n 0, 1) := by decide +kernel
theorem dX11_timesBy_107 : decode cX11_timesBy 107 = .ok (.getfield 25, 3) := by decide +kernel
theorem dX11_timesBy_110 : decode cX11_timesBy 110 = .ok (.iload 6, 2) := by decide +kernel
theorem dX11_timesBy_112 : decode cX11_timesBy 112 = .ok (.dup2, 1) := by decide +kernel
theorem dX11_timesBy_113 : decode cX11_timesBy 113 = .ok (.iaload, 1) := by decide +kernel
theorem dX11_timesBy_114 : decode cX11_timesBy 114 = .ok (.aload_n 1, 1) := by decide +kernel
theorem dX11_timesBy_115 : decode cX11_timesBy 115 = .ok (.bipush 25, 2) := by decide +kernel
theorem dX11_timesBy_117 : decode cX11_timesBy 117 = .ok (.iload 4, 2) := by decide +kernel
theorem dX11_timesBy_119 : decode cX11_timesBy 119 = .ok (.imul, 1) := by decide +kernel
theorem dX11_timesBy_120 : decode cX11_timesBy 120 = .ok (.iconst 5, 1) := by decide +kernel
theorem dX11_timesBy_121 : decode cX11_timesBy 121 = .ok (.iload 5, 2) := by decide +kernel
theorem dX11_timesBy_123 : decode cX11_timesBy 123 = .ok (.imul, 1) := by decide +kernel
theorem dX11_timesBy_124 : decode cX11_timesBy 124 = .ok (.iadd, 1) := by decide +kernel
theorem dX11_timesBy_125 : decode cX11_timesBy 125 = .ok (.iload 6, 2) := by decide +kernel
theorem dX11_timesBy_127 : decode cX11_timesBy 127 = .ok (.iadd, 1) := by decide +kernel
theorem dX11_timesBy_128 : decode cX11_timesBy 128 = .ok (.iaload, 1) := by decide +kernel
theorem dX11_timesBy_129 : decode cX11_timesBy 129 = .ok (.aload_n 0, 1) := by decide +kernel
theorem dX11_timesBy_130 : decode cX11_timesBy 130 = .ok (.getfield 19, 3) := by decide +kernel
theorem dX11_timesBy_133 : decode cX11_timesBy 133 = .ok (.iload 4, 2) := by decide +kernel
theorem dX11_timesBy_135 : decode cX11_timesBy 135 = .ok (.iaload, 1) := by decide +kernel
theorem dX11_timesBy_136 : decode cX11_timesBy 136 = .ok (.imul, 1) := by decide +kernel
theorem dX11_timesBy_137 : decode cX11_timesBy 137 = .ok (.aload_n 0, 1) := by decide +kernel
theorem dX11_timesBy_138 : decode cX11_timesBy 138 = .ok (.getfield 22, 3) := by decide +kernel
theorem dX11_timesBy_141 : decode cX11_timesBy 141 = .ok (.iload 5, 2) := by decide +kernel
theorem dX11_timesBy_143 : decode cX11_timesBy 143 = .ok (.iaload, 1) := by decide +kernel
theorem dX11_timesBy_144 : decode cX11_timesBy 144 = .ok (.imul, 1) := by decide +kernel
theorem dX11_timesBy_145 : decode cX11_timesBy 145 = .ok (.iadd, 1) := by decide +kernel
theorem dX11_timesBy_146 : decode cX11_timesBy 146 = .ok (.iastore, 1) := by decide +kernel
theorem dX11_timesBy_147 : decode cX11_timesBy 147 = .ok (.iinc 6 1, 3) := by decide +kernel
theorem dX11_timesBy_150 : decode cX11_timesBy 150 = .ok (.goto (-53), 3) := by decide +kernel
theorem dX11_timesBy_153 : decode cX11_timesBy 153 = .ok (.iinc 5 1, 3) := by decide +kernel
theorem dX11_timesBy_156 : decode cX11_timesBy 156 = .ok (.goto (-84), 3) := by decide +kernel
theorem dX11_timesBy_159 : decode cX11_timesBy 159 = .ok (.iinc 4 1, 3) := by decide +kernel
theorem dX11_timesBy_162 : decode cX11_timesBy 162 = .ok (.goto (-115), 3) := by decide +kernel
theorem dX11_timesBy_165 : decode cX11_timesBy 165 = .ok (.iconst 0, 1) := by decide +kernel
theorem dX11_timesBy_166 : decode cX11_timesBy 166 = .ok (.istore 4, 2) := by decide +kernel
theorem dX11_timesBy_168 : decode cX11_timesBy 168 = .ok (.iload 4, 2) := by decide +kernel
theorem dX11_timesBy_170 : decode cX11_timesBy 170 = .ok (.aload_n 0, 1) := by decide +kernel
theorem dX11_timesBy_171 : decode cX11_timesBy 171 = .ok (.getfield 109, 3) := by decide +kernel
theorem dX11_timesBy_174 : decode cX11_timesBy 174 = .ok (.if_icmp .ge 23, 3) := by decide +kernel
theorem dX11_timesBy_177 : decode cX11_timesBy 177 = .ok (.aload_n 0, 1) := by decide +kernel
theorem dX11_timesBy_178 : decode cX11_timesBy 178 = .ok (.getfield 25, 3) := by decide +kernel
theorem dX11_timesBy_181 : decode cX11_timesBy 181 = .ok (.iload 4, 2) := by decide +kernel
theorem dX11_timesBy_183 : decode cX11_timesBy 183 = .ok (.dup2, 1) := by decide +kernel
theorem dX11_timesBy_184 : decode cX11_timesBy 184 = .ok (.iaload, 1) := by decide +kernel
theorem dX11_timesBy_185 : decode cX11_timesBy 185 = .ok (.aload_n 0, 1) := by decide +kernel
theorem dX11_timesBy_186 : decode cX11_timesBy 186 = .ok (.getfield 106, 3) := by decide +kernel
theorem dX11_timesBy_189 : decode cX11_timesBy 189 = .ok (.irem, 1) := by decide +kernel
theorem dX11_timesBy_190 : decode cX11_timesBy 190 = .ok (.iastore, 1) := by decide +kernel
theorem dX11_timesBy_191 : decode cX11_timesBy 191 = .ok (.iinc 4 1, 3) := by decide +kernel
theorem dX11_timesBy_194 : decode cX11_timesBy 194 = .ok (.goto (-26), 3) := by decide +kernel
theorem dX11_timesBy_197 : decode cX11_timesBy 197 = .ok (.aload_n 0, 1) := by decide +kernel
theorem dX11_timesBy_198 : decode cX11_timesBy 198 = .ok (.aload_n 0, 1) := by decide +kernel
theorem dX11_timesBy_199 : decode cX11_timesBy 199 = .ok (.getfield 25, 3) := by decide +kernel
theorem dX11_timesBy_202 : decode cX11_timesBy 202 = .ok (.invokevirtual 119, 3) := by decide +kernel
theorem dX11_timesBy_205 : decode cX11_timesBy 205 = .ok (.ireturn, 1) := by decide +kernel
theorem dX11_times_0 : decode cX11_times 0 = .ok (.aload_n 0, 1) := by decide +kernel
theorem dX11_times_1 : decode cX11_times 1 = .ok (.aload_n 0, 1) := by decide +kernel
theorem dX11_times_2 : decode cX11_times 2 = .ok (.getfield 16, 3) := by decide +kernel
theorem dX11_times_5 : decode cX11_times 5 = .ok (.iload_n 1, 1) := by decide +kernel
theorem dX11_times_6 : decode cX11_times 6 = .ok (.iload_n 2, 1) := by decide +kernel
theorem dX11_times_7 : decode cX11_times 7 = .ok (.invokevirtual 123, 3) := by decide +kernel
theorem dX11_times_10 : decode cX11_times 10 = .ok (.ireturn, 1) := by decide +kernel
theorem dX11_plus_0 : decode cX11_plus 0 = .ok (.aload_n 0, 1) := by decide +kernel
theorem dX11_plus_1 : decode cX11_plus 1 = .ok (.iload_n 1, 1) := by decide +kernel
theorem dX11_plus_2 : decode cX11_plus 2 = .ok (.aload_n 0, 1) := by decide +kernel
theorem dX11_plus_3 : decode cX11_plus 3 = .ok (.getfield 19, 3) := by decide +kernel
theorem dX11_plus_6 : decode cX11_plus 6 = .ok (.invokevirtual 115, 3) := by decide +kernel
theorem dX11_plus_9 : decode cX11_plus 9 = .ok (.aload_n 0, 1) := by decide +kernel
theorem dX11_plus_10 : decode cX11_plus 10 = .ok (.iload_n 3, 1) := by decide +kernel
theorem dX11_plus_11 : decode cX11_plus 11 = .ok (.aload_n 0, 1) := by decide +kernel
theorem dX11_plus_12 : decode cX11_plus 12 = .ok (.getfield 22, 3) := by decide +kernel
theorem dX11_plus_15 : decode cX11_plus 15 = .ok (.invokevirtual 115, 3) := by decide +kernel
theorem dX11_plus_18 : decode cX11_plus 18 = .ok (.iconst 0, 1) := by decide +kernel
theorem dX11_plus_19 : decode cX11_plus 19 = .ok (.istore 4, 2) := by decide +kernel
theorem dX11_plus_21 : decode cX11_plus 21 = .ok (.iload 4, 2) := by decide +kernel
theorem dX11_plus_23 : decode cX11_plus 23 = .ok (.aload_n 0, 1) := by decide +kernel
theorem dX11_plus_24 : decode cX11_plus 24 = .ok (.getfield 109, 3) := by decide +kernel
theorem dX11_plus_27 : decode cX11_plus 27 = .ok (.if_icmp .ge 38, 3) := by decide +kernel
theorem dX11_plus_30 : decode cX11_plus 30 = .ok (.aload_n 0, 1) := by decide +kernel
theorem dX11_plus_31 : decode cX11_plus 31 = .ok (.getfield 25, 3) := by decide +kernel
theorem dX11_plus_34 : decode cX11_plus 34 = .ok (.iload 4, 2) := by decide +kernel
theorem dX11_plus_36 : decode cX11_plus 36 = .ok (.aload_n 0, 1) := by decide +kernel
theorem dX11_plus_37 : decode cX11_plus 37 = .ok (.getfield 19, 3) := by decide +kernel
theorem dX11_plus_40 : decode cX11_plus 40 = .ok (.iload 4, 2) := by decide +kernel
theorem dX11_plus_42 : decode cX11_plus 42 = .ok (.iaload, 1) := by decide +kernel
theorem dX11_plus_43 : decode cX11_plus 43 = .ok (.iload_n 2, 1) := by decide +kernel
theorem dX11_plus_44 : decode cX11_plus 44 = .ok (.aload_n 0, 1) := by decide +kernel
theorem dX11_plus_45 : decode cX11_plus 45 = .ok (.getfield 22, 3) := by decide +kernel
theorem dX11_plus_48 : decode cX11_plus 48 = .ok (.iload 4, 2) := by decide +kernel
theorem dX11_plus_50 : decode cX11_plus 50 = .ok (.iaload, 1) := by decide +kernel
theorem dX11_plus_51 : decode cX11_plus 51 = .ok (.imul, 1) := by decide +kernel
theorem dX11_plus_52 : decode cX11_plus 52 = .ok (.iadd, 1) := by decide +kernel
theorem dX11_plus_53 : decode cX11_plus 53 = .ok (.aload_n 0, 1) := by decide +kernel
theorem dX11_plus_54 : decode cX11_plus 54 = .ok (.getfield 106, 3) := by decide +kernel
theorem dX11_plus_57 : decode cX11_plus 57 = .ok (.irem, 1) := by decide +kernel
theorem dX11_plus_58 : decode cX11_plus 58 = .ok (.iastore, 1) := by decide +kernel
theorem dX11_plus_59 : decode cX11_plus 59 = .ok (.iinc 4 1, 3) := by decide +kernel
theorem dX11_plus_62 : decode cX11_plus 62 = .ok (.goto (-41), 3) := by decide +kernel
theorem dX11_plus_65 : decode cX11_plus 65 = .ok (.aload_n 0, 1) := by decide +kernel
theorem dX11_plus_66 : decode cX11_plus 66 = .ok (.aload_n 0, 1) := by decide +kernel
theorem dX11_plus_67 : decode cX11_plus 67 = .ok (.getfield 25, 3) := by decide +kernel
theorem dX11_plus_70 : decode cX11_plus 70 = .ok (.invokevirtual 119, 3) := by decide +kernel
theorem dX11_plus_73 : decode cX11_plus 73 = .ok (.ireturn, 1) := by decide +kernel
theorem dX11_minus_0 : decode cX11_minus 0 = .ok (.aload_n 0, 1) := by decide +kernel
theorem dX11_minus_1 : decode cX11_minus 1 = .ok (.iload_n 1, 1) := by decide +kernel
theorem dX11_minus_2 : decode cX11_minus 2 = .ok (.aload_n 0, 1) := by decide +kernel
theorem dX11_minus_3 : decode cX11_minus 3 = .ok (.getfield 106, 3) := by decide +kernel
theorem dX11_minus_6 : decode cX11_minus 6 = .ok (.iconst 1, 1) := by decide +kernel
theorem dX11_minus_7 : decode cX11_minus 7 = .ok (.isub, 1) := by decide +kernel
theorem dX11_minus_8 : decode cX11_minus 8 = .ok (.iload_n 2, 1) := by decide +kernel
theorem dX11_minus_9 : decode cX11_minus 9 = .ok (.invokevirtual 127, 3) := by decide +kernel
theorem dX11_minus_12 : decode cX11_minus 12 = .ok (.ireturn, 1) := by decide +kernel
theorem dX11_base_0 : decode cX11_base 0 = .ok (.aload_n 0, 1) := by decide +kernel
theorem dX11_base_1 : decode cX11_base 1 = .ok (.getfield 106, 3) := by decide +kernel
theorem dX11_base_4 : decode cX11_base 4 = .ok (.iload_n 1, 1) := by decide +kernel
theorem dX11_base_5 : decode cX11_base 5 = .ok (.invokestatic 102, 3) := by decide +kernel
theorem dX11_base_8 : decode cX11_base 8 = .ok (.ireturn, 1) := by decide +kernel
theorem dX11_copies_0 : decode cX11_copies 0 = .ok (.iconst 0, 1) := by decide +kernel
theorem dX11_copies_1 : decode cX11_copies 1 = .ok (.istore_n 3, 1) := by decide +kernel
theorem dX11_copies_2 : decode cX11_copies 2 = .ok (.iload_n 3, 1) := by decide +kernel
theorem dX11_copies_3 : decode cX11_copies 3 = .ok (.sipush 130, 3) := by decide +kernel
theorem dX11_copies_6 : decode cX11_copies 6 = .ok (.if_icmp .ge 25, 3) := by decide +kernel
theorem dX11_copies_9 : decode cX11_copies 9 = .ok (.aload_n 0, 1) := by decide +kernel
theorem dX11_copies_10 : decode cX11_copies 10 = .ok (.getfield 7, 3) := by decide +kernel
theorem dX11_copies_13 : decode cX11_copies 13 = .ok (.iload_n 2, 1) := by decide +kernel
theorem dX11_copies_14 : decode cX11_copies 14 = .ok (.iload_n 3, 1) := by decide +kernel
theorem dX11_copies_15 : decode cX11_copies 15 = .ok (.iadd, 1) := by decide +kernel
theorem dX11_copies_16 : decode cX11_copies 16 = .ok (.aload_n 0, 1) := by decide +kernel
theorem dX11_copies_17 : decode cX11_copies 17 = .ok (.getfield 7, 3) := by decide +kernel
theorem dX11_copies_20 : decode cX11_copies 20 = .ok (.iload_n 1, 1) := by decide +kernel
theorem dX11_copies_21 : decode cX11_copies 21 = .ok (.iload_n 3, 1) := by decide +kernel
theorem dX11_copies_22 : decode cX11_copies 22 = .ok (.iadd, 1) := by decide +kernel
theorem dX11_copies_23 : decode cX11_copies 23 = .ok (.iaload, 1) := by decide +kernel
theorem dX11_copies_24 : decode cX11_copies 24 = .ok (.iastore, 1) := by decide +kernel
theorem dX11_copies_25 : decode cX11_copies 25 = .ok (.iinc 3 1, 3) := by decide +kernel
theorem dX11_copies_28 : decode cX11_copies 28 = .ok (.goto (-26), 3) := by decide +kernel
theorem dX11_copies_31 : decode cX11_copies 31 = .ok (.return_, 1) := by decide +kernel
theorem dX11_pushes_0 : decode cX11_pushes 0 = .ok (.aload_n 0, 1) := by decide +kernel
theorem dX11_pushes_1 : decode cX11_pushes 1 = .ok (.getfield 7, 3) := by decide +kernel
theorem dX11_pushes_4 : decode cX11_pushes 4 = .ok (.iload_n 1, 1) := by decide +kernel
theorem dX11_pushes_5 : decode cX11_pushes 5 = .ok (.iaload, 1) := by decide +kernel
theorem dX11_pushes_6 : decode cX11_pushes 6 = .ok (.bipush 20, 2) := by decide +kernel
theorem dX11_pushes_8 : decode cX11_pushes 8 = .ok (.if_icmp .ne 50, 3) := by decide +kernel
theorem dX11_pushes_11 : decode cX11_pushes 11 = .ok (.iload_n 2, 1) := by decide +kernel
theorem dX11_pushes_12 : decode cX11_pushes 12 = .ok (.istore 4, 2) := by decide +kernel
theorem dX11_pushes_14 : decode cX11_pushes 14 = .ok (.iload 4, 2) := by decide +kernel
theorem dX11_pushes_16 : decode cX11_pushes 16 = .ok (.iload_n 2, 1) := by decide +kernel
theorem dX11_pushes_17 : decode cX11_pushes 17 = .ok (.sipush 2489, 3) := by decide +kernel
theorem dX11_pushes_20 : decode cX11_pushes 20 = .ok (.iadd, 1) := by decide +kernel
theorem dX11_pushes_21 : decode cX11_pushes 21 = .ok (.if_icmp .ge 27, 3) := by decide +kernel
theorem dX11_pushes_24 : decode cX11_pushes 24 = .ok (.aload_n 0, 1) := by decide +kernel
theorem dX11_pushes_25 : decode cX11_pushes 25 = .ok (.getfield 7, 3) := by decide +kernel
theorem dX11_pushes_28 : decode cX11_pushes 28 = .ok (.iload 4, 2) := by decide +kernel
theorem dX11_pushes_30 : decode cX11_pushes 30 = .ok (.aload_n 0, 1) := by decide +kernel
theorem dX11_pushes_31 : decode cX11_pushes 31 = .ok (.getfield 7, 3) := by decide +kernel
theorem dX11_pushes_34 : decode cX11_pushes 34 = .ok (.iload 4, 2) := by decide +kernel
theorem dX11_pushes_36 : decode cX11_pushes 36 = .ok (.sipush 131, 3) := by decide +kernel
theorem dX11_pushes_39 : decode cX11_pushes 39 = .ok (.iadd, 1) := by decide +kernel
theorem dX11_pushes_40 : decode cX11_pushes 40 = .ok (.iaload, 1) := by decide +kernel
theorem dX11_pushes_41 : decode cX11_pushes 41 = .ok (.iastore, 1) := by decide +kernel
theorem dX11_pushes_42 : decode cX11_pushes 42 = .ok (.iinc 4 1, 3) := by decide +kernel
theorem dX11_pushes_45 : decode cX11_pushes 45 = .ok (.goto (-31), 3) := by decide +kernel
theorem dX11_pushes_48 : decode cX11_pushes 48 = .ok (.aload_n 0, 1) := by decide +kernel
theorem dX11_pushes_49 : decode cX11_pushes 49 = .ok (.getfield 7, 3) := by decide +kernel
theorem dX11_pushes_52 : decode cX11_pushes 52 = .ok (.iload_n 1, 1) := by decide +kernel
theorem dX11_pushes_53 : decode cX11_pushes 53 = .ok (.dup2, 1) := by decide +kernel
theorem dX11_pushes_54 : decode cX11_pushes 54 = .ok (.iaload, 1) := by decide +kernel
theorem dX11_pushes_55 : decode cX11_pushes 55 = .ok (.iconst 1, 1) := by decide +kernel
theorem dX11_pushes_56 : decode cX11_pushes 56 = .ok (.isub, 1) := by decide +kernel
theorem dX11_pushes_57 : decode cX11_pushes 57 = .ok (.iastore, 1) := by decide +kernel
theorem dX11_pushes_58 : decode cX11_pushes 58 = .ok (.iload_n 2, 1) := by decide +kernel
theorem dX11_pushes_59 : decode cX11_pushes 59 = .ok (.sipush 131, 3) := by decide +kernel
theorem dX11_pushes_62 : decode cX11_pushes 62 = .ok (.aload_n 0, 1) := by decide +kernel
theorem dX11_pushes_63 : decode cX11_pushes 63 = .ok (.getfield 7, 3) := by decide +kernel
theorem dX11_pushes_66 : decode cX11_pushes 66 = .ok (.iload_n 1, 1) := by decide +kernel
theorem dX11_pushes_67 : decode cX11_pushes 67 = .ok (.iaload, 1) := by decide +kernel
theorem dX11_pushes_68 : decode cX11_pushes 68 = .ok (.imul, 1) := by decide +kernel
theorem dX11_pushes_69 : decode cX11_pushes 69 = .ok (.iadd, 1) := by decide +kernel
theorem dX11_pushes_70 : decode cX11_pushes 70 = .ok (.istore 4, 2) := by decide +kernel
theorem dX11_pushes_72 : decode cX11_pushes 72 = .ok (.aload_n 0, 1) := by decide +kernel
theorem dX11_pushes_73 : decode cX11_pushes 73 = .ok (.getfield 7, 3) := by decide +kernel
theorem dX11_pushes_76 : decode cX11_pushes 76 = .ok (.iload 4, 2) := by decide +kernel
theorem dX11_pushes_78 : decode cX11_pushes 78 = .ok (.iload_n 3, 1) := by decide +kernel
theorem dX11_pushes_79 : decode cX11_pushes 79 = .ok (.iastore, 1) := by decide +kernel
theorem dX11_pushes_80 : decode cX11_pushes 80 = .ok (.aload_n 0, 1) := by decide +kernel
theorem dX11_pushes_81 : decode cX11_pushes 81 = .ok (.sipush 130, 3) := by decide +kernel
theorem dX11_pushes_84 : decode cX11_pushes 84 = .ok (.iload_n 3, 1) := by decide +kernel
theorem dX11_pushes_85 : decode cX11_pushes 85 = .ok (.imul, 1) := by decide +kernel
theorem dX11_pushes_86 : decode cX11_pushes 86 = .ok (.iload 4, 2) := by decide +kernel
theorem dX11_pushes_88 : decode cX11_pushes 88 = .ok (.iconst 1, 1) := by decide +kernel
theorem dX11_pushes_89 : decode cX11_pushes 89 = .ok (.iadd, 1) := by decide +kernel
theorem dX11_pushes_90 : decode cX11_pushes 90 = .ok (.invokevirtual 131, 3) := by decide +kernel
theorem dX11_pushes_93 : decode cX11_pushes 93 = .ok (.aload_n 0, 1) := by decide +kernel
theorem dX11_pushes_94 : decode cX11_pushes 94 = .ok (.getfield 7, 3) := by decide +kernel
theorem dX11_pushes_97 : decode cX11_pushes 97 = .ok (.iload_n 1, 1) := by decide +kernel
theorem dX11_pushes_98 : decode cX11_pushes 98 = .ok (.dup2, 1) := by decide +kernel
theorem dX11_pushes_99 : decode cX11_pushes 99 = .ok (.iaload, 1) := by decide +kernel
theorem dX11_pushes_100 : decode cX11_pushes 100 = .ok (.iconst 1, 1) := by decide +kernel
theorem dX11_pushes_101 : decode cX11_pushes 101 = .ok (.iadd, 1) := by decide +kernel
theorem dX11_pushes_102 : decode cX11_pushes 102 = .ok (.iastore, 1) := by decide +kernel
theorem dX11_pushes_103 : decode cX11_pushes 103 = .ok (.return_, 1) := by decide +kernel
theorem dX11_acts_0 : decode cX11_acts 0 = .ok (.aload_n 0, 1) := by decide +kernel
theorem dX11_acts_1 : decode cX11_acts 1 = .ok (.sipush 820, 3) := by decide +kernel
theorem dX11_acts_4 : decode cX11_acts 4 = .ok (.sipush 830, 3) := by decide +kernel
theorem dX11_acts_7 : decode cX11_acts 7 = .ok (.iload_n 1, 1) := by decide +kernel
theorem dX11_acts_8 : decode cX11_acts 8 = .ok (.invokevirtual 135, 3) := by decide +kernel
theorem dX11_acts_11 : decode cX11_acts 11 = .ok (.aload_n 0, 1) := by decide +kernel
theorem dX11_acts_12 : decode cX11_acts 12 = .ok (.getfield 7, 3) := by decide +kernel
theorem dX11_acts_15 : decode cX11_acts 15 = .ok (.sipush 821, 3) := by decide +kernel
theorem dX11_acts_18 : decode cX11_acts 18 = .ok (.iconst 0, 1) := by decide +kernel
theorem dX11_acts_19 : decode cX11_acts 19 = .ok (.iastore, 1) := by decide +kernel
theorem dX11_acts_20 : decode cX11_acts 20 = .ok (.return_, 1) := by decide +kernel
theorem dX11_undo_0 : decode cX11_undo 0 = .ok (.iload_n 1, 1) := by decide +kernel
theorem dX11_undo_1 : decode cX11_undo 1 = .ok (.ifCond .eq 9, 3) := by decide +kernel
theorem dX11_undo_4 : decode cX11_undo 4 = .ok (.sipush 820, 3) := by decide +kernel
theorem dX11_undo_7 : decode cX11_undo 7 = .ok (.goto 6, 3) := by decide +kernel
theorem dX11_undo_10 : decode cX11_undo 10 = .ok (.sipush 821, 3) := by decide +kernel
theorem dX11_undo_13 : decode cX11_undo 13 = .ok (.istore_n 2, 1) := by decide +kernel
theorem dX11_undo_14 : decode cX11_undo 14 = .ok (.iload_n 1, 1) := by decide +kernel
theorem dX11_undo_15 : decode cX11_undo 15 = .ok (.ifCond .eq 9, 3) := by decide +kernel
theorem dX11_undo_18 : decode cX11_undo 18 = .ok (.sipush 830, 3) := by decide +kernel
theorem dX11_undo_21 : decode cX11_undo 21 = .ok (.goto 6, 3) := by decide +kernel
theorem dX11_undo_24 : decode cX11_undo 24 = .ok (.sipush 3450, 3) := by decide +kernel
theorem dX11_undo_27 : decode cX11_undo 27 = .ok (.istore_n 3, 1) := by decide +kernel
theorem dX11_undo_28 : decode cX11_undo 28 = .ok (.aload_n 0, 1) := by decide +kernel
theorem dX11_undo_29 : decode cX11_undo 29 = .ok (.getfield 7, 3) := by decide +kernel
theorem dX11_undo_32 : decode cX11_undo 32 = .ok (.iload_n 2, 1) := by decide +kernel
theorem dX11_undo_33 : decode cX11_undo 33 = .ok (.iaload, 1) := by decide +kernel
theorem dX11_undo_34 : decode cX11_undo 34 = .ok (.ifCond .ne 5, 3) := by decide +kernel
theorem dX11_undo_37 : decode cX11_undo 37 = .ok (.iconst (-1), 1) := by decide +kernel
theorem dX11_undo_38 : decode cX11_undo 38 = .ok (.ireturn, 1) := by decide +kernel
theorem dX11_undo_39 : decode cX11_undo 39 = .ok (.aload_n 0, 1) := by decide +kernel
theorem dX11_undo_40 : decode cX11_undo 40 = .ok (.getfield 7, 3) := by decide +kernel
theorem dX11_undo_43 : decode cX11_undo 43 = .ok (.iload_n 2, 1) := by decide +kernel
theorem dX11_undo_44 : decode cX11_undo 44 = .ok (.dup2, 1) := by decide +kernel
theorem dX11_undo_45 : decode cX11_undo 45 = .ok (.iaload, 1) := by decide +kernel
theorem dX11_undo_46 : decode cX11_undo 46 = .ok (.iconst 1, 1) := by decide +kernel
theorem dX11_undo_47 : decode cX11_undo 47 = .ok (.isub, 1) := by decide +kernel
theorem dX11_undo_48 : decode cX11_undo 48 = .ok (.iastore, 1) := by decide +kernel
theorem dX11_undo_49 : decode cX11_undo 49 = .ok (.iload_n 3, 1) := by decide +kernel
theorem dX11_undo_50 : decode cX11_undo 50 = .ok (.sipush 131, 3) := by decide +kernel
theorem dX11_undo_53 : decode cX11_undo 53 = .ok (.aload_n 0, 1) := by decide +kernel
theorem dX11_undo_54 : decode cX11_undo 54 = .ok (.getfield 7, 3) := by decide +kernel
theorem dX11_undo_57 : decode cX11_undo 57 = .ok (.iload_n 2, 1) := by decide +kernel
theorem dX11_undo_58 : decode cX11_undo 58 = .ok (.iaload, 1) := by decide +kernel
theorem dX11_undo_59 : decode cX11_undo 59 = .ok (.imul, 1) := by decide +kernel
theorem dX11_undo_60 : decode cX11_undo 60 = .ok (.iadd, 1) := by decide +kernel
theorem dX11_undo_61 : decode cX11_undo 61 = .ok (.istore 4, 2) := by decide +kernel
theorem dX11_undo_63 : decode cX11_undo 63 = .ok (.aload_n 0, 1) := by decide +kernel
theorem dX11_undo_64 : decode cX11_undo 64 = .ok (.getfield 7, 3) := by decide +kernel
theorem dX11_undo_67 : decode cX11_undo 67 = .ok (.iload 4, 2) := by decide +kernel
theorem dX11_undo_69 : decode cX11_undo 69 = .ok (.iaload, 1) := by decide +kernel
theorem dX11_undo_70 : decode cX11_undo 70 = .ok (.istore 5, 2) := by decide +kernel
theorem dX11_undo_72 : decode cX11_undo 72 = .ok (.aload_n 0, 1) := by decide +kernel
theorem dX11_undo_73 : decode cX11_undo 73 = .ok (.iload_n 1, 1) := by decide +kernel
theorem dX11_undo_74 : decode cX11_undo 74 = .ok (.ifCond .eq 9, 3) := by decide +kernel
theorem dX11_undo_77 : decode cX11_undo 77 = .ok (.sipush 821, 3) := by decide +kernel
theorem dX11_undo_80 : decode cX11_undo 80 = .ok (.goto 6, 3) := by decide +kernel
theorem dX11_undo_83 : decode cX11_undo 83 = .ok (.sipush 820, 3) := by decide +kernel
theorem dX11_undo_86 : decode cX11_undo 86 = .ok (.iload_n 1, 1) := by decide +kernel
theorem dX11_undo_87 : decode cX11_undo 87 = .ok (.ifCond .eq 9, 3) := by decide +kernel
theorem dX11_undo_90 : decode cX11_undo 90 = .ok (.sipush 3450, 3) := by decide +kernel
theorem dX11_undo_93 : decode cX11_undo 93 = .ok (.goto 6, 3) := by decide +kernel
theorem dX11_undo_96 : decode cX11_undo 96 = .ok (.sipush 830, 3) := by decide +kernel
theorem dX11_undo_99 : decode cX11_undo 99 = .ok (.iload 5, 2) := by decide +kernel
theorem dX11_undo_101 : decode cX11_undo 101 = .ok (.invokevirtual 135, 3) := by decide +kernel
theorem dX11_undo_104 : decode cX11_undo 104 = .ok (.aload_n 0, 1) := by decide +kernel
theorem dX11_undo_105 : decode cX11_undo 105 = .ok (.iload 4, 2) := by decide +kernel
theorem dX11_undo_107 : decode cX11_undo 107 = .ok (.iconst 1, 1) := by decide +kernel
theorem dX11_undo_108 : decode cX11_undo 108 = .ok (.iadd, 1) := by decide +kernel
theorem dX11_undo_109 : decode cX11_undo 109 = .ok (.sipush 130, 3) := by decide +kernel
theorem dX11_undo_112 : decode cX11_undo 112 = .ok (.iload 5, 2) := by decide +kernel
theorem dX11_undo_114 : decode cX11_undo 114 = .ok (.imul, 1) := by decide +kernel
theorem dX11_undo_115 : decode cX11_undo 115 = .ok (.invokevirtual 131, 3) := by decide +kernel
theorem dX11_undo_118 : decode cX11_undo 118 = .ok (.iload 5, 2) := by decide +kernel
theorem dX11_undo_120 : decode cX11_undo 120 = .ok (.ireturn, 1) := by decide +kernel
theorem dX11_becomes_0 : decode cX11_becomes 0 = .ok (.aload_n 0, 1) := by decide +kernel
theorem dX11_becomes_1 : decode cX11_becomes 1 = .ok (.iload_n 1, 1) := by decide +kernel
theorem dX11_becomes_2 : decode cX11_becomes 2 = .ok (.invokevirtual 139, 3) := by decide +kernel
theorem dX11_becomes_5 : decode cX11_becomes 5 = .ok (.aload_n 0, 1) := by decide +kernel
theorem dX11_becomes_6 : decode cX11_becomes 6 = .ok (.getfield 7, 3) := by decide +kernel
theorem dX11_becomes_9 : decode cX11_becomes 9 = .ok (.sipush 130, 3) := by decide +kernel
theorem dX11_becomes_12 : decode cX11_becomes 12 = .ok (.iload_n 1, 1) := by decide +kernel
theorem dX11_becomes_13 : decode cX11_becomes 13 = .ok (.imul, 1) := by decide +kernel
theorem dX11_becomes_14 : decode cX11_becomes 14 = .ok (.iconst 0, 1) := by decide +kernel
theorem dX11_becomes_15 : decode cX11_becomes 15 = .ok (.iadd, 1) := by decide +kernel
theorem dX11_becomes_16 : decode cX11_becomes 16 = .ok (.aload_n 0, 1) := by decide +kernel
theorem dX11_becomes_17 : decode cX11_becomes 17 = .ok (.getfield 106, 3) := by decide +kernel
theorem dX11_becomes_20 : decode cX11_becomes 20 = .ok (.iastore, 1) := by decide +kernel
theorem dX11_becomes_21 : decode cX11_becomes 21 = .ok (.aload_n 0, 1) := by decide +kernel
theorem dX11_becomes_22 : decode cX11_becomes 22 = .ok (.getfield 7, 3) := by decide +kernel
theorem dX11_becomes_25 : decode cX11_becomes 25 = .ok (.sipush 130, 3) := by decide +kernel
theorem dX11_becomes_28 : decode cX11_becomes 28 = .ok (.iload_n 1, 1) := by decide +kernel
theorem dX11_becomes_29 : decode cX11_becomes 29 = .ok (.imul, 1) := by decide +kernel
theorem dX11_becomes_30 : decode cX11_becomes 30 = .ok (.iconst 1, 1) := by decide +kernel
theorem dX11_becomes_31 : decode cX11_becomes 31 = .ok (.iadd, 1) := by decide +kernel
theorem dX11_becomes_32 : decode cX11_becomes 32 = .ok (.aload_n 0, 1) := by decide +kernel
theorem dX11_becomes_33 : decode cX11_becomes 33 = .ok (.getfield 109, 3) := by decide +kernel
theorem dX11_becomes_36 : decode cX11_becomes 36 = .ok (.iastore, 1) := by decide +kernel
theorem dX11_becomes_37 : decode cX11_becomes 37 = .ok (.iconst 0, 1) := by decide +kernel
theorem dX11_becomes_38 : decode cX11_becomes 38 = .ok (.istore_n 3, 1) := by decide +kernel
theorem dX11_becomes_39 : decode cX11_becomes 39 = .ok (.iload_n 3, 1) := by decide +kernel
theorem dX11_becomes_40 : decode cX11_becomes 40 = .ok (.bipush 125, 2) := by decide +kernel
theorem dX11_becomes_42 : decode cX11_becomes 42 = .ok (.if_icmp .ge 26, 3) := by decide +kernel
theorem dX11_becomes_45 : decode cX11_becomes 45 = .ok (.aload_n 0, 1) := by decide +kernel
theorem dX11_becomes_46 : decode cX11_becomes 46 = .ok (.getfield 7, 3) := by decide +kernel
theorem dX11_becomes_49 : decode cX11_becomes 49 = .ok (.sipush 130, 3) := by decide +kernel
theorem dX11_becomes_52 : decode cX11_becomes 52 = .ok (.iload_n 1, 1) := by decide +kernel
theorem dX11_becomes_53 : decode cX11_becomes 53 = .ok (.imul, 1) := by decide +kernel
theorem dX11_becomes_54 : decode cX11_becomes 54 = .ok (.iconst 2, 1) := by decide +kernel
theorem dX11_becomes_55 : decode cX11_becomes 55 = .ok (.iadd, 1) := by decide +kernel
theorem dX11_becomes_56 : decode cX11_becomes 56 = .ok (.iload_n 3, 1) := by decide +kernel
theorem dX11_becomes_57 : decode cX11_becomes 57 = .ok (.iadd, 1) := by decide +kernel
theorem dX11_becomes_58 : decode cX11_becomes 58 = .ok (.aload_n 2, 1) := by decide +kernel
theorem dX11_becomes_59 : decode cX11_becomes 59 = .ok (.iload_n 3, 1) := by decide +kernel
theorem dX11_becomes_60 : decode cX11_becomes 60 = .ok (.iaload, 1) := by decide +kernel
theorem dX11_becomes_61 : decode cX11_becomes 61 = .ok (.iastore, 1) := by decide +kernel
theorem dX11_becomes_62 : decode cX11_becomes 62 = .ok (.iinc 3 1, 3) := by decide +kernel
theorem dX11_becomes_65 : decode cX11_becomes 65 = .ok (.goto (-26), 3) := by decide +kernel
theorem dX11_becomes_68 : decode cX11_becomes 68 = .ok (.return_, 1) := by decide +kernel
theorem dX11_digit_0 : decode cX11_digit 0 = .ok (.iload_n 1, 1) := by decide +kernel
theorem dX11_digit_1 : decode cX11_digit 1 = .ok (.invokestatic 143, 3) := by decide +kernel
theorem dX11_digit_4 : decode cX11_digit 4 = .ok (.ifCond .ne 5, 3) := by decide +kernel
theorem dX11_digit_7 : decode cX11_digit 7 = .ok (.iconst 0, 1) := by decide +kernel
theorem dX11_digit_8 : decode cX11_digit 8 = .ok (.ireturn, 1) := by decide +kernel
theorem dX11_digit_9 : decode cX11_digit 9 = .ok (.aload_n 0, 1) := by decide +kernel
theorem dX11_digit_10 : decode cX11_digit 10 = .ok (.getfield 7, 3) := by decide +kernel
theorem dX11_digit_13 : decode cX11_digit 13 = .ok (.sipush 130, 3) := by decide +kernel
theorem dX11_digit_16 : decode cX11_digit 16 = .ok (.iload_n 1, 1) := by decide +kernel
theorem dX11_digit_17 : decode cX11_digit 17 = .ok (.imul, 1) := by decide +kernel
theorem dX11_digit_18 : decode cX11_digit 18 = .ok (.iconst 1, 1) := by decide +kernel
theorem dX11_digit_19 : decode cX11_digit 19 = .ok (.iadd, 1) := by decide +kernel
theorem dX11_digit_20 : decode cX11_digit 20 = .ok (.iaload, 1) := by decide +kernel
theorem dX11_digit_21 : decode cX11_digit 21 = .ok (.iconst 1, 1) := by decide +kernel
theorem dX11_digit_22 : decode cX11_digit 22 = .ok (.isub, 1) := by decide +kernel
theorem dX11_digit_23 : decode cX11_digit 23 = .ok (.istore 6, 2) := by decide +kernel
theorem dX11_digit_25 : decode cX11_digit 25 = .ok (.iload_n 2, 1) := by decide +kernel
theorem dX11_digit_26 : decode cX11_digit 26 = .ok (.iconst 0, 1) := by decide +kernel
theorem dX11_digit_27 : decode cX11_digit 27 = .ok (.iload 6, 2) := by decide +kernel
theorem dX11_digit_29 : decode cX11_digit 29 = .ok (.invokestatic 98, 3) := by decide +kernel
theorem dX11_digit_32 : decode cX11_digit 32 = .ok (.ifCond .eq 47, 3) := by decide +kernel
theorem dX11_digit_35 : decode cX11_digit 35 = .ok (.iload_n 3, 1) := by decide +kernel
theorem dX11_digit_36 : decode cX11_digit 36 = .ok (.iconst 0, 1) := by decide +kernel
theorem dX11_digit_37 : decode cX11_digit 37 = .ok (.iload 6, 2) := by decide +kernel
theorem dX11_digit_39 : decode cX11_digit 39 = .ok (.invokestatic 98, 3) := by decide +kernel
theorem dX11_digit_42 : decode cX11_digit 42 = .ok (.ifCond .eq 37, 3) := by decide +kernel
theorem dX11_digit_45 : decode cX11_digit 45 = .ok (.iload 4, 2) := by decide +kernel
theorem dX11_digit_47 : decode cX11_digit 47 = .ok (.iconst 0, 1) := by decide +kernel
theorem dX11_digit_48 : decode cX11_digit 48 = .ok (.iload 6, 2) := by decide +kernel
theorem dX11_digit_50 : decode cX11_digit 50 = .ok (.invokestatic 98, 3) := by decide +kernel
theorem dX11_digit_53 : decode cX11_digit 53 = .ok (.ifCond .eq 26, 3) := by decide +kernel
theorem dX11_digit_56 : decode cX11_digit 56 = .ok (.iload 5, 2) := by decide +kernel
theorem dX11_digit_58 : decode cX11_digit 58 = .ok (.iconst 0, 1) := by decide +kernel
theorem dX11_digit_59 : decode cX11_digit 59 = .ok (.aload_n 0, 1) := by decide +kernel
theorem dX11_digit_60 : decode cX11_digit 60 = .ok (.getfield 7, 3) := by decide +kernel
theorem dX11_digit_63 : decode cX11_digit 63 = .ok (.sipush 130, 3) := by decide +kernel
theorem dX11_digit_66 : decode cX11_digit 66 = .ok (.iload_n 1, 1) := by decide +kernel
theorem dX11_digit_67 : decode cX11_digit 67 = .ok (.imul, 1) := by decide +kernel
theorem dX11_digit_68 : decode cX11_digit 68 = .ok (.iconst 0, 1) := by decide +kernel
theorem dX11_digit_69 : decode cX11_digit 69 = .ok (.iadd, 1) := by decide +kernel
theorem dX11_digit_70 : decode cX11_digit 70 = .ok (.iaload, 1) := by decide +kernel
theorem dX11_digit_71 : decode cX11_digit 71 = .ok (.iconst 1, 1) := by decide +kernel
theorem dX11_digit_72 : decode cX11_digit 72 = .ok (.isub, 1) := by decide +kernel
theorem dX11_digit_73 : decode cX11_digit 73 = .ok (.invokestatic 98, 3) := by decide +kernel
theorem dX11_digit_76 : decode cX11_digit 76 = .ok (.ifCond .ne 5, 3) := by decide +kernel
theorem dX11_digit_79 : decode cX11_digit 79 = .ok (.iconst 0, 1) := by decide +kernel
theorem dX11_digit_80 : decode cX11_digit 80 = .ok (.ireturn, 1) := by decide +kernel
theorem dX11_digit_81 : decode cX11_digit 81 = .ok (.aload_n 0, 1) := by decide +kernel
theorem dX11_digit_82 : decode cX11_digit 82 = .ok (.iload_n 1, 1) := by decide +kernel
theorem dX11_digit_83 : decode cX11_digit 83 = .ok (.invokevirtual 139, 3) := by decide +kernel
theorem dX11_digit_86 : decode cX11_digit 86 = .ok (.aload_n 0, 1) := by decide +kernel
theorem dX11_digit_87 : decode cX11_digit 87 = .ok (.getfield 7, 3) := by decide +kernel
theorem dX11_digit_90 : decode cX11_digit 90 = .ok (.sipush 130, 3) := by decide +kernel
theorem dX11_digit_93 : decode cX11_digit 93 = .ok (.iload_n 1, 1) := by decide +kernel
theorem dX11_digit_94 : decode cX11_digit 94 = .ok (.imul, 1) := by decide +kernel
theorem dX11_digit_95 : decode cX11_digit 95 = .ok (.iconst 2, 1) := by decide +kernel
theorem dX11_digit_96 : decode cX11_digit 96 = .ok (.iadd, 1) := by decide +kernel
theorem dX11_digit_97 : decode cX11_digit 97 = .ok (.bipush 25, 2) := by decide +kernel
theorem dX11_digit_99 : decode cX11_digit 99 = .ok (.iload_n 2, 1) := by decide +kernel
theorem dX11_digit_100 : decode cX11_digit 100 = .ok (.imul, 1) := by decide +kernel
theorem dX11_digit_101 : decode cX11_digit 101 = .ok (.iadd, 1) := by decide +kernel
theorem dX11_digit_102 : decode cX11_digit 102 = .ok (.iconst 5, 1) := by decide +kernel
theorem dX11_digit_103 : decode cX11_digit 103 = .ok (.iload_n 3, 1) := by decide +kernel
theorem dX11_digit_104 : decode cX11_digit 104 = .ok (.imul, 1) := by decide +kernel
theorem dX11_digit_105 : decode cX11_digit 105 = .ok (.iadd, 1) := by decide +kernel
theorem dX11_digit_106 : decode cX11_digit 106 = .ok (.iload 4, 2) := by decide +kernel
theorem dX11_digit_108 : decode cX11_digit 108 = .ok (.iadd, 1) := by decide +kernel
theorem dX11_digit_109 : decode cX11_digit 109 = .ok (.iload 5, 2) := by decide +kernel
theorem dX11_digit_111 : decode cX11_digit 111 = .ok (.iastore, 1) := by decide +kernel
theorem dX11_digit_112 : decode cX11_digit 112 = .ok (.iconst 1, 1) := by decide +kernel
theorem dX11_digit_113 : decode cX11_digit 113 = .ok (.ireturn, 1) := by decide +kernel
theorem dX11_cube_0 : decode cX11_cube 0 = .ok (.iload_n 1, 1) := by decide +kernel
theorem dX11_cube_1 : decode cX11_cube 1 = .ok (.invokestatic 143, 3) := by decide +kernel
theorem dX11_cube_4 : decode cX11_cube 4 = .ok (.ifCond .ne 5, 3) := by decide +kernel
theorem dX11_cube_7 : decode cX11_cube 7 = .ok (.iconst (-1), 1) := by decide +kernel
theorem dX11_cube_8 : decode cX11_cube 8 = .ok (.ireturn, 1) := by decide +kernel
theorem dX11_cube_9 : decode cX11_cube 9 = .ok (.aload_n 0, 1) := by decide +kernel
theorem dX11_cube_10 : decode cX11_cube 10 = .ok (.getfield 7, 3) := by decide +kernel
theorem dX11_cube_13 : decode cX11_cube 13 = .ok (.sipush 130, 3) := by decide +kernel
theorem dX11_cube_16 : decode cX11_cube 16 = .ok (.iload_n 1, 1) := by decide +kernel
theorem dX11_cube_17 : decode cX11_cube 17 = .ok (.imul, 1) := by decide +kernel
theorem dX11_cube_18 : decode cX11_cube 18 = .ok (.iconst 1, 1) := by decide +kernel
theorem dX11_cube_19 : decode cX11_cube 19 = .ok (.iadd, 1) := by decide +kernel
theorem dX11_cube_20 : decode cX11_cube 20 = .ok (.iaload, 1) := by decide +kernel
theorem dX11_cube_21 : decode cX11_cube 21 = .ok (.iconst 1, 1) := by decide +kernel
theorem dX11_cube_22 : decode cX11_cube 22 = .ok (.isub, 1) := by decide +kernel
theorem dX11_cube_23 : decode cX11_cube 23 = .ok (.istore 5, 2) := by decide +kernel
theorem dX11_cube_25 : decode cX11_cube 25 = .ok (.iload_n 2, 1) := by decide +kernel
theorem dX11_cube_26 : decode cX11_cube 26 = .ok (.iconst 0, 1) := by decide +kernel
theorem dX11_cube_27 : decode cX11_cube 27 = .ok (.iload 5, 2) := by decide +kernel
theorem dX11_cube_29 : decode cX11_cube 29 = .ok (.invokestatic 98, 3) := by decide +kernel
theorem dX11_cube_32 : decode cX11_cube 32 = .ok (.ifCond .eq 51, 3) := by decide +kernel
theorem dX11_cube_35 : decode cX11_cube 35 = .ok (.iload_n 3, 1) := by decide +kernel
theorem dX11_cube_36 : decode cX11_cube 36 = .ok (.iconst 0, 1) := by decide +kernel
theorem dX11_cube_37 : decode cX11_cube 37 = .ok (.iload 5, 2) := by decide +kernel
theorem dX11_cube_39 : decode cX11_cube 39 = .ok (.invokestatic 98, 3) := by decide +kernel
theorem dX11_cube_42 : decode cX11_cube 42 = .ok (.ifCond .eq 41, 3) := by decide +kernel
theorem dX11_cube_45 : decode cX11_cube 45 = .ok (.iload 4, 2) := by decide +kernel
theorem dX11_cube_47 : decode cX11_cube 47 = .ok (.iconst 0, 1) := by decide +kernel
theorem dX11_cube_48 : decode cX11_cube 48 = .ok (.iload 5, 2) := by decide +kernel
theorem dX11_cube_50 : decode cX11_cube 50 = .ok (.invokestatic 98, 3) := by decide +kernel
theorem dX11_cube_53 : decode cX11_cube 53 = .ok (.ifCond .eq 30, 3) := by decide +kernel
theorem dX11_cube_56 : decode cX11_cube 56 = .ok (.aload_n 0, 1) := by decide +kernel
theorem dX11_cube_57 : decode cX11_cube 57 = .ok (.getfield 7, 3) := by decide +kernel
theorem dX11_cube_60 : decode cX11_cube 60 = .ok (.sipush 130, 3) := by decide +kernel
theorem dX11_cube_63 : decode cX11_cube 63 = .ok (.iload_n 1, 1) := by decide +kernel
theorem dX11_cube_64 : decode cX11_cube 64 = .ok (.imul, 1) := by decide +kernel
theorem dX11_cube_65 : decode cX11_cube 65 = .ok (.iconst 2, 1) := by decide +kernel
theorem dX11_cube_66 : decode cX11_cube 66 = .ok (.iadd, 1) := by decide +kernel
theorem dX11_cube_67 : decode cX11_cube 67 = .ok (.bipush 25, 2) := by decide +kernel
theorem dX11_cube_69 : decode cX11_cube 69 = .ok (.iload_n 2, 1) := by decide +kernel
theorem dX11_cube_70 : decode cX11_cube 70 = .ok (.imul, 1) := by decide +kernel
theorem dX11_cube_71 : decode cX11_cube 71 = .ok (.iadd, 1) := by decide +kernel
theorem dX11_cube_72 : decode cX11_cube 72 = .ok (.iconst 5, 1) := by decide +kernel
theorem dX11_cube_73 : decode cX11_cube 73 = .ok (.iload_n 3, 1) := by decide +kernel
theorem dX11_cube_74 : decode cX11_cube 74 = .ok (.imul, 1) := by decide +kernel
theorem dX11_cube_75 : decode cX11_cube 75 = .ok (.iadd, 1) := by decide +kernel
theorem dX11_cube_76 : decode cX11_cube 76 = .ok (.iload 4, 2) := by decide +kernel
theorem dX11_cube_78 : decode cX11_cube 78 = .ok (.iadd, 1) := by decide +kernel
theorem dX11_cube_79 : decode cX11_cube 79 = .ok (.iaload, 1) := by decide +kernel
theorem dX11_cube_80 : decode cX11_cube 80 = .ok (.goto 4, 3) := by decide +kernel
theorem dX11_cube_83 : decode cX11_cube 83 = .ok (.iconst (-1), 1) := by decide +kernel
theorem dX11_cube_84 : decode cX11_cube 84 = .ok (.ireturn, 1) := by decide +kernel
theorem dX11_turns_0 : decode cX11_turns 0 = .ok (.iconst 0, 1) := by decide +kernel
theorem dX11_turns_1 : decode cX11_turns 1 = .ok (.istore_n 3, 1) := by decide +kernel
theorem dX11_turns_2 : decode cX11_turns 2 = .ok (.iload_n 3, 1) := by decide +kernel
theorem dX11_turns_3 : decode cX11_turns 3 = .ok (.iconst 5, 1) := by decide +kernel
theorem dX11_turns_4 : decode cX11_turns 4 = .ok (.if_icmp .ge 173, 3) := by decide +kernel
theorem dX11_turns_7 : decode cX11_turns 7 = .ok (.iconst 0, 1) := by decide +kernel
theorem dX11_turns_8 : decode cX11_turns 8 = .ok (.istore 4, 2) := by decide +kernel
theorem dX11_turns_10 : decode cX11_turns 10 = .ok (.iload 4, 2) := by decide +kernel
theorem dX11_turns_12 : decode cX11_turns 12 = .ok (.iconst 5, 1) := by decide +kernel
theorem dX11_turns_13 : decode cX11_turns 13 = .ok (.if_icmp .ge 158, 3) := by decide +kernel
theorem dX11_turns_16 : decode cX11_turns 16 = .ok (.iconst 0, 1) := by decide +kernel
theorem dX11_turns_17 : decode cX11_turns 17 = .ok (.istore 5, 2) := by decide +kernel
theorem dX11_turns_19 : decode cX11_turns 19 = .ok (.iload 5, 2) := by decide +kernel
theorem dX11_turns_21 : decode cX11_turns 21 = .ok (.iconst 5, 1) := by decide +kernel
theorem dX11_turns_22 : decode cX11_turns 22 = .ok (.if_icmp .ge 143, 3) := by decide +kernel
theorem dX11_turns_25 : decode cX11_turns 25 = .ok (.iload_n 2, 1) := by decide +kernel
theorem dX11_turns_26 : decode cX11_turns 26 = .ok (.ifCond .ne 18, 3) := by decide +kernel
theorem dX11_turns_29 : decode cX11_turns 29 = .ok (.bipush 25, 2) := by decide +kernel
theorem dX11_turns_31 : decode cX11_turns 31 = .ok (.iload_n 3, 1) := by decide +kernel
theorem dX11_turns_32 : decode cX11_turns 32 = .ok (.imul, 1) := by decide +kernel
theorem dX11_turns_33 : decode cX11_turns 33 = .ok (.iconst 5, 1) := by decide +kernel
theorem dX11_turns_34 : decode cX11_turns 34 = .ok (.iload 4, 2) := by decide +kernel
theorem dX11_turns_36 : decode cX11_turns 36 = .ok (.imul, 1) := by decide +kernel
theorem dX11_turns_37 : decode cX11_turns 37 = .ok (.iadd, 1) := by decide +kernel
theorem dX11_turns_38 : decode cX11_turns 38 = .ok (.iload 5, 2) := by decide +kernel
theorem dX11_turns_40 : decode cX11_turns 40 = .ok (.iadd, 1) := by decide +kernel
theorem dX11_turns_41 : decode cX11_turns 41 = .ok (.goto 95, 3) := by decide +kernel
theorem dX11_turns_44 : decode cX11_turns 44 = .ok (.iload_n 2, 1) := by decide +kernel
theorem dX11_turns_45 : decode cX11_turns 45 = .ok (.iconst 1, 1) := by decide +kernel
theorem dX11_turns_46 : decode cX11_turns 46 = .ok (.if_icmp .ne 18, 3) := by decide +kernel
theorem dX11_turns_49 : decode cX11_turns 49 = .ok (.bipush 25, 2) := by decide +kernel
theorem dX11_turns_51 : decode cX11_turns 51 = .ok (.iload 4, 2) := by decide +kernel
theorem dX11_turns_53 : decode cX11_turns 53 = .ok (.imul, 1) := by decide +kernel
theorem dX11_turns_54 : decode cX11_turns 54 = .ok (.iconst 5, 1) := by decide +kernel
theorem dX11_turns_55 : decode cX11_turns 55 = .ok (.iload_n 3, 1) := by decide +kernel
theorem dX11_turns_56 : decode cX11_turns 56 = .ok (.imul, 1) := by decide +kernel
theorem dX11_turns_57 : decode cX11_turns 57 = .ok (.iadd, 1) := by decide +kernel
theorem dX11_turns_58 : decode cX11_turns 58 = .ok (.iload 5, 2) := by decide +kernel
theorem dX11_turns_60 : decode cX11_turns 60 = .ok (.iadd, 1) := by decide +kernel
theorem dX11_turns_61 : decode cX11_turns 61 = .ok (.goto 75, 3) := by decide +kernel
theorem dX11_turns_64 : decode cX11_turns 64 = .ok (.iload_n 2, 1) := by decide +kernel
theorem dX11_turns_65 : decode cX11_turns 65 = .ok (.iconst 2, 1) := by decide +kernel
theorem dX11_turns_66 : decode cX11_turns 66 = .ok (.if_icmp .ne 18, 3) := by decide +kernel
theorem dX11_turns_69 : decode cX11_turns 69 = .ok (.bipush 25, 2) := by decide +kernel
theorem dX11_turns_71 : decode cX11_turns 71 = .ok (.iload 5, 2) := by decide +kernel
theorem dX11_turns_73 : decode cX11_turns 73 = .ok (.imul, 1) := by decide +kernel
theorem dX11_turns_74 : decode cX11_turns 74 = .ok (.iconst 5, 1) := by decide +kernel
theorem dX11_turns_75 : decode cX11_turns 75 = .ok (.iload 4, 2) := by decide +kernel
theorem dX11_turns_77 : decode cX11_turns 77 = .ok (.imul, 1) := by decide +kernel
theorem dX11_turns_78 : decode cX11_turns 78 = .ok (.iadd, 1) := by decide +kernel
theorem dX11_turns_79 : decode cX11_turns 79 = .ok (.iload_n 3, 1) := by decide +kernel
theorem dX11_turns_80 : decode cX11_turns 80 = .ok (.iadd, 1) := by decide +kernel
theorem dX11_turns_81 : decode cX11_turns 81 = .ok (.goto 55, 3) := by decide +kernel
theorem dX11_turns_84 : decode cX11_turns 84 = .ok (.iload_n 2, 1) := by decide +kernel
theorem dX11_turns_85 : decode cX11_turns 85 = .ok (.iconst 3, 1) := by decide +kernel
theorem dX11_turns_86 : decode cX11_turns 86 = .ok (.if_icmp .ne 18, 3) := by decide +kernel
theorem dX11_turns_89 : decode cX11_turns 89 = .ok (.bipush 25, 2) := by decide +kernel
theorem dX11_turns_91 : decode cX11_turns 91 = .ok (.iload_n 3, 1) := by decide +kernel
theorem dX11_turns_92 : decode cX11_turns 92 = .ok (.imul, 1) := by decide +kernel
theorem dX11_turns_93 : decode cX11_turns 93 = .ok (.iconst 5, 1) := by decide +kernel
theorem dX11_turns_94 : decode cX11_turns 94 = .ok (.iload 5, 2) := by decide +kernel
theorem dX11_turns_96 : decode cX11_turns 96 = .ok (.imul, 1) := by decide +kernel
theorem dX11_turns_97 : decode cX11_turns 97 = .ok (.iadd, 1) := by decide +kernel
theorem dX11_turns_98 : decode cX11_turns 98 = .ok (.iload 4, 2) := by decide +kernel
theorem dX11_turns_100 : decode cX11_turns 100 = .ok (.iadd, 1) := by decide +kernel
theorem dX11_turns_101 : decode cX11_turns 101 = .ok (.goto 35, 3) := by decide +kernel
theorem dX11_turns_104 : decode cX11_turns 104 = .ok (.iload_n 2, 1) := by decide +kernel
theorem dX11_turns_105 : decode cX11_turns 105 = .ok (.iconst 4, 1) := by decide +kernel
theorem dX11_turns_106 : decode cX11_turns 106 = .ok (.if_icmp .ne 18, 3) := by decide +kernel
theorem dX11_turns_109 : decode cX11_turns 109 = .ok (.bipush 25, 2) := by decide +kernel
theorem dX11_turns_111 : decode cX11_turns 111 = .ok (.iload 5, 2) := by decide +kernel
theorem dX11_turns_113 : decode cX11_turns 113 = .ok (.imul, 1) := by decide +kernel
theorem dX11_turns_114 : decode cX11_turns 114 = .ok (.iconst 5, 1) := by decide +kernel
theorem dX11_turns_115 : decode cX11_turns 115 = .ok (.iload_n 3, 1) := by decide +kernel
theorem dX11_turns_116 : decode cX11_turns 116 = .ok (.imul, 1) := by decide +kernel
theorem dX11_turns_117 : decode cX11_turns 117 = .ok (.iadd, 1) := by decide +kernel
theorem dX11_turns_118 : decode cX11_turns 118 = .ok (.iload 4, 2) := by decide +kernel
theorem dX11_turns_120 : decode cX11_turns 120 = .ok (.iadd, 1) := by decide +kernel
theorem dX11_turns_121 : decode cX11_turns 121 = .ok (.goto 15, 3) := by decide +kernel
theorem dX11_turns_124 : decode cX11_turns 124 = .ok (.bipush 25, 2) := by decide +kernel
theorem dX11_turns_126 : decode cX11_turns 126 = .ok (.iload 4, 2) := by decide +kernel
theorem dX11_turns_128 : decode cX11_turns 128 = .ok (.imul, 1) := by decide +kernel
theorem dX11_turns_129 : decode cX11_turns 129 = .ok (.iconst 5, 1) := by decide +kernel
theorem dX11_turns_130 : decode cX11_turns 130 = .ok (.iload 5, 2) := by decide +kernel
theorem dX11_turns_132 : decode cX11_turns 132 = .ok (.imul, 1) := by decide +kernel
theorem dX11_turns_133 : decode cX11_turns 133 = .ok (.iadd, 1) := by decide +kernel
theorem dX11_turns_134 : decode cX11_turns 134 = .ok (.iload_n 3, 1) := by decide +kernel
theorem dX11_turns_135 : decode cX11_turns 135 = .ok (.iadd, 1) := by decide +kernel
theorem dX11_turns_136 : decode cX11_turns 136 = .ok (.istore 6, 2) := by decide +kernel
theorem dX11_turns_138 : decode cX11_turns 138 = .ok (.aload_n 0, 1) := by decide +kernel
theorem dX11_turns_139 : decode cX11_turns 139 = .ok (.getfield 28, 3) := by decide +kernel
theorem dX11_turns_142 : decode cX11_turns 142 = .ok (.bipush 25, 2) := by decide +kernel
theorem dX11_turns_144 : decode cX11_turns 144 = .ok (.iload_n 3, 1) := by decide +kernel
theorem dX11_turns_145 : decode cX11_turns 145 = .ok (.imul, 1) := by decide +kernel
theorem dX11_turns_146 : decode cX11_turns 146 = .ok (.iconst 5, 1) := by decide +kernel
theorem dX11_turns_147 : decode cX11_turns 147 = .ok (.iload 4, 2) := by decide +kernel
theorem dX11_turns_149 : decode cX11_turns 149 = .ok (.imul, 1) := by decide +kernel
theorem dX11_turns_150 : decode cX11_turns 150 = .ok (.iadd, 1) := by decide +kernel
theorem dX11_turns_151 : decode cX11_turns 151 = .ok (.iload 5, 2) := by decide +kernel
theorem dX11_turns_153 : decode cX11_turns 153 = .ok (.iadd, 1) := by decide +kernel
theorem dX11_turns_154 : decode cX11_turns 154 = .ok (.aload_n 1, 1) := by decide +kernel
theorem dX11_turns_155 : decode cX11_turns 155 = .ok (.iload 6, 2) := by decide +kernel
theorem dX11_turns_157 : decode cX11_turns 157 = .ok (.iaload, 1) := by decide +kernel
theorem dX11_turns_158 : decode cX11_turns 158 = .ok (.iastore, 1) := by decide +kernel
theorem dX11_turns_159 : decode cX11_turns 159 = .ok (.iinc 5 1, 3) := by decide +kernel
theorem dX11_turns_162 : decode cX11_turns 162 = .ok (.goto (-143), 3) := by decide +kernel
theorem dX11_turns_165 : decode cX11_turns 165 = .ok (.iinc 4 1, 3) := by decide +kernel
theorem dX11_turns_168 : decode cX11_turns 168 = .ok (.goto (-158), 3) := by decide +kernel
theorem dX11_turns_171 : decode cX11_turns 171 = .ok (.iinc 3 1, 3) := by decide +kernel
theorem dX11_turns_174 : decode cX11_turns 174 = .ok (.goto (-172), 3) := by decide +kernel
theorem dX11_turns_177 : decode cX11_turns 177 = .ok (.return_, 1) := by decide +kernel
theorem dX11_turn_0 : decode cX11_turn 0 = .ok (.iload_n 1, 1) := by decide +kernel
theorem dX11_turn_1 : decode cX11_turn 1 = .ok (.invokestatic 143, 3) := by decide +kernel
theorem dX11_turn_4 : decode cX11_turn 4 = .ok (.ifCond .eq 19, 3) := by decide +kernel
theorem dX11_turn_7 : decode cX11_turn 7 = .ok (.iload_n 2, 1) := by decide +kernel
theorem dX11_turn_8 : decode cX11_turn 8 = .ok (.invokestatic 143, 3) := by decide +kernel
theorem dX11_turn_11 : decode cX11_turn 11 = .ok (.ifCond .eq 12, 3) := by decide +kernel
theorem dX11_turn_14 : decode cX11_turn 14 = .ok (.iload_n 3, 1) := by decide +kernel
theorem dX11_turn_15 : decode cX11_turn 15 = .ok (.iconst 0, 1) := by decide +kernel
theorem dX11_turn_16 : decode cX11_turn 16 = .ok (.iconst 5, 1) := by decide +kernel
theorem dX11_turn_17 : decode cX11_turn 17 = .ok (.invokestatic 98, 3) := by decide +kernel
theorem dX11_turn_20 : decode cX11_turn 20 = .ok (.ifCond .ne 5, 3) := by decide +kernel
theorem dX11_turn_23 : decode cX11_turn 23 = .ok (.iconst 0, 1) := by decide +kernel
theorem dX11_turn_24 : decode cX11_turn 24 = .ok (.ireturn, 1) := by decide +kernel
theorem dX11_turn_25 : decode cX11_turn 25 = .ok (.aload_n 0, 1) := by decide +kernel
theorem dX11_turn_26 : decode cX11_turn 26 = .ok (.iload_n 1, 1) := by decide +kernel
theorem dX11_turn_27 : decode cX11_turn 27 = .ok (.invokevirtual 147, 3) := by decide +kernel
theorem dX11_turn_30 : decode cX11_turn 30 = .ok (.aload_n 0, 1) := by decide +kernel
theorem dX11_turn_31 : decode cX11_turn 31 = .ok (.aload_n 0, 1) := by decide +kernel
theorem dX11_turn_32 : decode cX11_turn 32 = .ok (.getfield 16, 3) := by decide +kernel
theorem dX11_turn_35 : decode cX11_turn 35 = .ok (.iload_n 3, 1) := by decide +kernel
theorem dX11_turn_36 : decode cX11_turn 36 = .ok (.invokevirtual 150, 3) := by decide +kernel
theorem dX11_turn_39 : decode cX11_turn 39 = .ok (.aload_n 0, 1) := by decide +kernel
theorem dX11_turn_40 : decode cX11_turn 40 = .ok (.iload_n 2, 1) := by decide +kernel
theorem dX11_turn_41 : decode cX11_turn 41 = .ok (.aload_n 0, 1) := by decide +kernel
theorem dX11_turn_42 : decode cX11_turn 42 = .ok (.getfield 28, 3) := by decide +kernel
theorem dX11_turn_45 : decode cX11_turn 45 = .ok (.invokevirtual 154, 3) := by decide +kernel
theorem dX11_turn_48 : decode cX11_turn 48 = .ok (.iconst 1, 1) := by decide +kernel
theorem dX11_turn_49 : decode cX11_turn 49 = .ok (.ireturn, 1) := by decide +kernel
theorem dX11_feed_0 : decode cX11_feed 0 = .ok (.aload_n 0, 1) := by decide +kernel
theorem dX11_feed_1 : decode cX11_feed 1 = .ok (.getfield 157, 3) := by decide +kernel
theorem dX11_feed_4 : decode cX11_feed 4 = .ok (.bipush 20, 2) := by decide +kernel
theorem dX11_feed_6 : decode cX11_feed 6 = .ok (.iadd, 1) := by decide +kernel
theorem dX11_feed_7 : decode cX11_feed 7 = .ok (.sipush 600, 3) := by decide +kernel
theorem dX11_feed_10 : decode cX11_feed 10 = .ok (.if_icmp .le 5, 3) := by decide +kernel
theorem dX11_feed_13 : decode cX11_feed 13 = .ok (.iconst (-1), 1) := by decide +kernel
theorem dX11_feed_14 : decode cX11_feed 14 = .ok (.ireturn, 1) := by decide +kernel
theorem dX11_feed_15 : decode cX11_feed 15 = .ok (.iconst 0, 1) := by decide +kernel
theorem dX11_feed_16 : decode cX11_feed 16 = .ok (.istore 6, 2) := by decide +kernel
theorem dX11_feed_18 : decode cX11_feed 18 = .ok (.iload 6, 2) := by decide +kernel
theorem dX11_feed_20 : decode cX11_feed 20 = .ok (.bipush 20, 2) := by decide +kernel
theorem dX11_feed_22 : decode cX11_feed 22 = .ok (.if_icmp .ge 93, 3) := by decide +kernel
theorem dX11_feed_25 : decode cX11_feed 25 = .ok (.iload 6, 2) := by decide +kernel
theorem dX11_feed_27 : decode cX11_feed 27 = .ok (.iconst 4, 1) := by decide +kernel
theorem dX11_feed_28 : decode cX11_feed 28 = .ok (.if_icmp .ge 7, 3) := by decide +kernel
theorem dX11_feed_31 : decode cX11_feed 31 = .ok (.iload_n 1, 1) := by decide +kernel
theorem dX11_feed_32 : decode cX11_feed 32 = .ok (.goto 39, 3) := by decide +kernel
theorem dX11_feed_35 : decode cX11_feed 35 = .ok (.iload 6, 2) := by decide +kernel
theorem dX11_feed_37 : decode cX11_feed 37 = .ok (.bipush 8, 2) := by decide +kernel
theorem dX11_feed_39 : decode cX11_feed 39 = .ok (.if_icmp .ge 7, 3) := by decide +kernel
theorem dX11_feed_42 : decode cX11_feed 42 = .ok (.iload_n 2, 1) := by decide +kernel
theorem dX11_feed_43 : decode cX11_feed 43 = .ok (.goto 28, 3) := by decide +kernel
theorem dX11_feed_46 : decode cX11_feed 46 = .ok (.iload 6, 2) := by decide +kernel
theorem dX11_feed_48 : decode cX11_feed 48 = .ok (.bipush 12, 2) := by decide +kernel
theorem dX11_feed_50 : decode cX11_feed 50 = .ok (.if_icmp .ge 7, 3) := by decide +kernel
theorem dX11_feed_53 : decode cX11_feed 53 = .ok (.iload_n 3, 1) := by decide +kernel
theorem dX11_feed_54 : decode cX11_feed 54 = .ok (.goto 17, 3) := by decide +kernel
theorem dX11_feed_57 : decode cX11_feed 57 = .ok (.iload 6, 2) := by decide +kernel
theorem dX11_feed_59 : decode cX11_feed 59 = .ok (.bipush 16, 2) := by decide +kernel
theorem dX11_feed_61 : decode cX11_feed 61 = .ok (.if_icmp .ge 8, 3) := by decide +kernel
theorem dX11_feed_64 : decode cX11_feed 64 = .ok (.iload 4, 2) := by decide +kernel
theorem dX11_feed_66 : decode cX11_feed 66 = .ok (.goto 5, 3) := by decide +kernel
theorem dX11_feed_69 : decode cX11_feed 69 = .ok (.iload 5, 2) := by decide +kernel
theorem dX11_feed_71 : decode cX11_feed 71 = .ok (.istore 7, 2) := by decide +kernel
theorem dX11_feed_73 : decode cX11_feed 73 = .ok (.aload_n 0, 1) := by decide +kernel
theorem dX11_feed_74 : decode cX11_feed 74 = .ok (.getfield 34, 3) := by decide +kernel
theorem dX11_feed_77 : decode cX11_feed 77 = .ok (.aload_n 0, 1) := by decide +kernel
theorem dX11_feed_78 : decode cX11_feed 78 = .ok (.getfield 157, 3) := by decide +kernel
theorem dX11_feed_81 : decode cX11_feed 81 = .ok (.iload 7, 2) := by decide +kernel
theorem dX11_feed_83 : decode cX11_feed 83 = .ok (.bipush 24, 2) := by decide +kernel
theorem dX11_feed_85 : decode cX11_feed 85 = .ok (.bipush 8, 2) := by decide +kernel
theorem dX11_feed_87 : decode cX11_feed 87 = .ok (.iload 6, 2) := by decide +kernel
theorem dX11_feed_89 : decode cX11_feed 89 = .ok (.iconst 4, 1) := by decide +kernel
theorem dX11_feed_90 : decode cX11_feed 90 = .ok (.irem, 1) := by decide +kernel
theorem dX11_feed_91 : decode cX11_feed 91 = .ok (.imul, 1) := by decide +kernel
theorem dX11_feed_92 : decode cX11_feed 92 = .ok (.isub, 1) := by decide +kernel
theorem dX11_feed_93 : decode cX11_feed 93 = .ok (.ishr, 1) := by decide +kernel
theorem dX11_feed_94 : decode cX11_feed 94 = .ok (.sipush 255, 3) := by decide +kernel
theorem dX11_feed_97 : decode cX11_feed 97 = .ok (.iand, 1) := by decide +kernel
theorem dX11_feed_98 : decode cX11_feed 98 = .ok (.iastore, 1) := by decide +kernel
theorem dX11_feed_99 : decode cX11_feed 99 = .ok (.aload_n 0, 1) := by decide +kernel
theorem dX11_feed_100 : decode cX11_feed 100 = .ok (.dup, 1) := by decide +kernel
theorem dX11_feed_101 : decode cX11_feed 101 = .ok (.getfield 157, 3) := by decide +kernel
theorem dX11_feed_104 : decode cX11_feed 104 = .ok (.iconst 1, 1) := by decide +kernel
theorem dX11_feed_105 : decode cX11_feed 105 = .ok (.iadd, 1) := by decide +kernel
theorem dX11_feed_106 : decode cX11_feed 106 = .ok (.putfield 157, 3) := by decide +kernel
theorem dX11_feed_109 : decode cX11_feed 109 = .ok (.iinc 6 1, 3) := by decide +kernel
theorem dX11_feed_112 : decode cX11_feed 112 = .ok (.goto (-94), 3) := by decide +kernel
theorem dX11_feed_115 : decode cX11_feed 115 = .ok (.aload_n 0, 1) := by decide +kernel
theorem dX11_feed_116 : decode cX11_feed 116 = .ok (.getfield 157, 3) := by decide +kernel
theorem dX11_feed_119 : decode cX11_feed 119 = .ok (.ireturn, 1) := by decide +kernel
theorem dX11_end_0 : decode cX11_end 0 = .ok (.iload_n 1, 1) := by decide +kernel
theorem dX11_end_1 : decode cX11_end 1 = .ok (.iconst 0, 1) := by decide +kernel
theorem dX11_end_2 : decode cX11_end 2 = .ok (.aload_n 0, 1) := by decide +kernel
theorem dX11_end_3 : decode cX11_end 3 = .ok (.getfield 157, 3) := by decide +kernel
theorem dX11_end_6 : decode cX11_end 6 = .ok (.invokestatic 98, 3) := by decide +kernel
theorem dX11_end_9 : decode cX11_end 9 = .ok (.ifCond .ne 5, 3) := by decide +kernel
theorem dX11_end_12 : decode cX11_end 12 = .ok (.iconst 0, 1) := by decide +kernel
theorem dX11_end_13 : decode cX11_end 13 = .ok (.ireturn, 1) := by decide +kernel
theorem dX11_end_14 : decode cX11_end 14 = .ok (.aload_n 0, 1) := by decide +kernel
theorem dX11_end_15 : decode cX11_end 15 = .ok (.iload_n 1, 1) := by decide +kernel
theorem dX11_end_16 : decode cX11_end 16 = .ok (.putfield 157, 3) := by decide +kernel
theorem dX11_end_19 : decode cX11_end 19 = .ok (.iconst 1, 1) := by decide +kernel
theorem dX11_end_20 : decode cX11_end 20 = .ok (.ireturn, 1) := by decide +kernel
theorem dX11_see_0 : decode cX11_see 0 = .ok (.iload_n 1, 1) := by decide +kernel
theorem dX11_see_1 : decode cX11_see 1 = .ok (.aload_n 0, 1) := by decide +kernel
theorem dX11_see_2 : decode cX11_see 2 = .ok (.getfield 157, 3) := by decide +kernel
theorem dX11_see_5 : decode cX11_see 5 = .ok (.if_icmp .ge 12, 3) := by decide +kernel
theorem dX11_see_8 : decode cX11_see 8 = .ok (.aload_n 0, 1) := by decide +kernel
theorem dX11_see_9 : decode cX11_see 9 = .ok (.getfield 34, 3) := by decide +kernel
theorem dX11_see_12 : decode cX11_see 12 = .ok (.iload_n 1, 1) := by decide +kernel
theorem dX11_see_13 : decode cX11_see 13 = .ok (.iaload, 1) := by decide +kernel
theorem dX11_see_14 : decode cX11_see 14 = .ok (.goto 4, 3) := by decide +kernel
theorem dX11_see_17 : decode cX11_see 17 = .ok (.iconst (-1), 1) := by decide +kernel
theorem dX11_see_18 : decode cX11_see 18 = .ok (.ireturn, 1) := by decide +kernel
theorem dX11_isLetter_0 : decode cX11_isLetter 0 = .ok (.iload_n 0, 1) := by decide +kernel
theorem dX11_isLetter_1 : decode cX11_isLetter 1 = .ok (.bipush 97, 2) := by decide +kernel
theorem dX11_isLetter_3 : decode cX11_isLetter 3 = .ok (.bipush 122, 2) := by decide +kernel
theorem dX11_isLetter_5 : decode cX11_isLetter 5 = .ok (.invokestatic 98, 3) := by decide +kernel
theorem dX11_isLetter_8 : decode cX11_isLetter 8 = .ok (.ifCond .ne 14, 3) := by decide +kernel
theorem dX11_isLetter_11 : decode cX11_isLetter 11 = .ok (.iload_n 0, 1) := by decide +kernel
theorem dX11_isLetter_12 : decode cX11_isLetter 12 = .ok (.bipush 65, 2) := by decide +kernel
theorem dX11_isLetter_14 : decode cX11_isLetter 14 = .ok (.bipush 90, 2) := by decide +kernel
theorem dX11_isLetter_16 : decode cX11_isLetter 16 = .ok (.invokestatic 98, 3) := by decide +kernel
theorem dX11_isLetter_19 : decode cX11_isLetter 19 = .ok (.ifCond .eq 7, 3) := by decide +kernel
theorem dX11_isLetter_22 : decode cX11_isLetter 22 = .ok (.iconst 1, 1) := by decide +kernel
theorem dX11_isLetter_23 : decode cX11_isLetter 23 = .ok (.goto 4, 3) := by decide +kernel
theorem dX11_isLetter_26 : decode cX11_isLetter 26 = .ok (.iconst 0, 1) := by decide +kernel
theorem dX11_isLetter_27 : decode cX11_isLetter 27 = .ok (.ireturn, 1) := by decide +kernel
theorem dX11_isDigit_0 : decode cX11_isDigit 0 = .ok (.iload_n 0, 1) := by decide +kernel
theorem dX11_isDigit_1 : decode cX11_isDigit 1 = .ok (.bipush 48, 2) := by decide +kernel
theorem dX11_isDigit_3 : decode cX11_isDigit 3 = .ok (.bipush 57, 2) := by decide +kernel
theorem dX11_isDigit_5 : decode cX11_isDigit 5 = .ok (.invokestatic 98, 3) := by decide +kernel
theorem dX11_isDigit_8 : decode cX11_isDigit 8 = .ok (.ireturn, 1) := by decide +kernel
theorem dX11_is_0 : decode cX11_is 0 = .ok (.aload_n 0, 1) := by decide +kernel
theorem dX11_is_1 : decode cX11_is 1 = .ok (.getfield 160, 3) := by decide +kernel
theorem dX11_is_4 : decode cX11_is 4 = .ok (.aload_n 0, 1) := by decide +kernel
theorem dX11_is_5 : decode cX11_is 5 = .ok (.getfield 163, 3) := by decide +kernel
theorem dX11_is_8 : decode cX11_is 8 = .ok (.isub, 1) := by decide +kernel
theorem dX11_is_9 : decode cX11_is 9 = .ok (.aload_n 1, 1) := by decide +kernel
theorem dX11_is_10 : decode cX11_is 10 = .ok (.invokevirtual 166, 3) := by decide +kernel
theorem dX11_is_13 : decode cX11_is 13 = .ok (.if_icmp .ne 7, 3) := by decide +kernel
theorem dX11_is_16 : decode cX11_is 16 = .ok (.iconst 1, 1) := by decide +kernel
theorem dX11_is_17 : decode cX11_is 17 = .ok (.goto 4, 3) := by decide +kernel
theorem dX11_is_20 : decode cX11_is 20 = .ok (.iconst 0, 1) := by decide +kernel
theorem dX11_is_21 : decode cX11_is 21 = .ok (.istore_n 2, 1) := by decide +kernel
theorem dX11_is_22 : decode cX11_is 22 = .ok (.iconst 0, 1) := by decide +kernel
theorem dX11_is_23 : decode cX11_is 23 = .ok (.istore_n 3, 1) := by decide +kernel
theorem dX11_is_24 : decode cX11_is 24 = .ok (.iload_n 3, 1) := by decide +kernel
theorem dX11_is_25 : decode cX11_is 25 = .ok (.aload_n 1, 1) := by decide +kernel
theorem dX11_is_26 : decode cX11_is 26 = .ok (.invokevirtual 166, 3) := by decide +kernel
theorem dX11_is_29 : decode cX11_is 29 = .ok (.if_icmp .ge 38, 3) := by decide +kernel
theorem dX11_is_32 : decode cX11_is 32 = .ok (.iload_n 2, 1) := by decide +kernel
theorem dX11_is_33 : decode cX11_is 33 = .ok (.ifCond .eq 34, 3) := by decide +kernel
theorem dX11_is_36 : decode cX11_is 36 = .ok (.aload_n 0, 1) := by decide +kernel
theorem dX11_is_37 : decode cX11_is 37 = .ok (.getfield 34, 3) := by decide +kernel
theorem dX11_is_40 : decode cX11_is 40 = .ok (.aload_n 0, 1) := by decide +kernel
theorem dX11_is_41 : decode cX11_is 41 = .ok (.getfield 163, 3) := by decide +kernel
theorem dX11_is_44 : decode cX11_is 44 = .ok (.iload_n 3, 1) := by decide +kernel
theorem dX11_is_45 : decode cX11_is 45 = .ok (.iadd, 1) := by decide +kernel
theorem dX11_is_46 : decode cX11_is 46 = .ok (.iaload, 1) := by decide +kernel
theorem dX11_is_47 : decode cX11_is 47 = .ok (.aload_n 1, 1) := by decide +kernel
theorem dX11_is_48 : decode cX11_is 48 = .ok (.iload_n 3, 1) := by decide +kernel
theorem dX11_is_49 : decode cX11_is 49 = .ok (.invokevirtual 172, 3) := by decide +kernel
theorem dX11_is_52 : decode cX11_is 52 = .ok (.if_icmp .ne 7, 3) := by decide +kernel
theorem dX11_is_55 : decode cX11_is 55 = .ok (.iconst 1, 1) := by decide +kernel
theorem dX11_is_56 : decode cX11_is 56 = .ok (.goto 4, 3) := by decide +kernel
theorem dX11_is_59 : decode cX11_is 59 = .ok (.iconst 0, 1) := by decide +kernel
theorem dX11_is_60 : decode cX11_is 60 = .ok (.istore_n 2, 1) := by decide +kernel
theorem dX11_is_61 : decode cX11_is 61 = .ok (.iinc 3 1, 3) := by decide +kernel
theorem dX11_is_64 : decode cX11_is 64 = .ok (.goto (-40), 3) := by decide +kernel
theorem dX11_is_67 : decode cX11_is 67 = .ok (.iload_n 2, 1) := by decide +kernel
theorem dX11_is_68 : decode cX11_is 68 = .ok (.ireturn, 1) := by decide +kernel
theorem dX11_word_0 : decode cX11_word 0 = .ok (.aload_n 0, 1) := by decide +kernel
theorem dX11_word_1 : decode cX11_word 1 = .ok (.ldc 176, 2) := by decide +kernel
theorem dX11_word_3 : decode cX11_word 3 = .ok (.invokevirtual 178, 3) := by decide +kernel
theorem dX11_word_6 : decode cX11_word 6 = .ok (.ifCond .eq 5, 3) := by decide +kernel
theorem dX11_word_9 : decode cX11_word 9 = .ok (.iconst 4, 1) := by decide +kernel
theorem dX11_word_10 : decode cX11_word 10 = .ok (.ireturn, 1) := by decide +kernel
theorem dX11_word_11 : decode cX11_word 11 = .ok (.aload_n 0, 1) := by decide +kernel
theorem dX11_word_12 : decode cX11_word 12 = .ok (.ldc 182, 2) := by decide +kernel
theorem dX11_word_14 : decode cX11_word 14 = .ok (.invokevirtual 178, 3) := by decide +kernel
theorem dX11_word_17 : decode cX11_word 17 = .ok (.ifCond .eq 5, 3) := by decide +kernel
theorem dX11_word_20 : decode cX11_word 20 = .ok (.iconst 5, 1) := by decide +kernel
theorem dX11_word_21 : decode cX11_word 21 = .ok (.ireturn, 1) := by decide +kernel
theorem dX11_word_22 : decode cX11_word 22 = .ok (.aload_n 0, 1) := by decide +kernel
theorem dX11_word_23 : decode cX11_word 23 = .ok (.ldc 183, 2) := by decide +kernel
theorem dX11_word_25 : decode cX11_word 25 = .ok (.invokevirtual 178, 3) := by decide +kernel
theorem dX11_word_28 : decode cX11_word 28 = .ok (.ifCond .eq 6, 3) := by decide +kernel
theorem dX11_word_31 : decode cX11_word 31 = .ok (.bipush 6, 2) := by decide +kernel
theorem dX11_word_33 : decode cX11_word 33 = .ok (.ireturn, 1) := by decide +kernel
theorem dX11_word_34 : decode cX11_word 34 = .ok (.aload_n 0, 1) := by decide +kernel
theorem dX11_word_35 : decode cX11_word 35 = .ok (.ldc 185, 2) := by decide +kernel
theorem dX11_word_37 : decode cX11_word 37 = .ok (.invokevirtual 178, 3) := by decide +kernel
theorem dX11_word_40 : decode cX11_word 40 = .ok (.ifCond .eq 6, 3) := by decide +kernel
theorem dX11_word_43 : decode cX11_word 43 = .ok (.bipush 7, 2) := by decide +kernel
theorem dX11_word_45 : decode cX11_word 45 = .ok (.ireturn, 1) := by decide +kernel
theorem dX11_word_46 : decode cX11_word 46 = .ok (.aload_n 0, 1) := by decide +kernel
theorem dX11_word_47 : decode cX11_word 47 = .ok (.ldc 186, 2) := by decide +kernel
theorem dX11_word_49 : decode cX11_word 49 = .ok (.invokevirtual 178, 3) := by decide +kernel
theorem dX11_word_52 : decode cX11_word 52 = .ok (.ifCond .eq 8, 3) := by decide +kernel
theorem dX11_word_55 : decode cX11_word 55 = .ok (.bipush 8, 2) := by decide +kernel
theorem dX11_word_57 : decode cX11_word 57 = .ok (.goto 4, 3) := by decide +kernel
theorem dX11_word_60 : decode cX11_word 60 = .ok (.iconst 1, 1) := by decide +kernel
theorem dX11_word_61 : decode cX11_word 61 = .ok (.ireturn, 1) := by decide +kernel
theorem dX11_next0_0 : decode cX11_next0 0 = .ok (.aload_n 0, 1) := by decide +kernel
theorem dX11_next0_1 : decode cX11_next0 1 = .ok (.aload_n 0, 1) := by decide +kernel
theorem dX11_next0_2 : decode cX11_next0 2 = .ok (.getfield 160, 3) := by decide +kernel
theorem dX11_next0_5 : decode cX11_next0 5 = .ok (.invokevirtual 188, 3) := by decide +kernel
theorem dX11_next0_8 : decode cX11_next0 8 = .ok (.bipush 32, 2) := by decide +kernel
theorem dX11_next0_10 : decode cX11_next0 10 = .ok (.if_icmp .eq 16, 3) := by decide +kernel
theorem dX11_next0_13 : decode cX11_next0 13 = .ok (.aload_n 0, 1) := by decide +kernel
theorem dX11_next0_14 : decode cX11_next0 14 = .ok (.aload_n 0, 1) := by decide +kernel
theorem dX11_next0_15 : decode cX11_next0 15 = .ok (.getfield 160, 3) := by decide +kernel
theorem dX11_next0_18 : decode cX11_next0 18 = .ok (.invokevirtual 188, 3) := by decide +kernel
theorem dX11_next0_21 : decode cX11_next0 21 = .ok (.bipush 10, 2) := by decide +kernel
theorem dX11_next0_23 : decode cX11_next0 23 = .ok (.if_icmp .ne 16, 3) := by decide +kernel
theorem dX11_next0_26 : decode cX11_next0 26 = .ok (.aload_n 0, 1) := by decide +kernel
theorem dX11_next0_27 : decode cX11_next0 27 = .ok (.dup, 1) := by decide +kernel
theorem dX11_next0_28 : decode cX11_next0 28 = .ok (.getfield 160, 3) := by decide +kernel
theorem dX11_next0_31 : decode cX11_next0 31 = .ok (.iconst 1, 1) := by decide +kernel
theorem dX11_next0_32 : decode cX11_next0 32 = .ok (.iadd, 1) := by decide +kernel
theorem dX11_next0_33 : decode cX11_next0 33 = .ok (.putfield 160, 3) := by decide +kernel
theorem dX11_next0_36 : decode cX11_next0 36 = .ok (.goto (-36), 3) := by decide +kernel
theorem dX11_next0_39 : decode cX11_next0 39 = .ok (.aload_n 0, 1) := by decide +kernel
theorem dX11_next0_40 : decode cX11_next0 40 = .ok (.aload_n 0, 1) := by decide +kernel
theorem dX11_next0_41 : decode cX11_next0 41 = .ok (.getfield 160, 3) := by decide +kernel
theorem dX11_next0_44 : decode cX11_next0 44 = .ok (.putfield 163, 3) := by decide +kernel
theorem dX11_next0_47 : decode cX11_next0 47 = .ok (.aload_n 0, 1) := by decide +kernel
theorem dX11_next0_48 : decode cX11_next0 48 = .ok (.aload_n 0, 1) := by decide +kernel
theorem dX11_next0_49 : decode cX11_next0 49 = .ok (.getfield 160, 3) := by decide +kernel
theorem dX11_next0_52 : decode cX11_next0 52 = .ok (.invokevirtual 188, 3) := by decide +kernel
theorem dX11_next0_55 : decode cX11_next0 55 = .ok (.istore_n 1, 1) := by decide +kernel
theorem dX11_next0_56 : decode cX11_next0 56 = .ok (.iload_n 1, 1) := by decide +kernel
theorem dX11_next0_57 : decode cX11_next0 57 = .ok (.iconst (-1), 1) := by decide +kernel
theorem dX11_next0_58 : decode cX11_next0 58 = .ok (.if_icmp .ne 11, 3) := by decide +kernel
theorem dX11_next0_61 : decode cX11_next0 61 = .ok (.aload_n 0, 1) := by decide +kernel
theorem dX11_next0_62 : decode cX11_next0 62 = .ok (.iconst 0, 1) := by decide +kernel
theorem dX11_next0_63 : decode cX11_next0 63 = .ok (.putfield 192, 3) := by decide +kernel
theorem dX11_next0_66 : decode cX11_next0 66 = .ok (.goto 173, 3) := by decide +kernel
theorem dX11_next0_69 : decode cX11_next0 69 = .ok (.iload_n 1, 1) := by decide +kernel
theorem dX11_next0_70 : decode cX11_next0 70 = .ok (.invokestatic 195, 3) := by decide +kernel
theorem dX11_next0_73 : decode cX11_next0 73 = .ok (.ifCond .eq 41, 3) := by decide +kernel
theorem dX11_next0_76 : decode cX11_next0 76 = .ok (.aload_n 0, 1) := by decide +kernel
theorem dX11_next0_77 : decode cX11_next0 77 = .ok (.aload_n 0, 1) := by decide +kernel
theorem dX11_next0_78 : decode cX11_next0 78 = .ok (.getfield 160, 3) := by decide +kernel
theorem dX11_next0_81 : decode cX11_next0 81 = .ok (.invokevirtual 188, 3) := by decide +kernel
theorem dX11_next0_84 : decode cX11_next0 84 = .ok (.invokestatic 195, 3) := by decide +kernel
theorem dX11_next0_87 : decode cX11_next0 87 = .ok (.ifCond .eq 16, 3) := by decide +kernel
theorem dX11_next0_90 : decode cX11_next0 90 = .ok (.aload_n 0, 1) := by decide +kernel
theorem dX11_next0_91 : decode cX11_next0 91 = .ok (.dup, 1) := by decide +kernel
theorem dX11_next0_92 : decode cX11_next0 92 = .ok (.getfield 160, 3) := by decide +kernel
theorem dX11_next0_95 : decode cX11_next0 95 = .ok (.iconst 1, 1) := by decide +kernel
theorem dX11_next0_96 : decode cX11_next0 96 = .ok (.iadd, 1) := by decide +kernel
theorem dX11_next0_97 : decode cX11_next0 97 = .ok (.putfield 160, 3) := by decide +kernel
theorem dX11_next0_100 : decode cX11_next0 100 = .ok (.goto (-24), 3) := by decide +kernel
theorem dX11_next0_103 : decode cX11_next0 103 = .ok (.aload_n 0, 1) := by decide +kernel
theorem dX11_next0_104 : decode cX11_next0 104 = .ok (.aload_n 0, 1) := by decide +kernel
theorem dX11_next0_105 : decode cX11_next0 105 = .ok (.invokevirtual 198, 3) := by decide +kernel
theorem dX11_next0_108 : decode cX11_next0 108 = .ok (.putfield 192, 3) := by decide +kernel
theorem dX11_next0_111 : decode cX11_next0 111 = .ok (.goto 128, 3) := by decide +kernel
theorem dX11_next0_114 : decode cX11_next0 114 = .ok (.iload_n 1, 1) := by decide +kernel
theorem dX11_next0_115 : decode cX11_next0 115 = .ok (.invokestatic 201, 3) := by decide +kernel
theorem dX11_next0_118 : decode cX11_next0 118 = .ok (.ifCond .eq 96, 3) := by decide +kernel
theorem dX11_next0_121 : decode cX11_next0 121 = .ok (.aload_n 0, 1) := by decide +kernel
theorem dX11_next0_122 : decode cX11_next0 122 = .ok (.iconst 0, 1) := by decide +kernel
theorem dX11_next0_123 : decode cX11_next0 123 = .ok (.putfield 204, 3) := by decide +kernel
theorem dX11_next0_126 : decode cX11_next0 126 = .ok (.aload_n 0, 1) := by decide +kernel
theorem dX11_next0_127 : decode cX11_next0 127 = .ok (.aload_n 0, 1) := by decide +kernel
theorem dX11_next0_128 : decode cX11_next0 128 = .ok (.getfield 160, 3) := by decide +kernel
theorem dX11_next0_131 : decode cX11_next0 131 = .ok (.invokevirtual 188, 3) := by decide +kernel
theorem dX11_next0_134 : decode cX11_next0 134 = .ok (.invokestatic 201, 3) := by decide +kernel
theorem dX11_next0_137 : decode cX11_next0 137 = .ok (.ifCond .eq 52, 3) := by decide +kernel
theorem dX11_next0_140 : decode cX11_next0 140 = .ok (.aload_n 0, 1) := by decide +kernel
theorem dX11_next0_141 : decode cX11_next0 141 = .ok (.getfield 160, 3) := by decide +kernel
theorem dX11_next0_144 : decode cX11_next0 144 = .ok (.aload_n 0, 1) := by decide +kernel
theorem dX11_next0_145 : decode cX11_next0 145 = .ok (.getfield 163, 3) := by decide +kernel
theorem dX11_next0_148 : decode cX11_next0 148 = .ok (.iconst 4, 1) := by decide +kernel
theorem dX11_next0_149 : decode cX11_next0 149 = .ok (.iadd, 1) := by decide +kernel
theorem dX11_next0_150 : decode cX11_next0 150 = .ok (.if_icmp .ge 26, 3) := by decide +kernel
theorem dX11_next0_153 : decode cX11_next0 153 = .ok (.aload_n 0, 1) := by decide +kernel
theorem dX11_next0_154 : decode cX11_next0 154 = .ok (.bipush 10, 2) := by decide +kernel
theorem dX11_next0_156 : decode cX11_next0 156 = .ok (.aload_n 0, 1) := by decide +kernel
theorem dX11_next0_157 : decode cX11_next0 157 = .ok (.getfield 204, 3) := by decide +kernel
theorem dX11_next0_160 : decode cX11_next0 160 = .ok (.imul, 1) := by decide +kernel
theorem dX11_next0_161 : decode cX11_next0 161 = .ok (.aload_n 0, 1) := by decide +kernel
theorem dX11_next0_162 : decode cX11_next0 162 = .ok (.aload_n 0, 1) := by decide +kernel
theorem dX11_next0_163 : decode cX11_next0 163 = .ok (.getfield 160, 3) := by decide +kernel
theorem dX11_next0_166 : decode cX11_next0 166 = .ok (.invokevirtual 188, 3) := by decide +kernel
theorem dX11_next0_169 : decode cX11_next0 169 = .ok (.iadd, 1) := by decide +kernel
theorem dX11_next0_170 : decode cX11_next0 170 = .ok (.bipush 48, 2) := by decide +kernel
theorem dX11_next0_172 : decode cX11_next0 172 = .ok (.isub, 1) := by decide +kernel
theorem dX11_next0_173 : decode cX11_next0 173 = .ok (.putfield 204, 3) := by decide +kernel
theorem dX11_next0_176 : decode cX11_next0 176 = .ok (.aload_n 0, 1) := by decide +kernel
theorem dX11_next0_177 : decode cX11_next0 177 = .ok (.dup, 1) := by decide +kernel
theorem dX11_next0_178 : decode cX11_next0 178 = .ok (.getfield 160, 3) := by decide +kernel
theorem dX11_next0_181 : decode cX11_next0 181 = .ok (.iconst 1, 1) := by decide +kernel
theorem dX11_next0_182 : decode cX11_next0 182 = .ok (.iadd, 1) := by decide +kernel
theorem dX11_next0_183 : decode cX11_next0 183 = .ok (.putfield 160, 3) := by decide +kernel
theorem dX11_next0_186 : decode cX11_next0 186 = .ok (.goto (-60), 3) := by decide +kernel
theorem dX11_next0_189 : decode cX11_next0 189 = .ok (.aload_n 0, 1) := by decide +kernel
theorem dX11_next0_190 : decode cX11_next0 190 = .ok (.aload_n 0, 1) := by decide +kernel
theorem dX11_next0_191 : decode cX11_next0 191 = .ok (.getfield 160, 3) := by decide +kernel
theorem dX11_next0_194 : decode cX11_next0 194 = .ok (.aload_n 0, 1) := by decide +kernel
theorem dX11_next0_195 : decode cX11_next0 195 = .ok (.getfield 163, 3) := by decide +kernel
theorem dX11_next0_198 : decode cX11_next0 198 = .ok (.isub, 1) := by decide +kernel
theorem dX11_next0_199 : decode cX11_next0 199 = .ok (.iconst 5, 1) := by decide +kernel
theorem dX11_next0_200 : decode cX11_next0 200 = .ok (.if_icmp .ge 7, 3) := by decide +kernel
theorem dX11_next0_203 : decode cX11_next0 203 = .ok (.iconst 2, 1) := by decide +kernel
theorem dX11_next0_204 : decode cX11_next0 204 = .ok (.goto 4, 3) := by decide +kernel
theorem dX11_next0_207 : decode cX11_next0 207 = .ok (.iconst 1, 1) := by decide +kernel
theorem dX11_next0_208 : decode cX11_next0 208 = .ok (.putfield 192, 3) := by decide +kernel
theorem dX11_next0_211 : decode cX11_next0 211 = .ok (.goto 28, 3) := by decide +kernel
theorem dX11_next0_214 : decode cX11_next0 214 = .ok (.aload_n 0, 1) := by decide +kernel
theorem dX11_next0_215 : decode cX11_next0 215 = .ok (.dup, 1) := by decide +kernel
theorem dX11_next0_216 : decode cX11_next0 216 = .ok (.getfield 160, 3) := by decide +kernel
theorem dX11_next0_219 : decode cX11_next0 219 = .ok (.iconst 1, 1) := by decide +kernel
theorem dX11_next0_220 : decode cX11_next0 220 = .ok (.iadd, 1) := by decide +kernel
theorem dX11_next0_221 : decode cX11_next0 221 = .ok (.putfield 160, 3) := by decide +kernel
theorem dX11_next0_224 : decode cX11_next0 224 = .ok (.aload_n 0, 1) := by decide +kernel
theorem dX11_next0_225 : decode cX11_next0 225 = .ok (.iload_n 1, 1) := by decide +kernel
theorem dX11_next0_226 : decode cX11_next0 226 = .ok (.bipush 59, 2) := by decide +kernel
theorem dX11_next0_228 : decode cX11_next0 228 = .ok (.if_icmp .ne 7, 3) := by decide +kernel
theorem dX11_next0_231 : decode cX11_next0 231 = .ok (.iconst 3, 1) := by decide +kernel
theorem dX11_next0_232 : decode cX11_next0 232 = .ok (.goto 4, 3) := by decide +kernel
theorem dX11_next0_235 : decode cX11_next0 235 = .ok (.iconst 1, 1) := by decide +kernel
theorem dX11_next0_236 : decode cX11_next0 236 = .ok (.putfield 192, 3) := by decide +kernel
theorem dX11_next0_239 : decode cX11_next0 239 = .ok (.return_, 1) := by decide +kernel
theorem dX11_bad_0 : decode cX11_bad 0 = .ok (.aload_n 0, 1) := by decide +kernel
theorem dX11_bad_1 : decode cX11_bad 1 = .ok (.iload_n 1, 1) := by decide +kernel
theorem dX11_bad_2 : decode cX11_bad 2 = .ok (.putfield 207, 3) := by decide +kernel
theorem dX11_bad_5 : decode cX11_bad 5 = .ok (.aload_n 0, 1) := by decide +kernel
theorem dX11_bad_6 : decode cX11_bad 6 = .ok (.aload_n 0, 1) := by decide +kernel
theorem dX11_bad_7 : decode cX11_bad 7 = .ok (.getfield 163, 3) := by decide +kernel
theorem dX11_bad_10 : decode cX11_bad 10 = .ok (.putfield 210, 3) := by decide +kernel
theorem dX11_bad_13 : decode cX11_bad 13 = .ok (.iconst 0, 1) := by decide +kernel
theorem dX11_bad_14 : decode cX11_bad 14 = .ok (.ireturn, 1) := by decide +kernel
theorem dX11_number_0 : decode cX11_number 0 = .ok (.aload_n 0, 1) := by decide +kernel
theorem dX11_number_1 : decode cX11_number 1 = .ok (.getfield 192, 3) := by decide +kernel
theorem dX11_number_4 : decode cX11_number 4 = .ok (.iconst 2, 1) := by decide +kernel
theorem dX11_number_5 : decode cX11_number 5 = .ok (.if_icmp .eq 9, 3) := by decide +kernel
theorem dX11_number_8 : decode cX11_number 8 = .ok (.aload_n 0, 1) := by decide +kernel
theorem dX11_number_9 : decode cX11_number 9 = .ok (.iconst 1, 1) := by decide +kernel
theorem dX11_number_10 : decode cX11_number 10 = .ok (.invokevirtual 213, 3) := by decide +kernel
theorem dX11_number_13 : decode cX11_number 13 = .ok (.ireturn, 1) := by decide +kernel
theorem dX11_number_14 : decode cX11_number 14 = .ok (.aload_n 0, 1) := by decide +kernel
theorem dX11_number_15 : decode cX11_number 15 = .ok (.getfield 204, 3) := by decide +kernel
theorem dX11_number_18 : decode cX11_number 18 = .ok (.iload_n 1, 1) := by decide +kernel
theorem dX11_number_19 : decode cX11_number 19 = .ok (.iload_n 2, 1) := by decide +kernel
theorem dX11_number_20 : decode cX11_number 20 = .ok (.invokestatic 98, 3) := by decide +kernel
theorem dX11_number_23 : decode cX11_number 23 = .ok (.ifCond .ne 9, 3) := by decide +kernel
theorem dX11_number_26 : decode cX11_number 26 = .ok (.aload_n 0, 1) := by decide +kernel
theorem dX11_number_27 : decode cX11_number 27 = .ok (.iconst 2, 1) := by decide +kernel
theorem dX11_number_28 : decode cX11_number 28 = .ok (.invokevirtual 213, 3) := by decide +kernel
theorem dX11_number_31 : decode cX11_number 31 = .ok (.ireturn, 1) := by decide +kernel
theorem dX11_number_32 : decode cX11_number 32 = .ok (.aload_n 0, 1) := by decide +kernel
theorem dX11_number_33 : decode cX11_number 33 = .ok (.invokevirtual 216, 3) := by decide +kernel
theorem dX11_number_36 : decode cX11_number 36 = .ok (.iconst 1, 1) := by decide +kernel
theorem dX11_number_37 : decode cX11_number 37 = .ok (.ireturn, 1) := by decide +kernel
theorem dX11_order_0 : decode cX11_order 0 = .ok (.aload_n 0, 1) := by decide +kernel
theorem dX11_order_1 : decode cX11_order 1 = .ok (.aload_n 0, 1) := by decide +kernel
theorem dX11_order_2 : decode cX11_order 2 = .ok (.getfield 204, 3) := by decide +kernel
theorem dX11_order_5 : decode cX11_order 5 = .ok (.putfield 106, 3) := by decide +kernel
theorem dX11_order_8 : decode cX11_order 8 = .ok (.aload_n 0, 1) := by decide +kernel
theorem dX11_order_9 : decode cX11_order 9 = .ok (.getfield 192, 3) := by decide +kernel
theorem dX11_order_12 : decode cX11_order 12 = .ok (.iconst 2, 1) := by decide +kernel
theorem dX11_order_13 : decode cX11_order 13 = .ok (.if_icmp .ne 33, 3) := by decide +kernel
theorem dX11_order_16 : decode cX11_order 16 = .ok (.aload_n 0, 1) := by decide +kernel
theorem dX11_order_17 : decode cX11_order 17 = .ok (.getfield 106, 3) := by decide +kernel
theorem dX11_order_20 : decode cX11_order 20 = .ok (.iconst 2, 1) := by decide +kernel
theorem dX11_order_21 : decode cX11_order 21 = .ok (.if_icmp .eq 25, 3) := by decide +kernel
theorem dX11_order_24 : decode cX11_order 24 = .ok (.aload_n 0, 1) := by decide +kernel
theorem dX11_order_25 : decode cX11_order 25 = .ok (.getfield 106, 3) := by decide +kernel
theorem dX11_order_28 : decode cX11_order 28 = .ok (.iconst 3, 1) := by decide +kernel
theorem dX11_order_29 : decode cX11_order 29 = .ok (.if_icmp .eq 17, 3) := by decide +kernel
theorem dX11_order_32 : decode cX11_order 32 = .ok (.aload_n 0, 1) := by decide +kernel
theorem dX11_order_33 : decode cX11_order 33 = .ok (.getfield 106, 3) := by decide +kernel
theorem dX11_order_36 : decode cX11_order 36 = .ok (.iconst 5, 1) := by decide +kernel
theorem dX11_order_37 : decode cX11_order 37 = .ok (.if_icmp .eq 9, 3) := by decide +kernel
theorem dX11_order_40 : decode cX11_order 40 = .ok (.aload_n 0, 1) := by decide +kernel
theorem dX11_order_41 : decode cX11_order 41 = .ok (.iconst 2, 1) := by decide +kernel
theorem dX11_order_42 : decode cX11_order 42 = .ok (.invokevirtual 213, 3) := by decide +kernel
theorem dX11_order_45 : decode cX11_order 45 = .ok (.ireturn, 1) := by decide +kernel
theorem dX11_order_46 : decode cX11_order 46 = .ok (.aload_n 0, 1) := by decide +kernel
theorem dX11_order_47 : decode cX11_order 47 = .ok (.iconst 2, 1) := by decide +kernel
theorem dX11_order_48 : decode cX11_order 48 = .ok (.iconst 5, 1) := by decide +kernel
theorem dX11_order_49 : decode cX11_order 49 = .ok (.invokevirtual 219, 3) := by decide +kernel
theorem dX11_order_52 : decode cX11_order 52 = .ok (.ifCond .ne 5, 3) := by decide +kernel
