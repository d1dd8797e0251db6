theorem dX11_order_55 : decode cX11_order 55 = .ok (.iconst 0, 1) := by decide +kernel
theorem dX11_order_56 : decode cX11_order 56 = .ok (.ireturn, 1) := by decide +kernel
theorem dX11_order_57 : decode cX11_order 57 = .ok (.aload_n 0, 1) := by decide +kernel
theorem dX11_order_58 : decode cX11_order 58 = .ok (.aload_n 0, 1) := by decide +kernel
theorem dX11_order_59 : decode cX11_order 59 = .ok (.getfield 204, 3) := by decide +kernel
theorem dX11_order_62 : decode cX11_order 62 = .ok (.putfield 109, 3) := by decide +kernel
theorem dX11_order_65 : decode cX11_order 65 = .ok (.aload_n 0, 1) := by decide +kernel
theorem dX11_order_66 : decode cX11_order 66 = .ok (.iconst 1, 1) := by decide +kernel
theorem dX11_order_67 : decode cX11_order 67 = .ok (.aload_n 0, 1) := by decide +kernel
theorem dX11_order_68 : decode cX11_order 68 = .ok (.getfield 106, 3) := by decide +kernel
theorem dX11_order_71 : decode cX11_order 71 = .ok (.iconst 2, 1) := by decide +kernel
theorem dX11_order_72 : decode cX11_order 72 = .ok (.if_icmp .eq 11, 3) := by decide +kernel
theorem dX11_order_75 : decode cX11_order 75 = .ok (.aload_n 0, 1) := by decide +kernel
theorem dX11_order_76 : decode cX11_order 76 = .ok (.getfield 106, 3) := by decide +kernel
theorem dX11_order_79 : decode cX11_order 79 = .ok (.iconst 3, 1) := by decide +kernel
theorem dX11_order_80 : decode cX11_order 80 = .ok (.if_icmp .ne 7, 3) := by decide +kernel
theorem dX11_order_83 : decode cX11_order 83 = .ok (.iconst 5, 1) := by decide +kernel
theorem dX11_order_84 : decode cX11_order 84 = .ok (.goto 4, 3) := by decide +kernel
theorem dX11_order_87 : decode cX11_order 87 = .ok (.iconst 3, 1) := by decide +kernel
theorem dX11_order_88 : decode cX11_order 88 = .ok (.invokevirtual 219, 3) := by decide +kernel
theorem dX11_order_91 : decode cX11_order 91 = .ok (.ifCond .ne 5, 3) := by decide +kernel
theorem dX11_order_94 : decode cX11_order 94 = .ok (.iconst 0, 1) := by decide +kernel
theorem dX11_order_95 : decode cX11_order 95 = .ok (.ireturn, 1) := by decide +kernel
theorem dX11_order_96 : decode cX11_order 96 = .ok (.aload_n 0, 1) := by decide +kernel
theorem dX11_order_97 : decode cX11_order 97 = .ok (.aload_n 0, 1) := by decide +kernel
theorem dX11_order_98 : decode cX11_order 98 = .ok (.getfield 106, 3) := by decide +kernel
theorem dX11_order_101 : decode cX11_order 101 = .ok (.aload_n 0, 1) := by decide +kernel
theorem dX11_order_102 : decode cX11_order 102 = .ok (.getfield 109, 3) := by decide +kernel
theorem dX11_order_105 : decode cX11_order 105 = .ok (.invokestatic 102, 3) := by decide +kernel
theorem dX11_order_108 : decode cX11_order 108 = .ok (.putfield 112, 3) := by decide +kernel
theorem dX11_order_111 : decode cX11_order 111 = .ok (.iconst 1, 1) := by decide +kernel
theorem dX11_order_112 : decode cX11_order 112 = .ok (.ireturn, 1) := by decide +kernel
theorem dX11_numbers_0 : decode cX11_numbers 0 = .ok (.iconst 0, 1) := by decide +kernel
theorem dX11_numbers_1 : decode cX11_numbers 1 = .ok (.istore 4, 2) := by decide +kernel
theorem dX11_numbers_3 : decode cX11_numbers 3 = .ok (.iload 4, 2) := by decide +kernel
theorem dX11_numbers_5 : decode cX11_numbers 5 = .ok (.iload_n 2, 1) := by decide +kernel
theorem dX11_numbers_6 : decode cX11_numbers 6 = .ok (.if_icmp .ge 33, 3) := by decide +kernel
theorem dX11_numbers_9 : decode cX11_numbers 9 = .ok (.aload_n 0, 1) := by decide +kernel
theorem dX11_numbers_10 : decode cX11_numbers 10 = .ok (.getfield 41, 3) := by decide +kernel
theorem dX11_numbers_13 : decode cX11_numbers 13 = .ok (.iload_n 1, 1) := by decide +kernel
theorem dX11_numbers_14 : decode cX11_numbers 14 = .ok (.iload 4, 2) := by decide +kernel
theorem dX11_numbers_16 : decode cX11_numbers 16 = .ok (.iadd, 1) := by decide +kernel
theorem dX11_numbers_17 : decode cX11_numbers 17 = .ok (.aload_n 0, 1) := by decide +kernel
theorem dX11_numbers_18 : decode cX11_numbers 18 = .ok (.getfield 204, 3) := by decide +kernel
theorem dX11_numbers_21 : decode cX11_numbers 21 = .ok (.iastore, 1) := by decide +kernel
theorem dX11_numbers_22 : decode cX11_numbers 22 = .ok (.aload_n 0, 1) := by decide +kernel
theorem dX11_numbers_23 : decode cX11_numbers 23 = .ok (.iconst 0, 1) := by decide +kernel
theorem dX11_numbers_24 : decode cX11_numbers 24 = .ok (.iload_n 3, 1) := by decide +kernel
theorem dX11_numbers_25 : decode cX11_numbers 25 = .ok (.invokevirtual 219, 3) := by decide +kernel
theorem dX11_numbers_28 : decode cX11_numbers 28 = .ok (.ifCond .ne 5, 3) := by decide +kernel
theorem dX11_numbers_31 : decode cX11_numbers 31 = .ok (.iconst 0, 1) := by decide +kernel
theorem dX11_numbers_32 : decode cX11_numbers 32 = .ok (.ireturn, 1) := by decide +kernel
theorem dX11_numbers_33 : decode cX11_numbers 33 = .ok (.iinc 4 1, 3) := by decide +kernel
theorem dX11_numbers_36 : decode cX11_numbers 36 = .ok (.goto (-33), 3) := by decide +kernel
theorem dX11_numbers_39 : decode cX11_numbers 39 = .ok (.iconst 1, 1) := by decide +kernel
theorem dX11_numbers_40 : decode cX11_numbers 40 = .ok (.ireturn, 1) := by decide +kernel
theorem dX11_fields_0 : decode cX11_fields 0 = .ok (.iconst 0, 1) := by decide +kernel
theorem dX11_fields_1 : decode cX11_fields 1 = .ok (.istore_n 1, 1) := by decide +kernel
theorem dX11_fields_2 : decode cX11_fields 2 = .ok (.iload_n 1, 1) := by decide +kernel
theorem dX11_fields_3 : decode cX11_fields 3 = .ok (.bipush 125, 2) := by decide +kernel
theorem dX11_fields_5 : decode cX11_fields 5 = .ok (.if_icmp .ge 16, 3) := by decide +kernel
theorem dX11_fields_8 : decode cX11_fields 8 = .ok (.aload_n 0, 1) := by decide +kernel
theorem dX11_fields_9 : decode cX11_fields 9 = .ok (.getfield 31, 3) := by decide +kernel
theorem dX11_fields_12 : decode cX11_fields 12 = .ok (.iload_n 1, 1) := by decide +kernel
theorem dX11_fields_13 : decode cX11_fields 13 = .ok (.iconst 0, 1) := by decide +kernel
theorem dX11_fields_14 : decode cX11_fields 14 = .ok (.iastore, 1) := by decide +kernel
theorem dX11_fields_15 : decode cX11_fields 15 = .ok (.iinc 1 1, 3) := by decide +kernel
theorem dX11_fields_18 : decode cX11_fields 18 = .ok (.goto (-16), 3) := by decide +kernel
theorem dX11_fields_21 : decode cX11_fields 21 = .ok (.aload_n 0, 1) := by decide +kernel
theorem dX11_fields_22 : decode cX11_fields 22 = .ok (.getfield 19, 3) := by decide +kernel
theorem dX11_fields_25 : decode cX11_fields 25 = .ok (.astore_n 1, 1) := by decide +kernel
theorem dX11_fields_26 : decode cX11_fields 26 = .ok (.iconst 0, 1) := by decide +kernel
theorem dX11_fields_27 : decode cX11_fields 27 = .ok (.istore_n 2, 1) := by decide +kernel
theorem dX11_fields_28 : decode cX11_fields 28 = .ok (.iload_n 2, 1) := by decide +kernel
theorem dX11_fields_29 : decode cX11_fields 29 = .ok (.iconst 2, 1) := by decide +kernel
theorem dX11_fields_30 : decode cX11_fields 30 = .ok (.aload_n 0, 1) := by decide +kernel
theorem dX11_fields_31 : decode cX11_fields 31 = .ok (.getfield 109, 3) := by decide +kernel
theorem dX11_fields_34 : decode cX11_fields 34 = .ok (.imul, 1) := by decide +kernel
theorem dX11_fields_35 : decode cX11_fields 35 = .ok (.iconst 1, 1) := by decide +kernel
theorem dX11_fields_36 : decode cX11_fields 36 = .ok (.isub, 1) := by decide +kernel
theorem dX11_fields_37 : decode cX11_fields 37 = .ok (.if_icmp .ge 191, 3) := by decide +kernel
theorem dX11_fields_40 : decode cX11_fields 40 = .ok (.iconst 0, 1) := by decide +kernel
theorem dX11_fields_41 : decode cX11_fields 41 = .ok (.istore_n 3, 1) := by decide +kernel
theorem dX11_fields_42 : decode cX11_fields 42 = .ok (.iload_n 3, 1) := by decide +kernel
theorem dX11_fields_43 : decode cX11_fields 43 = .ok (.aload_n 0, 1) := by decide +kernel
theorem dX11_fields_44 : decode cX11_fields 44 = .ok (.getfield 109, 3) := by decide +kernel
theorem dX11_fields_47 : decode cX11_fields 47 = .ok (.if_icmp .ge 31, 3) := by decide +kernel
theorem dX11_fields_50 : decode cX11_fields 50 = .ok (.aload_n 1, 1) := by decide +kernel
theorem dX11_fields_51 : decode cX11_fields 51 = .ok (.iload_n 3, 1) := by decide +kernel
theorem dX11_fields_52 : decode cX11_fields 52 = .ok (.iload_n 2, 1) := by decide +kernel
theorem dX11_fields_53 : decode cX11_fields 53 = .ok (.ifCond .ne 15, 3) := by decide +kernel
theorem dX11_fields_56 : decode cX11_fields 56 = .ok (.iload_n 3, 1) := by decide +kernel
theorem dX11_fields_57 : decode cX11_fields 57 = .ok (.ifCond .ne 7, 3) := by decide +kernel
theorem dX11_fields_60 : decode cX11_fields 60 = .ok (.iconst 1, 1) := by decide +kernel
theorem dX11_fields_61 : decode cX11_fields 61 = .ok (.goto 10, 3) := by decide +kernel
theorem dX11_fields_64 : decode cX11_fields 64 = .ok (.iconst 0, 1) := by decide +kernel
theorem dX11_fields_65 : decode cX11_fields 65 = .ok (.goto 6, 3) := by decide +kernel
theorem dX11_fields_68 : decode cX11_fields 68 = .ok (.aload_n 1, 1) := by decide +kernel
theorem dX11_fields_69 : decode cX11_fields 69 = .ok (.iload_n 3, 1) := by decide +kernel
theorem dX11_fields_70 : decode cX11_fields 70 = .ok (.iaload, 1) := by decide +kernel
theorem dX11_fields_71 : decode cX11_fields 71 = .ok (.iastore, 1) := by decide +kernel
theorem dX11_fields_72 : decode cX11_fields 72 = .ok (.iinc 3 1, 3) := by decide +kernel
theorem dX11_fields_75 : decode cX11_fields 75 = .ok (.goto (-33), 3) := by decide +kernel
theorem dX11_fields_78 : decode cX11_fields 78 = .ok (.iconst 0, 1) := by decide +kernel
theorem dX11_fields_79 : decode cX11_fields 79 = .ok (.istore_n 3, 1) := by decide +kernel
theorem dX11_fields_80 : decode cX11_fields 80 = .ok (.iload_n 3, 1) := by decide +kernel
theorem dX11_fields_81 : decode cX11_fields 81 = .ok (.aload_n 0, 1) := by decide +kernel
theorem dX11_fields_82 : decode cX11_fields 82 = .ok (.getfield 109, 3) := by decide +kernel
theorem dX11_fields_85 : decode cX11_fields 85 = .ok (.if_icmp .ge 68, 3) := by decide +kernel
theorem dX11_fields_88 : decode cX11_fields 88 = .ok (.iload_n 2, 1) := by decide +kernel
theorem dX11_fields_89 : decode cX11_fields 89 = .ok (.iload_n 3, 1) := by decide +kernel
theorem dX11_fields_90 : decode cX11_fields 90 = .ok (.isub, 1) := by decide +kernel
theorem dX11_fields_91 : decode cX11_fields 91 = .ok (.iconst 0, 1) := by decide +kernel
theorem dX11_fields_92 : decode cX11_fields 92 = .ok (.aload_n 0, 1) := by decide +kernel
theorem dX11_fields_93 : decode cX11_fields 93 = .ok (.getfield 109, 3) := by decide +kernel
theorem dX11_fields_96 : decode cX11_fields 96 = .ok (.iconst 1, 1) := by decide +kernel
theorem dX11_fields_97 : decode cX11_fields 97 = .ok (.isub, 1) := by decide +kernel
theorem dX11_fields_98 : decode cX11_fields 98 = .ok (.invokestatic 98, 3) := by decide +kernel
theorem dX11_fields_101 : decode cX11_fields 101 = .ok (.ifCond .ne 6, 3) := by decide +kernel
theorem dX11_fields_104 : decode cX11_fields 104 = .ok (.goto 43, 3) := by decide +kernel
theorem dX11_fields_107 : decode cX11_fields 107 = .ok (.iconst 0, 1) := by decide +kernel
theorem dX11_fields_108 : decode cX11_fields 108 = .ok (.istore 4, 2) := by decide +kernel
theorem dX11_fields_110 : decode cX11_fields 110 = .ok (.iload 4, 2) := by decide +kernel
theorem dX11_fields_112 : decode cX11_fields 112 = .ok (.aload_n 0, 1) := by decide +kernel
theorem dX11_fields_113 : decode cX11_fields 113 = .ok (.getfield 109, 3) := by decide +kernel
theorem dX11_fields_116 : decode cX11_fields 116 = .ok (.if_icmp .ge 31, 3) := by decide +kernel
theorem dX11_fields_119 : decode cX11_fields 119 = .ok (.aload_n 0, 1) := by decide +kernel
theorem dX11_fields_120 : decode cX11_fields 120 = .ok (.getfield 31, 3) := by decide +kernel
theorem dX11_fields_123 : decode cX11_fields 123 = .ok (.bipush 25, 2) := by decide +kernel
theorem dX11_fields_125 : decode cX11_fields 125 = .ok (.iload_n 3, 1) := by decide +kernel
theorem dX11_fields_126 : decode cX11_fields 126 = .ok (.imul, 1) := by decide +kernel
theorem dX11_fields_127 : decode cX11_fields 127 = .ok (.iconst 5, 1) := by decide +kernel
theorem dX11_fields_128 : decode cX11_fields 128 = .ok (.iload_n 2, 1) := by decide +kernel
theorem dX11_fields_129 : decode cX11_fields 129 = .ok (.iload_n 3, 1) := by decide +kernel
theorem dX11_fields_130 : decode cX11_fields 130 = .ok (.isub, 1) := by decide +kernel
theorem dX11_fields_131 : decode cX11_fields 131 = .ok (.imul, 1) := by decide +kernel
theorem dX11_fields_132 : decode cX11_fields 132 = .ok (.iadd, 1) := by decide +kernel
theorem dX11_fields_133 : decode cX11_fields 133 = .ok (.iload 4, 2) := by decide +kernel
theorem dX11_fields_135 : decode cX11_fields 135 = .ok (.iadd, 1) := by decide +kernel
theorem dX11_fields_136 : decode cX11_fields 136 = .ok (.aload_n 1, 1) := by decide +kernel
theorem dX11_fields_137 : decode cX11_fields 137 = .ok (.iload 4, 2) := by decide +kernel
theorem dX11_fields_139 : decode cX11_fields 139 = .ok (.iaload, 1) := by decide +kernel
theorem dX11_fields_140 : decode cX11_fields 140 = .ok (.iastore, 1) := by decide +kernel
theorem dX11_fields_141 : decode cX11_fields 141 = .ok (.iinc 4 1, 3) := by decide +kernel
theorem dX11_fields_144 : decode cX11_fields 144 = .ok (.goto (-34), 3) := by decide +kernel
theorem dX11_fields_147 : decode cX11_fields 147 = .ok (.iinc 3 1, 3) := by decide +kernel
theorem dX11_fields_150 : decode cX11_fields 150 = .ok (.goto (-70), 3) := by decide +kernel
theorem dX11_fields_153 : decode cX11_fields 153 = .ok (.aload_n 1, 1) := by decide +kernel
theorem dX11_fields_154 : decode cX11_fields 154 = .ok (.aload_n 0, 1) := by decide +kernel
theorem dX11_fields_155 : decode cX11_fields 155 = .ok (.getfield 109, 3) := by decide +kernel
theorem dX11_fields_158 : decode cX11_fields 158 = .ok (.iconst 1, 1) := by decide +kernel
theorem dX11_fields_159 : decode cX11_fields 159 = .ok (.isub, 1) := by decide +kernel
theorem dX11_fields_160 : decode cX11_fields 160 = .ok (.iaload, 1) := by decide +kernel
theorem dX11_fields_161 : decode cX11_fields 161 = .ok (.istore_n 3, 1) := by decide +kernel
theorem dX11_fields_162 : decode cX11_fields 162 = .ok (.aload_n 0, 1) := by decide +kernel
theorem dX11_fields_163 : decode cX11_fields 163 = .ok (.getfield 109, 3) := by decide +kernel
theorem dX11_fields_166 : decode cX11_fields 166 = .ok (.iconst 1, 1) := by decide +kernel
theorem dX11_fields_167 : decode cX11_fields 167 = .ok (.isub, 1) := by decide +kernel
theorem dX11_fields_168 : decode cX11_fields 168 = .ok (.istore 4, 2) := by decide +kernel
theorem dX11_fields_170 : decode cX11_fields 170 = .ok (.iload 4, 2) := by decide +kernel
theorem dX11_fields_172 : decode cX11_fields 172 = .ok (.ifCond .le 34, 3) := by decide +kernel
theorem dX11_fields_175 : decode cX11_fields 175 = .ok (.aload_n 1, 1) := by decide +kernel
theorem dX11_fields_176 : decode cX11_fields 176 = .ok (.iload 4, 2) := by decide +kernel
theorem dX11_fields_178 : decode cX11_fields 178 = .ok (.aload_n 1, 1) := by decide +kernel
theorem dX11_fields_179 : decode cX11_fields 179 = .ok (.iload 4, 2) := by decide +kernel
theorem dX11_fields_181 : decode cX11_fields 181 = .ok (.iconst 1, 1) := by decide +kernel
theorem dX11_fields_182 : decode cX11_fields 182 = .ok (.isub, 1) := by decide +kernel
theorem dX11_fields_183 : decode cX11_fields 183 = .ok (.iaload, 1) := by decide +kernel
theorem dX11_fields_184 : decode cX11_fields 184 = .ok (.iload_n 3, 1) := by decide +kernel
theorem dX11_fields_185 : decode cX11_fields 185 = .ok (.aload_n 0, 1) := by decide +kernel
theorem dX11_fields_186 : decode cX11_fields 186 = .ok (.getfield 41, 3) := by decide +kernel
theorem dX11_fields_189 : decode cX11_fields 189 = .ok (.iload 4, 2) := by decide +kernel
theorem dX11_fields_191 : decode cX11_fields 191 = .ok (.iaload, 1) := by decide +kernel
theorem dX11_fields_192 : decode cX11_fields 192 = .ok (.imul, 1) := by decide +kernel
theorem dX11_fields_193 : decode cX11_fields 193 = .ok (.iadd, 1) := by decide +kernel
theorem dX11_fields_194 : decode cX11_fields 194 = .ok (.aload_n 0, 1) := by decide +kernel
theorem dX11_fields_195 : decode cX11_fields 195 = .ok (.getfield 106, 3) := by decide +kernel
theorem dX11_fields_198 : decode cX11_fields 198 = .ok (.irem, 1) := by decide +kernel
theorem dX11_fields_199 : decode cX11_fields 199 = .ok (.iastore, 1) := by decide +kernel
theorem dX11_fields_200 : decode cX11_fields 200 = .ok (.iinc 4 (-1), 3) := by decide +kernel
theorem dX11_fields_203 : decode cX11_fields 203 = .ok (.goto (-33), 3) := by decide +kernel
theorem dX11_fields_206 : decode cX11_fields 206 = .ok (.aload_n 1, 1) := by decide +kernel
theorem dX11_fields_207 : decode cX11_fields 207 = .ok (.iconst 0, 1) := by decide +kernel
theorem dX11_fields_208 : decode cX11_fields 208 = .ok (.iload_n 3, 1) := by decide +kernel
theorem dX11_fields_209 : decode cX11_fields 209 = .ok (.aload_n 0, 1) := by decide +kernel
theorem dX11_fields_210 : decode cX11_fields 210 = .ok (.getfield 41, 3) := by decide +kernel
theorem dX11_fields_213 : decode cX11_fields 213 = .ok (.iconst 0, 1) := by decide +kernel
theorem dX11_fields_214 : decode cX11_fields 214 = .ok (.iaload, 1) := by decide +kernel
theorem dX11_fields_215 : decode cX11_fields 215 = .ok (.imul, 1) := by decide +kernel
theorem dX11_fields_216 : decode cX11_fields 216 = .ok (.aload_n 0, 1) := by decide +kernel
theorem dX11_fields_217 : decode cX11_fields 217 = .ok (.getfield 106, 3) := by decide +kernel
theorem dX11_fields_220 : decode cX11_fields 220 = .ok (.irem, 1) := by decide +kernel
theorem dX11_fields_221 : decode cX11_fields 221 = .ok (.iastore, 1) := by decide +kernel
theorem dX11_fields_222 : decode cX11_fields 222 = .ok (.iinc 2 1, 3) := by decide +kernel
theorem dX11_fields_225 : decode cX11_fields 225 = .ok (.goto (-197), 3) := by decide +kernel
theorem dX11_fields_228 : decode cX11_fields 228 = .ok (.iconst 0, 1) := by decide +kernel
theorem dX11_fields_229 : decode cX11_fields 229 = .ok (.istore_n 2, 1) := by decide +kernel
theorem dX11_fields_230 : decode cX11_fields 230 = .ok (.iload_n 2, 1) := by decide +kernel
theorem dX11_fields_231 : decode cX11_fields 231 = .ok (.bipush 125, 2) := by decide +kernel
theorem dX11_fields_233 : decode cX11_fields 233 = .ok (.if_icmp .ge 21, 3) := by decide +kernel
theorem dX11_fields_236 : decode cX11_fields 236 = .ok (.aload_n 0, 1) := by decide +kernel
theorem dX11_fields_237 : decode cX11_fields 237 = .ok (.getfield 16, 3) := by decide +kernel
theorem dX11_fields_240 : decode cX11_fields 240 = .ok (.iload_n 2, 1) := by decide +kernel
theorem dX11_fields_241 : decode cX11_fields 241 = .ok (.aload_n 0, 1) := by decide +kernel
theorem dX11_fields_242 : decode cX11_fields 242 = .ok (.getfield 31, 3) := by decide +kernel
theorem dX11_fields_245 : decode cX11_fields 245 = .ok (.iload_n 2, 1) := by decide +kernel
theorem dX11_fields_246 : decode cX11_fields 246 = .ok (.iaload, 1) := by decide +kernel
theorem dX11_fields_247 : decode cX11_fields 247 = .ok (.iastore, 1) := by decide +kernel
theorem dX11_fields_248 : decode cX11_fields 248 = .ok (.iinc 2 1, 3) := by decide +kernel
theorem dX11_fields_251 : decode cX11_fields 251 = .ok (.goto (-21), 3) := by decide +kernel
theorem dX11_fields_254 : decode cX11_fields 254 = .ok (.return_, 1) := by decide +kernel
theorem dX11_powered_0 : decode cX11_powered 0 = .ok (.iload_n 1, 1) := by decide +kernel
theorem dX11_powered_1 : decode cX11_powered 1 = .ok (.istore_n 3, 1) := by decide +kernel
theorem dX11_powered_2 : decode cX11_powered 2 = .ok (.aload_n 0, 1) := by decide +kernel
theorem dX11_powered_3 : decode cX11_powered 3 = .ok (.getfield 106, 3) := by decide +kernel
theorem dX11_powered_6 : decode cX11_powered 6 = .ok (.iload_n 2, 1) := by decide +kernel
theorem dX11_powered_7 : decode cX11_powered 7 = .ok (.invokestatic 102, 3) := by decide +kernel
theorem dX11_powered_10 : decode cX11_powered 10 = .ok (.istore 4, 2) := by decide +kernel
theorem dX11_powered_12 : decode cX11_powered 12 = .ok (.iconst 1, 1) := by decide +kernel
theorem dX11_powered_13 : decode cX11_powered 13 = .ok (.istore 5, 2) := by decide +kernel
theorem dX11_powered_15 : decode cX11_powered 15 = .ok (.iload 5, 2) := by decide +kernel
theorem dX11_powered_17 : decode cX11_powered 17 = .ok (.iload 4, 2) := by decide +kernel
theorem dX11_powered_19 : decode cX11_powered 19 = .ok (.if_icmp .ge 20, 3) := by decide +kernel
theorem dX11_powered_22 : decode cX11_powered 22 = .ok (.aload_n 0, 1) := by decide +kernel
theorem dX11_powered_23 : decode cX11_powered 23 = .ok (.aload_n 0, 1) := by decide +kernel
theorem dX11_powered_24 : decode cX11_powered 24 = .ok (.getfield 31, 3) := by decide +kernel
theorem dX11_powered_27 : decode cX11_powered 27 = .ok (.iload_n 3, 1) := by decide +kernel
theorem dX11_powered_28 : decode cX11_powered 28 = .ok (.iload_n 1, 1) := by decide +kernel
theorem dX11_powered_29 : decode cX11_powered 29 = .ok (.invokevirtual 123, 3) := by decide +kernel
theorem dX11_powered_32 : decode cX11_powered 32 = .ok (.istore_n 3, 1) := by decide +kernel
theorem dX11_powered_33 : decode cX11_powered 33 = .ok (.iinc 5 1, 3) := by decide +kernel
theorem dX11_powered_36 : decode cX11_powered 36 = .ok (.goto (-21), 3) := by decide +kernel
theorem dX11_powered_39 : decode cX11_powered 39 = .ok (.iload_n 3, 1) := by decide +kernel
theorem dX11_powered_40 : decode cX11_powered 40 = .ok (.ireturn, 1) := by decide +kernel
theorem dX11_twists_0 : decode cX11_twists 0 = .ok (.iconst 0, 1) := by decide +kernel
theorem dX11_twists_1 : decode cX11_twists 1 = .ok (.istore 4, 2) := by decide +kernel
theorem dX11_twists_3 : decode cX11_twists 3 = .ok (.iload 4, 2) := by decide +kernel
theorem dX11_twists_5 : decode cX11_twists 5 = .ok (.aload_n 0, 1) := by decide +kernel
theorem dX11_twists_6 : decode cX11_twists 6 = .ok (.getfield 109, 3) := by decide +kernel
theorem dX11_twists_9 : decode cX11_twists 9 = .ok (.if_icmp .ge 149, 3) := by decide +kernel
theorem dX11_twists_12 : decode cX11_twists 12 = .ok (.iconst 0, 1) := by decide +kernel
theorem dX11_twists_13 : decode cX11_twists 13 = .ok (.istore 5, 2) := by decide +kernel
theorem dX11_twists_15 : decode cX11_twists 15 = .ok (.iload 5, 2) := by decide +kernel
theorem dX11_twists_17 : decode cX11_twists 17 = .ok (.aload_n 0, 1) := by decide +kernel
theorem dX11_twists_18 : decode cX11_twists 18 = .ok (.getfield 109, 3) := by decide +kernel
theorem dX11_twists_21 : decode cX11_twists 21 = .ok (.if_icmp .ge 131, 3) := by decide +kernel
theorem dX11_twists_24 : decode cX11_twists 24 = .ok (.aload_n 0, 1) := by decide +kernel
theorem dX11_twists_25 : decode cX11_twists 25 = .ok (.iload 4, 2) := by decide +kernel
theorem dX11_twists_27 : decode cX11_twists 27 = .ok (.invokevirtual 223, 3) := by decide +kernel
theorem dX11_twists_30 : decode cX11_twists 30 = .ok (.istore 6, 2) := by decide +kernel
theorem dX11_twists_32 : decode cX11_twists 32 = .ok (.aload_n 0, 1) := by decide +kernel
theorem dX11_twists_33 : decode cX11_twists 33 = .ok (.iload 5, 2) := by decide +kernel
theorem dX11_twists_35 : decode cX11_twists 35 = .ok (.invokevirtual 223, 3) := by decide +kernel
theorem dX11_twists_38 : decode cX11_twists 38 = .ok (.istore 7, 2) := by decide +kernel
theorem dX11_twists_40 : decode cX11_twists 40 = .ok (.aload_n 0, 1) := by decide +kernel
theorem dX11_twists_41 : decode cX11_twists 41 = .ok (.aload_n 0, 1) := by decide +kernel
theorem dX11_twists_42 : decode cX11_twists 42 = .ok (.getfield 31, 3) := by decide +kernel
theorem dX11_twists_45 : decode cX11_twists 45 = .ok (.aload_n 0, 1) := by decide +kernel
theorem dX11_twists_46 : decode cX11_twists 46 = .ok (.aload_n 0, 1) := by decide +kernel
theorem dX11_twists_47 : decode cX11_twists 47 = .ok (.getfield 31, 3) := by decide +kernel
theorem dX11_twists_50 : decode cX11_twists 50 = .ok (.iload_n 1, 1) := by decide +kernel
theorem dX11_twists_51 : decode cX11_twists 51 = .ok (.aload_n 0, 1) := by decide +kernel
theorem dX11_twists_52 : decode cX11_twists 52 = .ok (.iload 6, 2) := by decide +kernel
theorem dX11_twists_54 : decode cX11_twists 54 = .ok (.iload_n 2, 1) := by decide +kernel
theorem dX11_twists_55 : decode cX11_twists 55 = .ok (.invokevirtual 226, 3) := by decide +kernel
theorem dX11_twists_58 : decode cX11_twists 58 = .ok (.invokevirtual 123, 3) := by decide +kernel
theorem dX11_twists_61 : decode cX11_twists 61 = .ok (.aload_n 0, 1) := by decide +kernel
theorem dX11_twists_62 : decode cX11_twists 62 = .ok (.iload 7, 2) := by decide +kernel
theorem dX11_twists_64 : decode cX11_twists 64 = .ok (.iload_n 3, 1) := by decide +kernel
theorem dX11_twists_65 : decode cX11_twists 65 = .ok (.invokevirtual 226, 3) := by decide +kernel
theorem dX11_twists_68 : decode cX11_twists 68 = .ok (.invokevirtual 123, 3) := by decide +kernel
theorem dX11_twists_71 : decode cX11_twists 71 = .ok (.istore 8, 2) := by decide +kernel
theorem dX11_twists_73 : decode cX11_twists 73 = .ok (.aload_n 0, 1) := by decide +kernel
theorem dX11_twists_74 : decode cX11_twists 74 = .ok (.aload_n 0, 1) := by decide +kernel
theorem dX11_twists_75 : decode cX11_twists 75 = .ok (.aload_n 0, 1) := by decide +kernel
theorem dX11_twists_76 : decode cX11_twists 76 = .ok (.getfield 31, 3) := by decide +kernel
theorem dX11_twists_79 : decode cX11_twists 79 = .ok (.iload 6, 2) := by decide +kernel
theorem dX11_twists_81 : decode cX11_twists 81 = .ok (.iload 7, 2) := by decide +kernel
theorem dX11_twists_83 : decode cX11_twists 83 = .ok (.invokevirtual 123, 3) := by decide +kernel
theorem dX11_twists_86 : decode cX11_twists 86 = .ok (.iload 8, 2) := by decide +kernel
theorem dX11_twists_88 : decode cX11_twists 88 = .ok (.invokevirtual 229, 3) := by decide +kernel
theorem dX11_twists_91 : decode cX11_twists 91 = .ok (.istore 9, 2) := by decide +kernel
theorem dX11_twists_93 : decode cX11_twists 93 = .ok (.aload_n 0, 1) := by decide +kernel
theorem dX11_twists_94 : decode cX11_twists 94 = .ok (.iload 9, 2) := by decide +kernel
theorem dX11_twists_96 : decode cX11_twists 96 = .ok (.aload_n 0, 1) := by decide +kernel
theorem dX11_twists_97 : decode cX11_twists 97 = .ok (.getfield 25, 3) := by decide +kernel
theorem dX11_twists_100 : decode cX11_twists 100 = .ok (.invokevirtual 115, 3) := by decide +kernel
theorem dX11_twists_103 : decode cX11_twists 103 = .ok (.iconst 0, 1) := by decide +kernel
theorem dX11_twists_104 : decode cX11_twists 104 = .ok (.istore 10, 2) := by decide +kernel
theorem dX11_twists_106 : decode cX11_twists 106 = .ok (.iload 10, 2) := by decide +kernel
theorem dX11_twists_108 : decode cX11_twists 108 = .ok (.aload_n 0, 1) := by decide +kernel
theorem dX11_twists_109 : decode cX11_twists 109 = .ok (.getfield 109, 3) := by decide +kernel
theorem dX11_twists_112 : decode cX11_twists 112 = .ok (.if_icmp .ge 34, 3) := by decide +kernel
theorem dX11_twists_115 : decode cX11_twists 115 = .ok (.aload_n 0, 1) := by decide +kernel
theorem dX11_twists_116 : decode cX11_twists 116 = .ok (.getfield 16, 3) := by decide +kernel
theorem dX11_twists_119 : decode cX11_twists 119 = .ok (.bipush 25, 2) := by decide +kernel
theorem dX11_twists_121 : decode cX11_twists 121 = .ok (.iload 4, 2) := by decide +kernel
theorem dX11_twists_123 : decode cX11_twists 123 = .ok (.imul, 1) := by decide +kernel
theorem dX11_twists_124 : decode cX11_twists 124 = .ok (.iconst 5, 1) := by decide +kernel
theorem dX11_twists_125 : decode cX11_twists 125 = .ok (.iload 5, 2) := by decide +kernel
theorem dX11_twists_127 : decode cX11_twists 127 = .ok (.imul, 1) := by decide +kernel
theorem dX11_twists_128 : decode cX11_twists 128 = .ok (.iadd, 1) := by decide +kernel
theorem dX11_twists_129 : decode cX11_twists 129 = .ok (.iload 10, 2) := by decide +kernel
theorem dX11_twists_131 : decode cX11_twists 131 = .ok (.iadd, 1) := by decide +kernel
theorem dX11_twists_132 : decode cX11_twists 132 = .ok (.aload_n 0, 1) := by decide +kernel
theorem dX11_twists_133 : decode cX11_twists 133 = .ok (.getfield 25, 3) := by decide +kernel
theorem dX11_twists_136 : decode cX11_twists 136 = .ok (.iload 10, 2) := by decide +kernel
theorem dX11_twists_138 : decode cX11_twists 138 = .ok (.iaload, 1) := by decide +kernel
theorem dX11_twists_139 : decode cX11_twists 139 = .ok (.iastore, 1) := by decide +kernel
theorem dX11_twists_140 : decode cX11_twists 140 = .ok (.iinc 10 1, 3) := by decide +kernel
theorem dX11_twists_143 : decode cX11_twists 143 = .ok (.goto (-37), 3) := by decide +kernel
theorem dX11_twists_146 : decode cX11_twists 146 = .ok (.iinc 5 1, 3) := by decide +kernel
theorem dX11_twists_149 : decode cX11_twists 149 = .ok (.goto (-134), 3) := by decide +kernel
theorem dX11_twists_152 : decode cX11_twists 152 = .ok (.iinc 4 1, 3) := by decide +kernel
theorem dX11_twists_155 : decode cX11_twists 155 = .ok (.goto (-152), 3) := by decide +kernel
theorem dX11_twists_158 : decode cX11_twists 158 = .ok (.return_, 1) := by decide +kernel
theorem dX11_statement_0 : decode cX11_statement 0 = .ok (.aload_n 0, 1) := by decide +kernel
theorem dX11_statement_1 : decode cX11_statement 1 = .ok (.invokevirtual 216, 3) := by decide +kernel
theorem dX11_statement_4 : decode cX11_statement 4 = .ok (.iload_n 1, 1) := by decide +kernel
theorem dX11_statement_5 : decode cX11_statement 5 = .ok (.tableswitch 195 5 7 #[27, 58, 109], 27) := by decide +kernel
theorem dX11_statement_32 : decode cX11_statement 32 = .ok (.aload_n 0, 1) := by decide +kernel
theorem dX11_statement_33 : decode cX11_statement 33 = .ok (.iconst 0, 1) := by decide +kernel
theorem dX11_statement_34 : decode cX11_statement 34 = .ok (.aload_n 0, 1) := by decide +kernel
theorem dX11_statement_35 : decode cX11_statement 35 = .ok (.getfield 109, 3) := by decide +kernel
theorem dX11_statement_38 : decode cX11_statement 38 = .ok (.aload_n 0, 1) := by decide +kernel
theorem dX11_statement_39 : decode cX11_statement 39 = .ok (.getfield 106, 3) := by decide +kernel
theorem dX11_statement_42 : decode cX11_statement 42 = .ok (.iconst 1, 1) := by decide +kernel
theorem dX11_statement_43 : decode cX11_statement 43 = .ok (.isub, 1) := by decide +kernel
theorem dX11_statement_44 : decode cX11_statement 44 = .ok (.invokevirtual 232, 3) := by decide +kernel
theorem dX11_statement_47 : decode cX11_statement 47 = .ok (.ifCond .ne 5, 3) := by decide +kernel
theorem dX11_statement_50 : decode cX11_statement 50 = .ok (.iconst 0, 1) := by decide +kernel
theorem dX11_statement_51 : decode cX11_statement 51 = .ok (.ireturn, 1) := by decide +kernel
theorem dX11_statement_52 : decode cX11_statement 52 = .ok (.aload_n 0, 1) := by decide +kernel
theorem dX11_statement_53 : decode cX11_statement 53 = .ok (.invokevirtual 235, 3) := by decide +kernel
theorem dX11_statement_56 : decode cX11_statement 56 = .ok (.aload_n 0, 1) := by decide +kernel
theorem dX11_statement_57 : decode cX11_statement 57 = .ok (.iconst 1, 1) := by decide +kernel
theorem dX11_statement_58 : decode cX11_statement 58 = .ok (.putfield 238, 3) := by decide +kernel
theorem dX11_statement_61 : decode cX11_statement 61 = .ok (.iconst 1, 1) := by decide +kernel
theorem dX11_statement_62 : decode cX11_statement 62 = .ok (.ireturn, 1) := by decide +kernel
theorem dX11_statement_63 : decode cX11_statement 63 = .ok (.aload_n 0, 1) := by decide +kernel
theorem dX11_statement_64 : decode cX11_statement 64 = .ok (.iconst 0, 1) := by decide +kernel
theorem dX11_statement_65 : decode cX11_statement 65 = .ok (.iconst 1, 1) := by decide +kernel
theorem dX11_statement_66 : decode cX11_statement 66 = .ok (.aload_n 0, 1) := by decide +kernel
theorem dX11_statement_67 : decode cX11_statement 67 = .ok (.getfield 112, 3) := by decide +kernel
theorem dX11_statement_70 : decode cX11_statement 70 = .ok (.iconst 1, 1) := by decide +kernel
theorem dX11_statement_71 : decode cX11_statement 71 = .ok (.isub, 1) := by decide +kernel
theorem dX11_statement_72 : decode cX11_statement 72 = .ok (.invokevirtual 232, 3) := by decide +kernel
theorem dX11_statement_75 : decode cX11_statement 75 = .ok (.ifCond .eq 13, 3) := by decide +kernel
theorem dX11_statement_78 : decode cX11_statement 78 = .ok (.aload_n 0, 1) := by decide +kernel
theorem dX11_statement_79 : decode cX11_statement 79 = .ok (.iconst 1, 1) := by decide +kernel
theorem dX11_statement_80 : decode cX11_statement 80 = .ok (.iconst 2, 1) := by decide +kernel
theorem dX11_statement_81 : decode cX11_statement 81 = .ok (.iconst 4, 1) := by decide +kernel
theorem dX11_statement_82 : decode cX11_statement 82 = .ok (.invokevirtual 232, 3) := by decide +kernel
theorem dX11_statement_85 : decode cX11_statement 85 = .ok (.ifCond .ne 5, 3) := by decide +kernel
theorem dX11_statement_88 : decode cX11_statement 88 = .ok (.iconst 0, 1) := by decide +kernel
theorem dX11_statement_89 : decode cX11_statement 89 = .ok (.ireturn, 1) := by decide +kernel
theorem dX11_statement_90 : decode cX11_statement 90 = .ok (.aload_n 0, 1) := by decide +kernel
theorem dX11_statement_91 : decode cX11_statement 91 = .ok (.aload_n 0, 1) := by decide +kernel
theorem dX11_statement_92 : decode cX11_statement 92 = .ok (.getfield 41, 3) := by decide +kernel
theorem dX11_statement_95 : decode cX11_statement 95 = .ok (.iconst 0, 1) := by decide +kernel
theorem dX11_statement_96 : decode cX11_statement 96 = .ok (.iaload, 1) := by decide +kernel
theorem dX11_statement_97 : decode cX11_statement 97 = .ok (.aload_n 0, 1) := by decide +kernel
theorem dX11_statement_98 : decode cX11_statement 98 = .ok (.getfield 41, 3) := by decide +kernel
theorem dX11_statement_101 : decode cX11_statement 101 = .ok (.iconst 1, 1) := by decide +kernel
theorem dX11_statement_102 : decode cX11_statement 102 = .ok (.iaload, 1) := by decide +kernel
theorem dX11_statement_103 : decode cX11_statement 103 = .ok (.aload_n 0, 1) := by decide +kernel
theorem dX11_statement_104 : decode cX11_statement 104 = .ok (.getfield 41, 3) := by decide +kernel
theorem dX11_statement_107 : decode cX11_statement 107 = .ok (.iconst 2, 1) := by decide +kernel
theorem dX11_statement_108 : decode cX11_statement 108 = .ok (.iaload, 1) := by decide +kernel
theorem dX11_statement_109 : decode cX11_statement 109 = .ok (.invokevirtual 242, 3) := by decide +kernel
theorem dX11_statement_112 : decode cX11_statement 112 = .ok (.iconst 1, 1) := by decide +kernel
theorem dX11_statement_113 : decode cX11_statement 113 = .ok (.ireturn, 1) := by decide +kernel
theorem dX11_statement_114 : decode cX11_statement 114 = .ok (.aload_n 0, 1) := by decide +kernel
theorem dX11_statement_115 : decode cX11_statement 115 = .ok (.iconst 0, 1) := by decide +kernel
theorem dX11_statement_116 : decode cX11_statement 116 = .ok (.iconst 2, 1) := by decide +kernel
theorem dX11_statement_117 : decode cX11_statement 117 = .ok (.aload_n 0, 1) := by decide +kernel
theorem dX11_statement_118 : decode cX11_statement 118 = .ok (.getfield 109, 3) := by decide +kernel
theorem dX11_statement_121 : decode cX11_statement 121 = .ok (.iconst 1, 1) := by decide +kernel
theorem dX11_statement_122 : decode cX11_statement 122 = .ok (.isub, 1) := by decide +kernel
theorem dX11_statement_123 : decode cX11_statement 123 = .ok (.invokevirtual 232, 3) := by decide +kernel
theorem dX11_statement_126 : decode cX11_statement 126 = .ok (.ifCond .eq 21, 3) := by decide +kernel
theorem dX11_statement_129 : decode cX11_statement 129 = .ok (.aload_n 0, 1) := by decide +kernel
theorem dX11_statement_130 : decode cX11_statement 130 = .ok (.iconst 2, 1) := by decide +kernel
theorem dX11_statement_131 : decode cX11_statement 131 = .ok (.aload_n 0, 1) := by decide +kernel
theorem dX11_statement_132 : decode cX11_statement 132 = .ok (.getfield 109, 3) := by decide +kernel
theorem dX11_statement_135 : decode cX11_statement 135 = .ok (.aload_n 0, 1) := by decide +kernel
theorem dX11_statement_136 : decode cX11_statement 136 = .ok (.getfield 106, 3) := by decide +kernel
theorem dX11_statement_139 : decode cX11_statement 139 = .ok (.iconst 1, 1) := by decide +kernel
theorem dX11_statement_140 : decode cX11_statement 140 = .ok (.isub, 1) := by decide +kernel
theorem dX11_statement_141 : decode cX11_statement 141 = .ok (.invokevirtual 232, 3) := by decide +kernel
theorem dX11_statement_144 : decode cX11_statement 144 = .ok (.ifCond .ne 5, 3) := by decide +kernel
theorem dX11_statement_147 : decode cX11_statement 147 = .ok (.iconst 0, 1) := by decide +kernel
theorem dX11_statement_148 : decode cX11_statement 148 = .ok (.ireturn, 1) := by decide +kernel
theorem dX11_statement_149 : decode cX11_statement 149 = .ok (.iconst 0, 1) := by decide +kernel
theorem dX11_statement_150 : decode cX11_statement 150 = .ok (.istore_n 2, 1) := by decide +kernel
theorem dX11_statement_151 : decode cX11_statement 151 = .ok (.iload_n 2, 1) := by decide +kernel
theorem dX11_statement_152 : decode cX11_statement 152 = .ok (.aload_n 0, 1) := by decide +kernel
theorem dX11_statement_153 : decode cX11_statement 153 = .ok (.getfield 109, 3) := by decide +kernel
theorem dX11_statement_156 : decode cX11_statement 156 = .ok (.if_icmp .ge 42, 3) := by decide +kernel
theorem dX11_statement_159 : decode cX11_statement 159 = .ok (.aload_n 0, 1) := by decide +kernel
theorem dX11_statement_160 : decode cX11_statement 160 = .ok (.getfield 16, 3) := by decide +kernel
theorem dX11_statement_163 : decode cX11_statement 163 = .ok (.bipush 25, 2) := by decide +kernel
theorem dX11_statement_165 : decode cX11_statement 165 = .ok (.aload_n 0, 1) := by decide +kernel
theorem dX11_statement_166 : decode cX11_statement 166 = .ok (.getfield 41, 3) := by decide +kernel
theorem dX11_statement_169 : decode cX11_statement 169 = .ok (.iconst 0, 1) := by decide +kernel
theorem dX11_statement_170 : decode cX11_statement 170 = .ok (.iaload, 1) := by decide +kernel
theorem dX11_statement_171 : decode cX11_statement 171 = .ok (.imul, 1) := by decide +kernel
theorem dX11_statement_172 : decode cX11_statement 172 = .ok (.iconst 5, 1) := by decide +kernel
theorem dX11_statement_173 : decode cX11_statement 173 = .ok (.aload_n 0, 1) := by decide +kernel
theorem dX11_statement_174 : decode cX11_statement 174 = .ok (.getfield 41, 3) := by decide +kernel
theorem dX11_statement_177 : decode cX11_statement 177 = .ok (.iconst 1, 1) := by decide +kernel
theorem dX11_statement_178 : decode cX11_statement 178 = .ok (.iaload, 1) := by decide +kernel
theorem dX11_statement_179 : decode cX11_statement 179 = .ok (.imul, 1) := by decide +kernel
theorem dX11_statement_180 : decode cX11_statement 180 = .ok (.iadd, 1) := by decide +kernel
theorem dX11_statement_181 : decode cX11_statement 181 = .ok (.iload_n 2, 1) := by decide +kernel
theorem dX11_statement_182 : decode cX11_statement 182 = .ok (.iadd, 1) := by decide +kernel
theorem dX11_statement_183 : decode cX11_statement 183 = .ok (.aload_n 0, 1) := by decide +kernel
theorem dX11_statement_184 : decode cX11_statement 184 = .ok (.getfield 41, 3) := by decide +kernel
theorem dX11_statement_187 : decode cX11_statement 187 = .ok (.iconst 2, 1) := by decide +kernel
theorem dX11_statement_188 : decode cX11_statement 188 = .ok (.iload_n 2, 1) := by decide +kernel
theorem dX11_statement_189 : decode cX11_statement 189 = .ok (.iadd, 1) := by decide +kernel
theorem dX11_statement_190 : decode cX11_statement 190 = .ok (.iaload, 1) := by decide +kernel
theorem dX11_statement_191 : decode cX11_statement 191 = .ok (.iastore, 1) := by decide +kernel
theorem dX11_statement_192 : decode cX11_statement 192 = .ok (.iinc 2 1, 3) := by decide +kernel
theorem dX11_statement_195 : decode cX11_statement 195 = .ok (.goto (-44), 3) := by decide +kernel
theorem dX11_statement_198 : decode cX11_statement 198 = .ok (.iconst 1, 1) := by decide +kernel
theorem dX11_statement_199 : decode cX11_statement 199 = .ok (.ireturn, 1) := by decide +kernel
theorem dX11_statement_200 : decode cX11_statement 200 = .ok (.aload_n 0, 1) := by decide +kernel
theorem dX11_statement_201 : decode cX11_statement 201 = .ok (.iconst 0, 1) := by decide +kernel
theorem dX11_statement_202 : decode cX11_statement 202 = .ok (.iconst 1, 1) := by decide +kernel
theorem dX11_statement_203 : decode cX11_statement 203 = .ok (.iconst 5, 1) := by decide +kernel
theorem dX11_statement_204 : decode cX11_statement 204 = .ok (.invokevirtual 232, 3) := by decide +kernel
theorem dX11_statement_207 : decode cX11_statement 207 = .ok (.ifCond .ne 5, 3) := by decide +kernel
theorem dX11_statement_210 : decode cX11_statement 210 = .ok (.iconst 0, 1) := by decide +kernel
theorem dX11_statement_211 : decode cX11_statement 211 = .ok (.ireturn, 1) := by decide +kernel
theorem dX11_statement_212 : decode cX11_statement 212 = .ok (.aload_n 0, 1) := by decide +kernel
theorem dX11_statement_213 : decode cX11_statement 213 = .ok (.aload_n 0, 1) := by decide +kernel
theorem dX11_statement_214 : decode cX11_statement 214 = .ok (.getfield 16, 3) := by decide +kernel
theorem dX11_statement_217 : decode cX11_statement 217 = .ok (.aload_n 0, 1) := by decide +kernel
theorem dX11_statement_218 : decode cX11_statement 218 = .ok (.getfield 41, 3) := by decide +kernel
theorem dX11_statement_221 : decode cX11_statement 221 = .ok (.iconst 0, 1) := by decide +kernel
theorem dX11_statement_222 : decode cX11_statement 222 = .ok (.iaload, 1) := by decide +kernel
theorem dX11_statement_223 : decode cX11_statement 223 = .ok (.invokevirtual 150, 3) := by decide +kernel
theorem dX11_statement_226 : decode cX11_statement 226 = .ok (.iconst 0, 1) := by decide +kernel
theorem dX11_statement_227 : decode cX11_statement 227 = .ok (.istore_n 2, 1) := by decide +kernel
theorem dX11_statement_228 : decode cX11_statement 228 = .ok (.iload_n 2, 1) := by decide +kernel
theorem dX11_statement_229 : decode cX11_statement 229 = .ok (.bipush 125, 2) := by decide +kernel
theorem dX11_statement_231 : decode cX11_statement 231 = .ok (.if_icmp .ge 21, 3) := by decide +kernel
theorem dX11_statement_234 : decode cX11_statement 234 = .ok (.aload_n 0, 1) := by decide +kernel
theorem dX11_statement_235 : decode cX11_statement 235 = .ok (.getfield 16, 3) := by decide +kernel
theorem dX11_statement_238 : decode cX11_statement 238 = .ok (.iload_n 2, 1) := by decide +kernel
theorem dX11_statement_239 : decode cX11_statement 239 = .ok (.aload_n 0, 1) := by decide +kernel
theorem dX11_statement_240 : decode cX11_statement 240 = .ok (.getfield 28, 3) := by decide +kernel
theorem dX11_statement_243 : decode cX11_statement 243 = .ok (.iload_n 2, 1) := by decide +kernel
theorem dX11_statement_244 : decode cX11_statement 244 = .ok (.iaload, 1) := by decide +kernel
theorem dX11_statement_245 : decode cX11_statement 245 = .ok (.iastore, 1) := by decide +kernel
theorem dX11_statement_246 : decode cX11_statement 246 = .ok (.iinc 2 1, 3) := by decide +kernel
theorem dX11_statement_249 : decode cX11_statement 249 = .ok (.goto (-21), 3) := by decide +kernel
theorem dX11_statement_252 : decode cX11_statement 252 = .ok (.iconst 1, 1) := by decide +kernel
theorem dX11_statement_253 : decode cX11_statement 253 = .ok (.ireturn, 1) := by decide +kernel
theorem dX11_aStatement_0 : decode cX11_aStatement 0 = .ok (.iload_n 1, 1) := by decide +kernel
theorem dX11_aStatement_1 : decode cX11_aStatement 1 = .ok (.ifCond .ne 30, 3) := by decide +kernel
theorem dX11_aStatement_4 : decode cX11_aStatement 4 = .ok (.aload_n 0, 1) := by decide +kernel
theorem dX11_aStatement_5 : decode cX11_aStatement 5 = .ok (.getfield 192, 3) := by decide +kernel
theorem dX11_aStatement_8 : decode cX11_aStatement 8 = .ok (.iconst 4, 1) := by decide +kernel
theorem dX11_aStatement_9 : decode cX11_aStatement 9 = .ok (.if_icmp .eq 9, 3) := by decide +kernel
theorem dX11_aStatement_12 : decode cX11_aStatement 12 = .ok (.aload_n 0, 1) := by decide +kernel
theorem dX11_aStatement_13 : decode cX11_aStatement 13 = .ok (.iconst 1, 1) := by decide +kernel
theorem dX11_aStatement_14 : decode cX11_aStatement 14 = .ok (.invokevirtual 213, 3) := by decide +kernel
theorem dX11_aStatement_17 : decode cX11_aStatement 17 = .ok (.ireturn, 1) := by decide +kernel
theorem dX11_aStatement_18 : decode cX11_aStatement 18 = .ok (.aload_n 0, 1) := by decide +kernel
theorem dX11_aStatement_19 : decode cX11_aStatement 19 = .ok (.invokevirtual 216, 3) := by decide +kernel
theorem dX11_aStatement_22 : decode cX11_aStatement 22 = .ok (.aload_n 0, 1) := by decide +kernel
theorem dX11_aStatement_23 : decode cX11_aStatement 23 = .ok (.invokevirtual 245, 3) := by decide +kernel
theorem dX11_aStatement_26 : decode cX11_aStatement 26 = .ok (.ifCond .ne 65, 3) := by decide +kernel
theorem dX11_aStatement_29 : decode cX11_aStatement 29 = .ok (.iconst 0, 1) := by decide +kernel
theorem dX11_aStatement_30 : decode cX11_aStatement 30 = .ok (.ireturn, 1) := by decide +kernel
theorem dX11_aStatement_31 : decode cX11_aStatement 31 = .ok (.aload_n 0, 1) := by decide +kernel
theorem dX11_aStatement_32 : decode cX11_aStatement 32 = .ok (.getfield 192, 3) := by decide +kernel
theorem dX11_aStatement_35 : decode cX11_aStatement 35 = .ok (.iconst 5, 1) := by decide +kernel
theorem dX11_aStatement_36 : decode cX11_aStatement 36 = .ok (.bipush 8, 2) := by decide +kernel
theorem dX11_aStatement_38 : decode cX11_aStatement 38 = .ok (.invokestatic 98, 3) := by decide +kernel
theorem dX11_aStatement_41 : decode cX11_aStatement 41 = .ok (.ifCond .eq 19, 3) := by decide +kernel
theorem dX11_aStatement_44 : decode cX11_aStatement 44 = .ok (.aload_n 0, 1) := by decide +kernel
theorem dX11_aStatement_45 : decode cX11_aStatement 45 = .ok (.getfield 192, 3) := by decide +kernel
theorem dX11_aStatement_48 : decode cX11_aStatement 48 = .ok (.bipush 6, 2) := by decide +kernel
theorem dX11_aStatement_50 : decode cX11_aStatement 50 = .ok (.if_icmp .ne 16, 3) := by decide +kernel
theorem dX11_aStatement_53 : decode cX11_aStatement 53 = .ok (.aload_n 0, 1) := by decide +kernel
theorem dX11_aStatement_54 : decode cX11_aStatement 54 = .ok (.getfield 238, 3) := by decide +kernel
theorem dX11_aStatement_57 : decode cX11_aStatement 57 = .ok (.ifCond .ne 9, 3) := by decide +kernel
theorem dX11_aStatement_60 : decode cX11_aStatement 60 = .ok (.aload_n 0, 1) := by decide +kernel
theorem dX11_aStatement_61 : decode cX11_aStatement 61 = .ok (.iconst 1, 1) := by decide +kernel
theorem dX11_aStatement_62 : decode cX11_aStatement 62 = .ok (.invokevirtual 213, 3) := by decide +kernel
theorem dX11_aStatement_65 : decode cX11_aStatement 65 = .ok (.ireturn, 1) := by decide +kernel
theorem dX11_aStatement_66 : decode cX11_aStatement 66 = .ok (.iload_n 1, 1) := by decide +kernel
theorem dX11_aStatement_67 : decode cX11_aStatement 67 = .ok (.bipush 40, 2) := by decide +kernel
theorem dX11_aStatement_69 : decode cX11_aStatement 69 = .ok (.if_icmp .ne 9, 3) := by decide +kernel
theorem dX11_aStatement_72 : decode cX11_aStatement 72 = .ok (.aload_n 0, 1) := by decide +kernel
theorem dX11_aStatement_73 : decode cX11_aStatement 73 = .ok (.iconst 3, 1) := by decide +kernel
theorem dX11_aStatement_74 : decode cX11_aStatement 74 = .ok (.invokevirtual 213, 3) := by decide +kernel
theorem dX11_aStatement_77 : decode cX11_aStatement 77 = .ok (.ireturn, 1) := by decide +kernel
theorem dX11_aStatement_78 : decode cX11_aStatement 78 = .ok (.aload_n 0, 1) := by decide +kernel
theorem dX11_aStatement_79 : decode cX11_aStatement 79 = .ok (.aload_n 0, 1) := by decide +kernel
theorem dX11_aStatement_80 : decode cX11_aStatement 80 = .ok (.getfield 192, 3) := by decide +kernel
theorem dX11_aStatement_83 : decode cX11_aStatement 83 = .ok (.invokevirtual 248, 3) := by decide +kernel
theorem dX11_aStatement_86 : decode cX11_aStatement 86 = .ok (.ifCond .ne 5, 3) := by decide +kernel
theorem dX11_aStatement_89 : decode cX11_aStatement 89 = .ok (.iconst 0, 1) := by decide +kernel
theorem dX11_aStatement_90 : decode cX11_aStatement 90 = .ok (.ireturn, 1) := by decide +kernel
theorem dX11_aStatement_91 : decode cX11_aStatement 91 = .ok (.aload_n 0, 1) := by decide +kernel
theorem dX11_aStatement_92 : decode cX11_aStatement 92 = .ok (.getfield 192, 3) := by decide +kernel
theorem dX11_aStatement_95 : decode cX11_aStatement 95 = .ok (.iconst 3, 1) := by decide +kernel
theorem dX11_aStatement_96 : decode cX11_aStatement 96 = .ok (.if_icmp .eq 9, 3) := by decide +kernel
theorem dX11_aStatement_99 : decode cX11_aStatement 99 = .ok (.aload_n 0, 1) := by decide +kernel
theorem dX11_aStatement_100 : decode cX11_aStatement 100 = .ok (.iconst 1, 1) := by decide +kernel
theorem dX11_aStatement_101 : decode cX11_aStatement 101 = .ok (.invokevirtual 213, 3) := by decide +kernel
theorem dX11_aStatement_104 : decode cX11_aStatement 104 = .ok (.ireturn, 1) := by decide +kernel
theorem dX11_aStatement_105 : decode cX11_aStatement 105 = .ok (.aload_n 0, 1) := by decide +kernel
theorem dX11_aStatement_106 : decode cX11_aStatement 106 = .ok (.invokevirtual 216, 3) := by decide +kernel
theorem dX11_aStatement_109 : decode cX11_aStatement 109 = .ok (.iconst 1, 1) := by decide +kernel
theorem dX11_aStatement_110 : decode cX11_aStatement 110 = .ok (.ireturn, 1) := by decide +kernel
theorem dX11_text_0 : decode cX11_text 0 = .ok (.aload_n 0, 1) := by decide +kernel
theorem dX11_text_1 : decode cX11_text 1 = .ok (.iconst 0, 1) := by decide +kernel
theorem dX11_text_2 : decode cX11_text 2 = .ok (.putfield 207, 3) := by decide +kernel
theorem dX11_text_5 : decode cX11_text 5 = .ok (.iload_n 1, 1) := by decide +kernel
theorem dX11_text_6 : decode cX11_text 6 = .ok (.invokestatic 143, 3) := by decide +kernel
theorem dX11_text_9 : decode cX11_text 9 = .ok (.ifCond .ne 20, 3) := by decide +kernel
theorem dX11_text_12 : decode cX11_text 12 = .ok (.aload_n 0, 1) := by decide +kernel
theorem dX11_text_13 : decode cX11_text 13 = .ok (.iconst 0, 1) := by decide +kernel
theorem dX11_text_14 : decode cX11_text 14 = .ok (.putfield 157, 3) := by decide +kernel
theorem dX11_text_17 : decode cX11_text 17 = .ok (.aload_n 0, 1) := by decide +kernel
theorem dX11_text_18 : decode cX11_text 18 = .ok (.iconst 0, 1) := by decide +kernel
theorem dX11_text_19 : decode cX11_text 19 = .ok (.putfield 251, 3) := by decide +kernel
theorem dX11_text_22 : decode cX11_text 22 = .ok (.aload_n 0, 1) := by decide +kernel
theorem dX11_text_23 : decode cX11_text 23 = .ok (.iconst (-1), 1) := by decide +kernel
theorem dX11_text_24 : decode cX11_text 24 = .ok (.putfield 37, 3) := by decide +kernel
theorem dX11_text_27 : decode cX11_text 27 = .ok (.iconst (-1), 1) := by decide +kernel
theorem dX11_text_28 : decode cX11_text 28 = .ok (.ireturn, 1) := by decide +kernel
theorem dX11_text_29 : decode cX11_text 29 = .ok (.aload_n 0, 1) := by decide +kernel
theorem dX11_text_30 : decode cX11_text 30 = .ok (.iconst 0, 1) := by decide +kernel
theorem dX11_text_31 : decode cX11_text 31 = .ok (.putfield 160, 3) := by decide +kernel
theorem dX11_text_34 : decode cX11_text 34 = .ok (.aload_n 0, 1) := by decide +kernel
theorem dX11_text_35 : decode cX11_text 35 = .ok (.iconst 0, 1) := by decide +kernel
theorem dX11_text_36 : decode cX11_text 36 = .ok (.putfield 238, 3) := by decide +kernel
theorem dX11_text_39 : decode cX11_text 39 = .ok (.aload_n 0, 1) := by decide +kernel
theorem dX11_text_40 : decode cX11_text 40 = .ok (.iconst 2, 1) := by decide +kernel
theorem dX11_text_41 : decode cX11_text 41 = .ok (.putfield 106, 3) := by decide +kernel
theorem dX11_text_44 : decode cX11_text 44 = .ok (.aload_n 0, 1) := by decide +kernel
theorem dX11_text_45 : decode cX11_text 45 = .ok (.iconst 1, 1) := by decide +kernel
theorem dX11_text_46 : decode cX11_text 46 = .ok (.putfield 109, 3) := by decide +kernel
theorem dX11_text_49 : decode cX11_text 49 = .ok (.aload_n 0, 1) := by decide +kernel
theorem dX11_text_50 : decode cX11_text 50 = .ok (.iconst 2, 1) := by decide +kernel
theorem dX11_text_51 : decode cX11_text 51 = .ok (.putfield 112, 3) := by decide +kernel
theorem dX11_text_54 : decode cX11_text 54 = .ok (.iconst 0, 1) := by decide +kernel
theorem dX11_text_55 : decode cX11_text 55 = .ok (.istore_n 2, 1) := by decide +kernel
theorem dX11_text_56 : decode cX11_text 56 = .ok (.iload_n 2, 1) := by decide +kernel
theorem dX11_text_57 : decode cX11_text 57 = .ok (.bipush 125, 2) := by decide +kernel
theorem dX11_text_59 : decode cX11_text 59 = .ok (.if_icmp .ge 16, 3) := by decide +kernel
theorem dX11_text_62 : decode cX11_text 62 = .ok (.aload_n 0, 1) := by decide +kernel
theorem dX11_text_63 : decode cX11_text 63 = .ok (.getfield 16, 3) := by decide +kernel
theorem dX11_text_66 : decode cX11_text 66 = .ok (.iload_n 2, 1) := by decide +kernel
theorem dX11_text_67 : decode cX11_text 67 = .ok (.iconst 0, 1) := by decide +kernel
theorem dX11_text_68 : decode cX11_text 68 = .ok (.iastore, 1) := by decide +kernel
theorem dX11_text_69 : decode cX11_text 69 = .ok (.iinc 2 1, 3) := by decide +kernel
theorem dX11_text_72 : decode cX11_text 72 = .ok (.goto (-16), 3) := by decide +kernel
theorem dX11_text_75 : decode cX11_text 75 = .ok (.aload_n 0, 1) := by decide +kernel
theorem dX11_text_76 : decode cX11_text 76 = .ok (.invokevirtual 216, 3) := by decide +kernel
theorem dX11_text_79 : decode cX11_text 79 = .ok (.iconst 1, 1) := by decide +kernel
theorem dX11_text_80 : decode cX11_text 80 = .ok (.istore_n 2, 1) := by decide +kernel
theorem dX11_text_81 : decode cX11_text 81 = .ok (.iconst 0, 1) := by decide +kernel
theorem dX11_text_82 : decode cX11_text 82 = .ok (.istore_n 3, 1) := by decide +kernel
theorem dX11_text_83 : decode cX11_text 83 = .ok (.iload_n 2, 1) := by decide +kernel
theorem dX11_text_84 : decode cX11_text 84 = .ok (.ifCond .eq 22, 3) := by decide +kernel
theorem dX11_text_87 : decode cX11_text 87 = .ok (.aload_n 0, 1) := by decide +kernel
theorem dX11_text_88 : decode cX11_text 88 = .ok (.getfield 192, 3) := by decide +kernel
theorem dX11_text_91 : decode cX11_text 91 = .ok (.ifCond .eq 15, 3) := by decide +kernel
theorem dX11_text_94 : decode cX11_text 94 = .ok (.aload_n 0, 1) := by decide +kernel
theorem dX11_text_95 : decode cX11_text 95 = .ok (.iload_n 3, 1) := by decide +kernel
theorem dX11_text_96 : decode cX11_text 96 = .ok (.invokevirtual 254, 3) := by decide +kernel
theorem dX11_text_99 : decode cX11_text 99 = .ok (.istore_n 2, 1) := by decide +kernel
theorem dX11_text_100 : decode cX11_text 100 = .ok (.iinc 3 1, 3) := by decide +kernel
theorem dX11_text_103 : decode cX11_text 103 = .ok (.goto (-20), 3) := by decide +kernel
theorem dX11_text_106 : decode cX11_text 106 = .ok (.aload_n 0, 1) := by decide +kernel
theorem dX11_text_107 : decode cX11_text 107 = .ok (.iconst 0, 1) := by decide +kernel
theorem dX11_text_108 : decode cX11_text 108 = .ok (.putfield 157, 3) := by decide +kernel
theorem dX11_text_111 : decode cX11_text 111 = .ok (.aload_n 0, 1) := by decide +kernel
theorem dX11_text_112 : decode cX11_text 112 = .ok (.aload_n 0, 1) := by decide +kernel
theorem dX11_text_113 : decode cX11_text 113 = .ok (.getfield 207, 3) := by decide +kernel
theorem dX11_text_116 : decode cX11_text 116 = .ok (.putfield 251, 3) := by decide +kernel
theorem dX11_text_119 : decode cX11_text 119 = .ok (.aload_n 0, 1) := by decide +kernel
theorem dX11_text_120 : decode cX11_text 120 = .ok (.iload_n 2, 1) := by decide +kernel
theorem dX11_text_121 : decode cX11_text 121 = .ok (.ifCond .eq 7, 3) := by decide +kernel
theorem dX11_text_124 : decode cX11_text 124 = .ok (.iconst (-1), 1) := by decide +kernel
theorem dX11_text_125 : decode cX11_text 125 = .ok (.goto 7, 3) := by decide +kernel
theorem dX11_text_128 : decode cX11_text 128 = .ok (.aload_n 0, 1) := by decide +kernel
theorem dX11_text_129 : decode cX11_text 129 = .ok (.getfield 210, 3) := by decide +kernel
theorem dX11_text_132 : decode cX11_text 132 = .ok (.putfield 37, 3) := by decide +kernel
theorem dX11_text_135 : decode cX11_text 135 = .ok (.iload_n 2, 1) := by decide +kernel
theorem dX11_text_136 : decode cX11_text 136 = .ok (.ifCond .ne 5, 3) := by decide +kernel
theorem dX11_text_139 : decode cX11_text 139 = .ok (.iconst (-1), 1) := by decide +kernel
theorem dX11_text_140 : decode cX11_text 140 = .ok (.ireturn, 1) := by decide +kernel
theorem dX11_text_141 : decode cX11_text 141 = .ok (.aload_n 0, 1) := by decide +kernel
theorem dX11_text_142 : decode cX11_text 142 = .ok (.iload_n 1, 1) := by decide +kernel
theorem dX11_text_143 : decode cX11_text 143 = .ok (.aload_n 0, 1) := by decide +kernel
theorem dX11_text_144 : decode cX11_text 144 = .ok (.getfield 16, 3) := by decide +kernel
theorem dX11_text_147 : decode cX11_text 147 = .ok (.invokevirtual 154, 3) := by decide +kernel
theorem dX11_text_150 : decode cX11_text 150 = .ok (.aload_n 0, 1) := by decide +kernel
theorem dX11_text_151 : decode cX11_text 151 = .ok (.getfield 112, 3) := by decide +kernel
theorem dX11_text_154 : decode cX11_text 154 = .ok (.ireturn, 1) := by decide +kernel
theorem dX11_fault_0 : decode cX11_fault 0 = .ok (.iload_n 1, 1) := by decide +kernel
theorem dX11_fault_1 : decode cX11_fault 1 = .ok (.ifCond .ne 10, 3) := by decide +kernel
theorem dX11_fault_4 : decode cX11_fault 4 = .ok (.aload_n 0, 1) := by decide +kernel
theorem dX11_fault_5 : decode cX11_fault 5 = .ok (.getfield 251, 3) := by decide +kernel
theorem dX11_fault_8 : decode cX11_fault 8 = .ok (.goto 16, 3) := by decide +kernel
theorem dX11_fault_11 : decode cX11_fault 11 = .ok (.iload_n 1, 1) := by decide +kernel
theorem dX11_fault_12 : decode cX11_fault 12 = .ok (.iconst 1, 1) := by decide +kernel
theorem dX11_fault_13 : decode cX11_fault 13 = .ok (.if_icmp .ne 10, 3) := by decide +kernel
theorem dX11_fault_16 : decode cX11_fault 16 = .ok (.aload_n 0, 1) := by decide +kernel
theorem dX11_fault_17 : decode cX11_fault 17 = .ok (.getfield 37, 3) := by decide +kernel
theorem dX11_fault_20 : decode cX11_fault 20 = .ok (.goto 4, 3) := by decide +kernel
theorem dX11_fault_23 : decode cX11_fault 23 = .ok (.iconst (-1), 1) := by decide +kernel
theorem dX11_fault_24 : decode cX11_fault 24 = .ok (.ireturn, 1) := by decide +kernel
theorem dX11_rank_0 : decode cX11_rank 0 = .ok (.iconst 0, 1) := by decide +kernel
theorem dX11_rank_1 : decode cX11_rank 1 = .ok (.istore_n 1, 1) := by decide +kernel
theorem dX11_rank_2 : decode cX11_rank 2 = .ok (.iconst 0, 1) := by decide +kernel
theorem dX11_rank_3 : decode cX11_rank 3 = .ok (.istore_n 2, 1) := by decide +kernel
theorem dX11_rank_4 : decode cX11_rank 4 = .ok (.iload_n 2, 1) := by decide +kernel
theorem dX11_rank_5 : decode cX11_rank 5 = .ok (.aload_n 0, 1) := by decide +kernel
theorem dX11_rank_6 : decode cX11_rank 6 = .ok (.getfield 109, 3) := by decide +kernel
theorem dX11_rank_9 : decode cX11_rank 9 = .ok (.if_icmp .ge 235, 3) := by decide +kernel
theorem dX11_rank_12 : decode cX11_rank 12 = .ok (.iload_n 1, 1) := by decide +kernel
theorem dX11_rank_13 : decode cX11_rank 13 = .ok (.aload_n 0, 1) := by decide +kernel
theorem dX11_rank_14 : decode cX11_rank 14 = .ok (.getfield 109, 3) := by decide +kernel
theorem dX11_rank_17 : decode cX11_rank 17 = .ok (.if_icmp .ge 227, 3) := by decide +kernel
theorem dX11_rank_20 : decode cX11_rank 20 = .ok (.iload_n 1, 1) := by decide +kernel
theorem dX11_rank_21 : decode cX11_rank 21 = .ok (.istore_n 3, 1) := by decide +kernel
theorem dX11_rank_22 : decode cX11_rank 22 = .ok (.iload_n 3, 1) := by decide +kernel
theorem dX11_rank_23 : decode cX11_rank 23 = .ok (.aload_n 0, 1) := by decide +kernel
theorem dX11_rank_24 : decode cX11_rank 24 = .ok (.getfield 109, 3) := by decide +kernel
theorem dX11_rank_27 : decode cX11_rank 27 = .ok (.if_icmp .ge 20, 3) := by decide +kernel
theorem dX11_rank_30 : decode cX11_rank 30 = .ok (.aload_n 0, 1) := by decide +kernel
theorem dX11_rank_31 : decode cX11_rank 31 = .ok (.getfield 46, 3) := by decide +kernel
theorem dX11_rank_34 : decode cX11_rank 34 = .ok (.iload_n 3, 1) := by decide +kernel
theorem dX11_rank_35 : decode cX11_rank 35 = .ok (.aaload, 1) := by decide +kernel
theorem dX11_rank_36 : decode cX11_rank 36 = .ok (.iload_n 2, 1) := by decide +kernel
theorem dX11_rank_37 : decode cX11_rank 37 = .ok (.iaload, 1) := by decide +kernel
theorem dX11_rank_38 : decode cX11_rank 38 = .ok (.ifCond .ne 9, 3) := by decide +kernel
theorem dX11_rank_41 : decode cX11_rank 41 = .ok (.iinc 3 1, 3) := by decide +kernel
theorem dX11_rank_44 : decode cX11_rank 44 = .ok (.goto (-22), 3) := by decide +kernel
theorem dX11_rank_47 : decode cX11_rank 47 = .ok (.iload_n 3, 1) := by decide +kernel
theorem dX11_rank_48 : decode cX11_rank 48 = .ok (.aload_n 0, 1) := by decide +kernel
theorem dX11_rank_49 : decode cX11_rank 49 = .ok (.getfield 109, 3) := by decide +kernel
theorem dX11_rank_52 : decode cX11_rank 52 = .ok (.if_icmp .ne 6, 3) := by decide +kernel
theorem dX11_rank_55 : decode cX11_rank 55 = .ok (.goto 183, 3) := by decide +kernel
theorem dX11_rank_58 : decode cX11_rank 58 = .ok (.aload_n 0, 1) := by decide +kernel
theorem dX11_rank_59 : decode cX11_rank 59 = .ok (.getfield 46, 3) := by decide +kernel
theorem dX11_rank_62 : decode cX11_rank 62 = .ok (.iload_n 3, 1) := by decide +kernel
theorem dX11_rank_63 : decode cX11_rank 63 = .ok (.aaload, 1) := by decide +kernel
theorem dX11_rank_64 : decode cX11_rank 64 = .ok (.astore 4, 2) := by decide +kernel
theorem dX11_rank_66 : decode cX11_rank 66 = .ok (.aload_n 0, 1) := by decide +kernel
theorem dX11_rank_67 : decode cX11_rank 67 = .ok (.getfield 46, 3) := by decide +kernel
theorem dX11_rank_70 : decode cX11_rank 70 = .ok (.iload_n 3, 1) := by decide +kernel
theorem dX11_rank_71 : decode cX11_rank 71 = .ok (.aload_n 0, 1) := by decide +kernel
theorem dX11_rank_72 : decode cX11_rank 72 = .ok (.getfield 46, 3) := by decide +kernel
theorem dX11_rank_75 : decode cX11_rank 75 = .ok (.iload_n 1, 1) := by decide +kernel
theorem dX11_rank_76 : decode cX11_rank 76 = .ok (.aaload, 1) := by decide +kernel
theorem dX11_rank_77 : decode cX11_rank 77 = .ok (.aastore, 1) := by decide +kernel
theorem dX11_rank_78 : decode cX11_rank 78 = .ok (.aload_n 0, 1) := by decide +kernel
theorem dX11_rank_79 : decode cX11_rank 79 = .ok (.getfield 46, 3) := by decide +kernel
theorem dX11_rank_82 : decode cX11_rank 82 = .ok (.iload_n 1, 1) := by decide +kernel
theorem dX11_rank_83 : decode cX11_rank 83 = .ok (.aload 4, 2) := by decide +kernel
theorem dX11_rank_85 : decode cX11_rank 85 = .ok (.aastore, 1) := by decide +kernel
theorem dX11_rank_86 : decode cX11_rank 86 = .ok (.iconst 1, 1) := by decide +kernel
theorem dX11_rank_87 : decode cX11_rank 87 = .ok (.istore 5, 2) := by decide +kernel
theorem dX11_rank_89 : decode cX11_rank 89 = .ok (.iload 5, 2) := by decide +kernel
theorem dX11_rank_91 : decode cX11_rank 91 = .ok (.aload 4, 2) := by decide +kernel
theorem dX11_rank_93 : decode cX11_rank 93 = .ok (.iload_n 2, 1) := by decide +kernel
theorem dX11_rank_94 : decode cX11_rank 94 = .ok (.iaload, 1) := by decide +kernel
theorem dX11_rank_95 : decode cX11_rank 95 = .ok (.imul, 1) := by decide +kernel
theorem dX11_rank_96 : decode cX11_rank 96 = .ok (.aload_n 0, 1) := by decide +kernel
theorem dX11_rank_97 : decode cX11_rank 97 = .ok (.getfield 106, 3) := by decide +kernel
theorem dX11_rank_100 : decode cX11_rank 100 = .ok (.irem, 1) := by decide +kernel
theorem dX11_rank_101 : decode cX11_rank 101 = .ok (.iconst 1, 1) := by decide +kernel
theorem dX11_rank_102 : decode cX11_rank 102 = .ok (.if_icmp .eq 9, 3) := by decide +kernel
theorem dX11_rank_105 : decode cX11_rank 105 = .ok (.iinc 5 1, 3) := by decide +kernel
theorem dX11_rank_108 : decode cX11_rank 108 = .ok (.goto (-19), 3) := by decide +kernel
theorem dX11_rank_111 : decode cX11_rank 111 = .ok (.iconst 0, 1) := by decide +kernel
theorem dX11_rank_112 : decode cX11_rank 112 = .ok (.istore 6, 2) := by decide +kernel
theorem dX11_rank_114 : decode cX11_rank 114 = .ok (.iload 6, 2) := by decide +kernel
theorem dX11_rank_116 : decode cX11_rank 116 = .ok (.aload_n 0, 1) := by decide +kernel
theorem dX11_rank_117 : decode cX11_rank 117 = .ok (.getfield 109, 3) := by decide +kernel
theorem dX11_rank_120 : decode cX11_rank 120 = .ok (.if_icmp .ge 27, 3) := by decide +kernel
theorem dX11_rank_123 : decode cX11_rank 123 = .ok (.aload 4, 2) := by decide +kernel
theorem dX11_rank_125 : decode cX11_rank 125 = .ok (.iload 6, 2) := by decide +kernel
theorem dX11_rank_127 : decode cX11_rank 127 = .ok (.aload 4, 2) := by decide +kernel
theorem dX11_rank_129 : decode cX11_rank 129 = .ok (.iload 6, 2) := by decide +kernel
theorem dX11_rank_131 : decode cX11_rank 131 = .ok (.iaload, 1) := by decide +kernel
theorem dX11_rank_132 : decode cX11_rank 132 = .ok (.iload 5, 2) := by decide +kernel
theorem dX11_rank_134 : decode cX11_rank 134 = .ok (.imul, 1) := by decide +kernel
theorem dX11_rank_135 : decode cX11_rank 135 = .ok (.aload_n 0, 1) := by decide +kernel
theorem dX11_rank_136 : decode cX11_rank 136 = .ok (.getfield 106, 3) := by decide +kernel
theorem dX11_rank_139 : decode cX11_rank 139 = .ok (.irem, 1) := by decide +kernel
theorem dX11_rank_140 : decode cX11_rank 140 = .ok (.iastore, 1) := by decide +kernel
theorem dX11_rank_141 : decode cX11_rank 141 = .ok (.iinc 6 1, 3) := by decide +kernel
theorem dX11_rank_144 : decode cX11_rank 144 = .ok (.goto (-30), 3) := by decide +kernel
theorem dX11_rank_147 : decode cX11_rank 147 = .ok (.iload_n 1, 1) := by decide +kernel
theorem dX11_rank_148 : decode cX11_rank 148 = .ok (.iconst 1, 1) := by decide +kernel
theorem dX11_rank_149 : decode cX11_rank 149 = .ok (.iadd, 1) := by decide +kernel
theorem dX11_rank_150 : decode cX11_rank 150 = .ok (.istore 6, 2) := by decide +kernel
theorem dX11_rank_152 : decode cX11_rank 152 = .ok (.iload 6, 2) := by decide +kernel
theorem dX11_rank_154 : decode cX11_rank 154 = .ok (.aload_n 0, 1) := by decide +kernel
theorem dX11_rank_155 : decode cX11_rank 155 = .ok (.getfield 109, 3) := by decide +kernel
theorem dX11_rank_158 : decode cX11_rank 158 = .ok (.if_icmp .ge 77, 3) := by decide +kernel
theorem dX11_rank_161 : decode cX11_rank 161 = .ok (.aload_n 0, 1) := by decide +kernel
theorem dX11_rank_162 : decode cX11_rank 162 = .ok (.getfield 46, 3) := by decide +kernel
theorem dX11_rank_165 : decode cX11_rank 165 = .ok (.iload 6, 2) := by decide +kernel
theorem dX11_rank_167 : decode cX11_rank 167 = .ok (.aaload, 1) := by decide +kernel
theorem dX11_rank_168 : decode cX11_rank 168 = .ok (.iload_n 2, 1) := by decide +kernel
theorem dX11_rank_169 : decode cX11_rank 169 = .ok (.iaload, 1) := by decide +kernel
theorem dX11_rank_170 : decode cX11_rank 170 = .ok (.istore 7, 2) := by decide +kernel
theorem dX11_rank_172 : decode cX11_rank 172 = .ok (.iconst 0, 1) := by decide +kernel
theorem dX11_rank_173 : decode cX11_rank 173 = .ok (.istore 8, 2) := by decide +kernel
theorem dX11_rank_175 : decode cX11_rank 175 = .ok (.iload 8, 2) := by decide +kernel
theorem dX11_rank_177 : decode cX11_rank 177 = .ok (.aload_n 0, 1) := by decide +kernel
theorem dX11_rank_178 : decode cX11_rank 178 = .ok (.getfield 109, 3) := by decide +kernel
theorem dX11_rank_181 : decode cX11_rank 181 = .ok (.if_icmp .ge 48, 3) := by decide +kernel
theorem dX11_rank_184 : decode cX11_rank 184 = .ok (.aload_n 0, 1) := by decide +kernel
theorem dX11_rank_185 : decode cX11_rank 185 = .ok (.getfield 46, 3) := by decide +kernel
theorem dX11_rank_188 : decode cX11_rank 188 = .ok (.iload 6, 2) := by decide +kernel
theorem dX11_rank_190 : decode cX11_rank 190 = .ok (.aaload, 1) := by decide +kernel
theorem dX11_rank_191 : decode cX11_rank 191 = .ok (.iload 8, 2) := by decide +kernel
theorem dX11_rank_193 : decode cX11_rank 193 = .ok (.aload_n 0, 1) := by decide +kernel
theorem dX11_rank_194 : decode cX11_rank 194 = .ok (.getfield 46, 3) := by decide +kernel
theorem dX11_rank_197 : decode cX11_rank 197 = .ok (.iload 6, 2) := by decide +kernel
theorem dX11_rank_199 : decode cX11_rank 199 = .ok (.aaload, 1) := by decide +kernel
theorem dX11_rank_200 : decode cX11_rank 200 = .ok (.iload 8, 2) := by decide +kernel
theorem dX11_rank_202 : decode cX11_rank 202 = .ok (.iaload, 1) := by decide +kernel
theorem dX11_rank_203 : decode cX11_rank 203 = .ok (.aload_n 0, 1) := by decide +kernel
theorem dX11_rank_204 : decode cX11_rank 204 = .ok (.getfield 106, 3) := by decide +kernel
theorem dX11_rank_207 : decode cX11_rank 207 = .ok (.iload 7, 2) := by decide +kernel
theorem dX11_rank_209 : decode cX11_rank 209 = .ok (.isub, 1) := by decide +kernel
theorem dX11_rank_210 : decode cX11_rank 210 = .ok (.aload 4, 2) := by decide +kernel
theorem dX11_rank_212 : decode cX11_rank 212 = .ok (.iload 8, 2) := by decide +kernel
theorem dX11_rank_214 : decode cX11_rank 214 = .ok (.iaload, 1) := by decide +kernel
theorem dX11_rank_215 : decode cX11_rank 215 = .ok (.imul, 1) := by decide +kernel
theorem dX11_rank_216 : decode cX11_rank 216 = .ok (.iadd, 1) := by decide +kernel
theorem dX11_rank_217 : decode cX11_rank 217 = .ok (.aload_n 0, 1) := by decide +kernel
theorem dX11_rank_218 : decode cX11_rank 218 = .ok (.getfield 106, 3) := by decide +kernel
theorem dX11_rank_221 : decode cX11_rank 221 = .ok (.irem, 1) := by decide +kernel
theorem dX11_rank_222 : decode cX11_rank 222 = .ok (.iastore, 1) := by decide +kernel
theorem dX11_rank_223 : decode cX11_rank 223 = .ok (.iinc 8 1, 3) := by decide +kernel
theorem dX11_rank_226 : decode cX11_rank 226 = .ok (.goto (-51), 3) := by decide +kernel
theorem dX11_rank_229 : decode cX11_rank 229 = .ok (.iinc 6 1, 3) := by decide +kernel
theorem dX11_rank_232 : decode cX11_rank 232 = .ok (.goto (-80), 3) := by decide +kernel
theorem dX11_rank_235 : decode cX11_rank 235 = .ok (.iinc 1 1, 3) := by decide +kernel
theorem dX11_rank_238 : decode cX11_rank 238 = .ok (.iinc 2 1, 3) := by decide +kernel
theorem dX11_rank_241 : decode cX11_rank 241 = .ok (.goto (-237), 3) := by decide +kernel
theorem dX11_rank_244 : decode cX11_rank 244 = .ok (.iload_n 1, 1) := by decide +kernel
theorem dX11_rank_245 : decode cX11_rank 245 = .ok (.ireturn, 1) := by decide +kernel
theorem dX11_laysMatrix_0 : decode cX11_laysMatrix 0 = .ok (.aload_n 0, 1) := by decide +kernel
theorem dX11_laysMatrix_1 : decode cX11_laysMatrix 1 = .ok (.iload_n 1, 1) := by decide +kernel
theorem dX11_laysMatrix_2 : decode cX11_laysMatrix 2 = .ok (.aload_n 0, 1) := by decide +kernel
theorem dX11_laysMatrix_3 : decode cX11_laysMatrix 3 = .ok (.getfield 19, 3) := by decide +kernel
theorem dX11_laysMatrix_6 : decode cX11_laysMatrix 6 = .ok (.invokevirtual 115, 3) := by decide +kernel
theorem dX11_laysMatrix_9 : decode cX11_laysMatrix 9 = .ok (.iconst 0, 1) := by decide +kernel
theorem dX11_laysMatrix_10 : decode cX11_laysMatrix 10 = .ok (.istore_n 3, 1) := by decide +kernel
theorem dX11_laysMatrix_11 : decode cX11_laysMatrix 11 = .ok (.iload_n 3, 1) := by decide +kernel
theorem dX11_laysMatrix_12 : decode cX11_laysMatrix 12 = .ok (.aload_n 0, 1) := by decide +kernel
theorem dX11_laysMatrix_13 : decode cX11_laysMatrix 13 = .ok (.getfield 109, 3) := by decide +kernel
theorem dX11_laysMatrix_16 : decode cX11_laysMatrix 16 = .ok (.if_icmp .ge 133, 3) := by decide +kernel
theorem dX11_laysMatrix_19 : decode cX11_laysMatrix 19 = .ok (.iconst 0, 1) := by decide +kernel
theorem dX11_laysMatrix_20 : decode cX11_laysMatrix 20 = .ok (.istore 4, 2) := by decide +kernel
theorem dX11_laysMatrix_22 : decode cX11_laysMatrix 22 = .ok (.iload 4, 2) := by decide +kernel
theorem dX11_laysMatrix_24 : decode cX11_laysMatrix 24 = .ok (.aload_n 0, 1) := by decide +kernel
theorem dX11_laysMatrix_25 : decode cX11_laysMatrix 25 = .ok (.getfield 109, 3) := by decide +kernel
theorem dX11_laysMatrix_28 : decode cX11_laysMatrix 28 = .ok (.if_icmp .ge 115, 3) := by decide +kernel
theorem dX11_laysMatrix_31 : decode cX11_laysMatrix 31 = .ok (.iconst 0, 1) := by decide +kernel
theorem dX11_laysMatrix_32 : decode cX11_laysMatrix 32 = .ok (.istore 5, 2) := by decide +kernel
theorem dX11_laysMatrix_34 : decode cX11_laysMatrix 34 = .ok (.iconst 0, 1) := by decide +kernel
theorem dX11_laysMatrix_35 : decode cX11_laysMatrix 35 = .ok (.istore 6, 2) := by decide +kernel
theorem dX11_laysMatrix_37 : decode cX11_laysMatrix 37 = .ok (.iload 6, 2) := by decide +kernel
theorem dX11_laysMatrix_39 : decode cX11_laysMatrix 39 = .ok (.aload_n 0, 1) := by decide +kernel
theorem dX11_laysMatrix_40 : decode cX11_laysMatrix 40 = .ok (.getfield 109, 3) := by decide +kernel
theorem dX11_laysMatrix_43 : decode cX11_laysMatrix 43 = .ok (.if_icmp .ge 78, 3) := by decide +kernel
theorem dX11_laysMatrix_46 : decode cX11_laysMatrix 46 = .ok (.iload 5, 2) := by decide +kernel
theorem dX11_laysMatrix_48 : decode cX11_laysMatrix 48 = .ok (.aload_n 0, 1) := by decide +kernel
theorem dX11_laysMatrix_49 : decode cX11_laysMatrix 49 = .ok (.getfield 19, 3) := by decide +kernel
theorem dX11_laysMatrix_52 : decode cX11_laysMatrix 52 = .ok (.iload 6, 2) := by decide +kernel
theorem dX11_laysMatrix_54 : decode cX11_laysMatrix 54 = .ok (.iaload, 1) := by decide +kernel
theorem dX11_laysMatrix_55 : decode cX11_laysMatrix 55 = .ok (.aload_n 0, 1) := by decide +kernel
theorem dX11_laysMatrix_56 : decode cX11_laysMatrix 56 = .ok (.getfield 16, 3) := by decide +kernel
theorem dX11_laysMatrix_59 : decode cX11_laysMatrix 59 = .ok (.iload_n 2, 1) := by decide +kernel
theorem dX11_laysMatrix_60 : decode cX11_laysMatrix 60 = .ok (.ifCond .ne 18, 3) := by decide +kernel
theorem dX11_laysMatrix_63 : decode cX11_laysMatrix 63 = .ok (.bipush 25, 2) := by decide +kernel
theorem dX11_laysMatrix_65 : decode cX11_laysMatrix 65 = .ok (.iload 6, 2) := by decide +kernel
theorem dX11_laysMatrix_67 : decode cX11_laysMatrix 67 = .ok (.imul, 1) := by decide +kernel
theorem dX11_laysMatrix_68 : decode cX11_laysMatrix 68 = .ok (.iconst 5, 1) := by decide +kernel
theorem dX11_laysMatrix_69 : decode cX11_laysMatrix 69 = .ok (.iload_n 3, 1) := by decide +kernel
theorem dX11_laysMatrix_70 : decode cX11_laysMatrix 70 = .ok (.imul, 1) := by decide +kernel
theorem dX11_laysMatrix_71 : decode cX11_laysMatrix 71 = .ok (.iadd, 1) := by decide +kernel
theorem dX11_laysMatrix_72 : decode cX11_laysMatrix 72 = .ok (.iload 4, 2) := by decide +kernel
theorem dX11_laysMatrix_74 : decode cX11_laysMatrix 74 = .ok (.iadd, 1) := by decide +kernel
theorem dX11_laysMatrix_75 : decode cX11_laysMatrix 75 = .ok (.goto 35, 3) := by decide +kernel
theorem dX11_laysMatrix_78 : decode cX11_laysMatrix 78 = .ok (.iload_n 2, 1) := by decide +kernel
theorem dX11_laysMatrix_79 : decode cX11_laysMatrix 79 = .ok (.iconst 1, 1) := by decide +kernel
theorem dX11_laysMatrix_80 : decode cX11_laysMatrix 80 = .ok (.if_icmp .ne 18, 3) := by decide +kernel
theorem dX11_laysMatrix_83 : decode cX11_laysMatrix 83 = .ok (.bipush 25, 2) := by decide +kernel
theorem dX11_laysMatrix_85 : decode cX11_laysMatrix 85 = .ok (.iload_n 3, 1) := by decide +kernel
theorem dX11_laysMatrix_86 : decode cX11_laysMatrix 86 = .ok (.imul, 1) := by decide +kernel
theorem dX11_laysMatrix_87 : decode cX11_laysMatrix 87 = .ok (.iconst 5, 1) := by decide +kernel
theorem dX11_laysMatrix_88 : decode cX11_laysMatrix 88 = .ok (.iload 6, 2) := by decide +kernel
theorem dX11_laysMatrix_90 : decode cX11_laysMatrix 90 = .ok (.imul, 1) := by decide +kernel
theorem dX11_laysMatrix_91 : decode cX11_laysMatrix 91 = .ok (.iadd, 1) := by decide +kernel
theorem dX11_laysMatrix_92 : decode cX11_laysMatrix 92 = .ok (.iload 4, 2) := by decide +kernel
theorem dX11_laysMatrix_94 : decode cX11_laysMatrix 94 = .ok (.iadd, 1) := by decide +kernel
theorem dX11_laysMatrix_95 : decode cX11_laysMatrix 95 = .ok (.goto 15, 3) := by decide +kernel
theorem dX11_laysMatrix_98 : decode cX11_laysMatrix 98 = .ok (.bipush 25, 2) := by decide +kernel
theorem dX11_laysMatrix_100 : decode cX11_laysMatrix 100 = .ok (.iload_n 3, 1) := by decide +kernel
theorem dX11_laysMatrix_101 : decode cX11_laysMatrix 101 = .ok (.imul, 1) := by decide +kernel
theorem dX11_laysMatrix_102 : decode cX11_laysMatrix 102 = .ok (.iconst 5, 1) := by decide +kernel
theorem dX11_laysMatrix_103 : decode cX11_laysMatrix 103 = .ok (.iload 4, 2) := by decide +kernel
theorem dX11_laysMatrix_105 : decode cX11_laysMatrix 105 = .ok (.imul, 1) := by decide +kernel
theorem dX11_laysMatrix_106 : decode cX11_laysMatrix 106 = .ok (.iadd, 1) := by decide +kernel
theorem dX11_laysMatrix_107 : decode cX11_laysMatrix 107 = .ok (.iload 6, 2) := by decide +kernel
theorem dX11_laysMatrix_109 : decode cX11_laysMatrix 109 = .ok (.iadd, 1) := by decide +kernel
theorem dX11_laysMatrix_110 : decode cX11_laysMatrix 110 = .ok (.iaload, 1) := by decide +kernel
theorem dX11_laysMatrix_111 : decode cX11_laysMatrix 111 = .ok (.imul, 1) := by decide +kernel
theorem dX11_laysMatrix_112 : decode cX11_laysMatrix 112 = .ok (.iadd, 1) := by decide +kernel
theorem dX11_laysMatrix_113 : decode cX11_laysMatrix 113 = .ok (.istore 5, 2) := by decide +kernel
theorem dX11_laysMatrix_115 : decode cX11_laysMatrix 115 = .ok (.iinc 6 1, 3) := by decide +kernel
theorem dX11_laysMatrix_118 : decode cX11_laysMatrix 118 = .ok (.goto (-81), 3) := by decide +kernel
theorem dX11_laysMatrix_121 : decode cX11_laysMatrix 121 = .ok (.aload_n 0, 1) := by decide +kernel
theorem dX11_laysMatrix_122 : decode cX11_laysMatrix 122 = .ok (.getfield 46, 3) := by decide +kernel
theorem dX11_laysMatrix_125 : decode cX11_laysMatrix 125 = .ok (.iload_n 3, 1) := by decide +kernel
theorem dX11_laysMatrix_126 : decode cX11_laysMatrix 126 = .ok (.aaload, 1) := by decide +kernel
theorem dX11_laysMatrix_127 : decode cX11_laysMatrix 127 = .ok (.iload 4, 2) := by decide +kernel
theorem dX11_laysMatrix_129 : decode cX11_laysMatrix 129 = .ok (.iload 5, 2) := by decide +kernel
theorem dX11_laysMatrix_131 : decode cX11_laysMatrix 131 = .ok (.aload_n 0, 1) := by decide +kernel
theorem dX11_laysMatrix_132 : decode cX11_laysMatrix 132 = .ok (.getfield 106, 3) := by decide +kernel
theorem dX11_laysMatrix_135 : decode cX11_laysMatrix 135 = .ok (.irem, 1) := by decide +kernel
theorem dX11_laysMatrix_136 : decode cX11_laysMatrix 136 = .ok (.iastore, 1) := by decide +kernel
theorem dX11_laysMatrix_137 : decode cX11_laysMatrix 137 = .ok (.iinc 4 1, 3) := by decide +kernel
theorem dX11_laysMatrix_140 : decode cX11_laysMatrix 140 = .ok (.goto (-118), 3) := by decide +kernel
theorem dX11_laysMatrix_143 : decode cX11_laysMatrix 143 = .ok (.iinc 3 1, 3) := by decide +kernel
theorem dX11_laysMatrix_146 : decode cX11_laysMatrix 146 = .ok (.goto (-135), 3) := by decide +kernel
theorem dX11_laysMatrix_149 : decode cX11_laysMatrix 149 = .ok (.return_, 1) := by decide +kernel
theorem dX11_rankOf_0 : decode cX11_rankOf 0 = .ok (.aload_n 0, 1) := by decide +kernel
theorem dX11_rankOf_1 : decode cX11_rankOf 1 = .ok (.iload_n 1, 1) := by decide +kernel
theorem dX11_rankOf_2 : decode cX11_rankOf 2 = .ok (.iload_n 2, 1) := by decide +kernel
theorem dX11_rankOf_3 : decode cX11_rankOf 3 = .ok (.invokevirtual 257, 3) := by decide +kernel
theorem dX11_rankOf_6 : decode cX11_rankOf 6 = .ok (.aload_n 0, 1) := by decide +kernel
theorem dX11_rankOf_7 : decode cX11_rankOf 7 = .ok (.invokevirtual 260, 3) := by decide +kernel
theorem dX11_rankOf_10 : decode cX11_rankOf 10 = .ok (.ireturn, 1) := by decide +kernel
theorem dX11_firstFail_0 : decode cX11_firstFail 0 = .ok (.iconst 1, 1) := by decide +kernel
theorem dX11_firstFail_1 : decode cX11_firstFail 1 = .ok (.istore_n 1, 1) := by decide +kernel
theorem dX11_firstFail_2 : decode cX11_firstFail 2 = .ok (.iload_n 1, 1) := by decide +kernel
theorem dX11_firstFail_3 : decode cX11_firstFail 3 = .ok (.aload_n 0, 1) := by decide +kernel
theorem dX11_firstFail_4 : decode cX11_firstFail 4 = .ok (.getfield 112, 3) := by decide +kernel
theorem dX11_firstFail_7 : decode cX11_firstFail 7 = .ok (.if_icmp .ge 59, 3) := by decide +kernel
theorem dX11_firstFail_10 : decode cX11_firstFail 10 = .ok (.aload_n 0, 1) := by decide +kernel
theorem dX11_firstFail_11 : decode cX11_firstFail 11 = .ok (.iload_n 1, 1) := by decide +kernel
theorem dX11_firstFail_12 : decode cX11_firstFail 12 = .ok (.iconst 0, 1) := by decide +kernel
theorem dX11_firstFail_13 : decode cX11_firstFail 13 = .ok (.invokevirtual 263, 3) := by decide +kernel
theorem dX11_firstFail_16 : decode cX11_firstFail 16 = .ok (.aload_n 0, 1) := by decide +kernel
theorem dX11_firstFail_17 : decode cX11_firstFail 17 = .ok (.getfield 109, 3) := by decide +kernel
theorem dX11_firstFail_20 : decode cX11_firstFail 20 = .ok (.if_icmp .ne 6, 3) := by decide +kernel
theorem dX11_firstFail_23 : decode cX11_firstFail 23 = .ok (.goto 37, 3) := by decide +kernel
theorem dX11_firstFail_26 : decode cX11_firstFail 26 = .ok (.iconst 1, 1) := by decide +kernel
theorem dX11_firstFail_27 : decode cX11_firstFail 27 = .ok (.istore_n 2, 1) := by decide +kernel
theorem dX11_firstFail_28 : decode cX11_firstFail 28 = .ok (.iload_n 2, 1) := by decide +kernel
theorem dX11_firstFail_29 : decode cX11_firstFail 29 = .ok (.aload_n 0, 1) := by decide +kernel
theorem dX11_firstFail_30 : decode cX11_firstFail 30 = .ok (.getfield 112, 3) := by decide +kernel
theorem dX11_firstFail_33 : decode cX11_firstFail 33 = .ok (.if_icmp .ge 27, 3) := by decide +kernel
theorem dX11_firstFail_36 : decode cX11_firstFail 36 = .ok (.aload_n 0, 1) := by decide +kernel
theorem dX11_firstFail_37 : decode cX11_firstFail 37 = .ok (.iload_n 1, 1) := by decide +kernel
theorem dX11_firstFail_38 : decode cX11_firstFail 38 = .ok (.iload_n 2, 1) := by decide +kernel
theorem dX11_firstFail_39 : decode cX11_firstFail 39 = .ok (.invokevirtual 266, 3) := by decide +kernel
theorem dX11_firstFail_42 : decode cX11_firstFail 42 = .ok (.ifCond .ne 12, 3) := by decide +kernel
theorem dX11_firstFail_45 : decode cX11_firstFail 45 = .ok (.aload_n 0, 1) := by decide +kernel
theorem dX11_firstFail_46 : decode cX11_firstFail 46 = .ok (.getfield 112, 3) := by decide +kernel
theorem dX11_firstFail_49 : decode cX11_firstFail 49 = .ok (.iload_n 1, 1) := by decide +kernel
theorem dX11_firstFail_50 : decode cX11_firstFail 50 = .ok (.imul, 1) := by decide +kernel
theorem dX11_firstFail_51 : decode cX11_firstFail 51 = .ok (.iload_n 2, 1) := by decide +kernel
theorem dX11_firstFail_52 : decode cX11_firstFail 52 = .ok (.iadd, 1) := by decide +kernel
theorem dX11_firstFail_53 : decode cX11_firstFail 53 = .ok (.ireturn, 1) := by decide +kernel
theorem dX11_firstFail_54 : decode cX11_firstFail 54 = .ok (.iinc 2 1, 3) := by decide +kernel
theorem dX11_firstFail_57 : decode cX11_firstFail 57 = .ok (.goto (-29), 3) := by decide +kernel
theorem dX11_firstFail_60 : decode cX11_firstFail 60 = .ok (.iinc 1 1, 3) := by decide +kernel
theorem dX11_firstFail_63 : decode cX11_firstFail 63 = .ok (.goto (-61), 3) := by decide +kernel
theorem dX11_firstFail_66 : decode cX11_firstFail 66 = .ok (.iconst (-1), 1) := by decide +kernel
theorem dX11_firstFail_67 : decode cX11_firstFail 67 = .ok (.ireturn, 1) := by decide +kernel
theorem dX11_unit_0 : decode cX11_unit 0 = .ok (.iconst 0, 1) := by decide +kernel
theorem dX11_unit_1 : decode cX11_unit 1 = .ok (.istore_n 1, 1) := by decide +kernel
theorem dX11_unit_2 : decode cX11_unit 2 = .ok (.iload_n 1, 1) := by decide +kernel
theorem dX11_unit_3 : decode cX11_unit 3 = .ok (.aload_n 0, 1) := by decide +kernel
theorem dX11_unit_4 : decode cX11_unit 4 = .ok (.getfield 112, 3) := by decide +kernel
theorem dX11_unit_7 : decode cX11_unit 7 = .ok (.if_icmp .ge 79, 3) := by decide +kernel
theorem dX11_unit_10 : decode cX11_unit 10 = .ok (.iconst 1, 1) := by decide +kernel
theorem dX11_unit_11 : decode cX11_unit 11 = .ok (.istore_n 2, 1) := by decide +kernel
theorem dX11_unit_12 : decode cX11_unit 12 = .ok (.iconst 0, 1) := by decide +kernel
theorem dX11_unit_13 : decode cX11_unit 13 = .ok (.istore_n 3, 1) := by decide +kernel
theorem dX11_unit_14 : decode cX11_unit 14 = .ok (.iload_n 3, 1) := by decide +kernel
theorem dX11_unit_15 : decode cX11_unit 15 = .ok (.aload_n 0, 1) := by decide +kernel
theorem dX11_unit_16 : decode cX11_unit 16 = .ok (.getfield 109, 3) := by decide +kernel
theorem dX11_unit_19 : decode cX11_unit 19 = .ok (.if_icmp .ge 55, 3) := by decide +kernel
theorem dX11_unit_22 : decode cX11_unit 22 = .ok (.iload_n 2, 1) := by decide +kernel
theorem dX11_unit_23 : decode cX11_unit 23 = .ok (.ifCond .eq 51, 3) := by decide +kernel
theorem dX11_unit_26 : decode cX11_unit 26 = .ok (.aload_n 0, 1) := by decide +kernel
theorem dX11_unit_27 : decode cX11_unit 27 = .ok (.iload_n 1, 1) := by decide +kernel
theorem dX11_unit_28 : decode cX11_unit 28 = .ok (.aload_n 0, 1) := by decide +kernel
theorem dX11_unit_29 : decode cX11_unit 29 = .ok (.iload_n 3, 1) := by decide +kernel
theorem dX11_unit_30 : decode cX11_unit 30 = .ok (.invokevirtual 223, 3) := by decide +kernel
theorem dX11_unit_33 : decode cX11_unit 33 = .ok (.invokevirtual 266, 3) := by decide +kernel
theorem dX11_unit_36 : decode cX11_unit 36 = .ok (.aload_n 0, 1) := by decide +kernel
theorem dX11_unit_37 : decode cX11_unit 37 = .ok (.iload_n 3, 1) := by decide +kernel
theorem dX11_unit_38 : decode cX11_unit 38 = .ok (.invokevirtual 223, 3) := by decide +kernel
theorem dX11_unit_41 : decode cX11_unit 41 = .ok (.if_icmp .ne 25, 3) := by decide +kernel
theorem dX11_unit_44 : decode cX11_unit 44 = .ok (.aload_n 0, 1) := by decide +kernel
theorem dX11_unit_45 : decode cX11_unit 45 = .ok (.aload_n 0, 1) := by decide +kernel
theorem dX11_unit_46 : decode cX11_unit 46 = .ok (.iload_n 3, 1) := by decide +kernel
theorem dX11_unit_47 : decode cX11_unit 47 = .ok (.invokevirtual 223, 3) := by decide +kernel
theorem dX11_unit_50 : decode cX11_unit 50 = .ok (.iload_n 1, 1) := by decide +kernel
theorem dX11_unit_51 : decode cX11_unit 51 = .ok (.invokevirtual 266, 3) := by decide +kernel
theorem dX11_unit_54 : decode cX11_unit 54 = .ok (.aload_n 0, 1) := by decide +kernel
theorem dX11_unit_55 : decode cX11_unit 55 = .ok (.iload_n 3, 1) := by decide +kernel
theorem dX11_unit_56 : decode cX11_unit 56 = .ok (.invokevirtual 223, 3) := by decide +kernel
theorem dX11_unit_59 : decode cX11_unit 59 = .ok (.if_icmp .ne 7, 3) := by decide +kernel
theorem dX11_unit_62 : decode cX11_unit 62 = .ok (.iconst 1, 1) := by decide +kernel
theorem dX11_unit_63 : decode cX11_unit 63 = .ok (.goto 4, 3) := by decide +kernel
theorem dX11_unit_66 : decode cX11_unit 66 = .ok (.iconst 0, 1) := by decide +kernel
theorem dX11_unit_67 : decode cX11_unit 67 = .ok (.istore_n 2, 1) := by decide +kernel
theorem dX11_unit_68 : decode cX11_unit 68 = .ok (.iinc 3 1, 3) := by decide +kernel
theorem dX11_unit_71 : decode cX11_unit 71 = .ok (.goto (-57), 3) := by decide +kernel
theorem dX11_unit_74 : decode cX11_unit 74 = .ok (.iload_n 2, 1) := by decide +kernel
theorem dX11_unit_75 : decode cX11_unit 75 = .ok (.ifCond .eq 5, 3) := by decide +kernel
theorem dX11_unit_78 : decode cX11_unit 78 = .ok (.iload_n 1, 1) := by decide +kernel
theorem dX11_unit_79 : decode cX11_unit 79 = .ok (.ireturn, 1) := by decide +kernel
theorem dX11_unit_80 : decode cX11_unit 80 = .ok (.iinc 1 1, 3) := by decide +kernel
theorem dX11_unit_83 : decode cX11_unit 83 = .ok (.goto (-81), 3) := by decide +kernel
theorem dX11_unit_86 : decode cX11_unit 86 = .ok (.iconst (-1), 1) := by decide +kernel
theorem dX11_unit_87 : decode cX11_unit 87 = .ok (.ireturn, 1) := by decide +kernel
theorem dX11_commutes_0 : decode cX11_commutes 0 = .ok (.iconst 0, 1) := by decide +kernel
theorem dX11_commutes_1 : decode cX11_commutes 1 = .ok (.istore_n 1, 1) := by decide +kernel
theorem dX11_commutes_2 : decode cX11_commutes 2 = .ok (.iload_n 1, 1) := by decide +kernel
theorem dX11_commutes_3 : decode cX11_commutes 3 = .ok (.aload_n 0, 1) := by decide +kernel
theorem dX11_commutes_4 : decode cX11_commutes 4 = .ok (.getfield 109, 3) := by decide +kernel
theorem dX11_commutes_7 : decode cX11_commutes 7 = .ok (.if_icmp .ge 73, 3) := by decide +kernel
theorem dX11_commutes_10 : decode cX11_commutes 10 = .ok (.iconst 0, 1) := by decide +kernel
theorem dX11_commutes_11 : decode cX11_commutes 11 = .ok (.istore_n 2, 1) := by decide +kernel
theorem dX11_commutes_12 : decode cX11_commutes 12 = .ok (.iload_n 2, 1) := by decide +kernel
theorem dX11_commutes_13 : decode cX11_commutes 13 = .ok (.iload_n 1, 1) := by decide +kernel
theorem dX11_commutes_14 : decode cX11_commutes 14 = .ok (.if_icmp .ge 60, 3) := by decide +kernel
theorem dX11_commutes_17 : decode cX11_commutes 17 = .ok (.iconst 0, 1) := by decide +kernel
theorem dX11_commutes_18 : decode cX11_commutes 18 = .ok (.istore_n 3, 1) := by decide +kernel
theorem dX11_commutes_19 : decode cX11_commutes 19 = .ok (.iload_n 3, 1) := by decide +kernel
theorem dX11_commutes_20 : decode cX11_commutes 20 = .ok (.aload_n 0, 1) := by decide +kernel
theorem dX11_commutes_21 : decode cX11_commutes 21 = .ok (.getfield 109, 3) := by decide +kernel
theorem dX11_commutes_24 : decode cX11_commutes 24 = .ok (.if_icmp .ge 44, 3) := by decide +kernel
theorem dX11_commutes_27 : decode cX11_commutes 27 = .ok (.aload_n 0, 1) := by decide +kernel
theorem dX11_commutes_28 : decode cX11_commutes 28 = .ok (.getfield 16, 3) := by decide +kernel
theorem dX11_commutes_31 : decode cX11_commutes 31 = .ok (.bipush 25, 2) := by decide +kernel
theorem dX11_commutes_33 : decode cX11_commutes 33 = .ok (.iload_n 1, 1) := by decide +kernel
theorem dX11_commutes_34 : decode cX11_commutes 34 = .ok (.imul, 1) := by decide +kernel
theorem dX11_commutes_35 : decode cX11_commutes 35 = .ok (.iconst 5, 1) := by decide +kernel
theorem dX11_commutes_36 : decode cX11_commutes 36 = .ok (.iload_n 2, 1) := by decide +kernel
theorem dX11_commutes_37 : decode cX11_commutes 37 = .ok (.imul, 1) := by decide +kernel
theorem dX11_commutes_38 : decode cX11_commutes 38 = .ok (.iadd, 1) := by decide +kernel
theorem dX11_commutes_39 : decode cX11_commutes 39 = .ok (.iload_n 3, 1) := by decide +kernel
theorem dX11_commutes_40 : decode cX11_commutes 40 = .ok (.iadd, 1) := by decide +kernel
theorem dX11_commutes_41 : decode cX11_commutes 41 = .ok (.iaload, 1) := by decide +kernel
theorem dX11_commutes_42 : decode cX11_commutes 42 = .ok (.aload_n 0, 1) := by decide +kernel
theorem dX11_commutes_43 : decode cX11_commutes 43 = .ok (.getfield 16, 3) := by decide +kernel
theorem dX11_commutes_46 : decode cX11_commutes 46 = .ok (.bipush 25, 2) := by decide +kernel
theorem dX11_commutes_48 : decode cX11_commutes 48 = .ok (.iload_n 2, 1) := by decide +kernel
theorem dX11_commutes_49 : decode cX11_commutes 49 = .ok (.imul, 1) := by decide +kernel
theorem dX11_commutes_50 : decode cX11_commutes 50 = .ok (.iconst 5, 1) := by decide +kernel
theorem dX11_commutes_51 : decode cX11_commutes 51 = .ok (.iload_n 1, 1) := by decide +kernel
theorem dX11_commutes_52 : decode cX11_commutes 52 = .ok (.imul, 1) := by decide +kernel
theorem dX11_commutes_53 : decode cX11_commutes 53 = .ok (.iadd, 1) := by decide +kernel
theorem dX11_commutes_54 : decode cX11_commutes 54 = .ok (.iload_n 3, 1) := by decide +kernel
theorem dX11_commutes_55 : decode cX11_commutes 55 = .ok (.iadd, 1) := by decide +kernel
theorem dX11_commutes_56 : decode cX11_commutes 56 = .ok (.iaload, 1) := by decide +kernel
theorem dX11_commutes_57 : decode cX11_commutes 57 = .ok (.if_icmp .eq 5, 3) := by decide +kernel
theorem dX11_commutes_60 : decode cX11_commutes 60 = .ok (.iconst 0, 1) := by decide +kernel
theorem dX11_commutes_61 : decode cX11_commutes 61 = .ok (.ireturn, 1) := by decide +kernel
theorem dX11_commutes_62 : decode cX11_commutes 62 = .ok (.iinc 3 1, 3) := by decide +kernel
theorem dX11_commutes_65 : decode cX11_commutes 65 = .ok (.goto (-46), 3) := by decide +kernel
theorem dX11_commutes_68 : decode cX11_commutes 68 = .ok (.iinc 2 1, 3) := by decide +kernel
theorem dX11_commutes_71 : decode cX11_commutes 71 = .ok (.goto (-59), 3) := by decide +kernel
theorem dX11_commutes_74 : decode cX11_commutes 74 = .ok (.iinc 1 1, 3) := by decide +kernel
theorem dX11_commutes_77 : decode cX11_commutes 77 = .ok (.goto (-75), 3) := by decide +kernel
theorem dX11_commutes_80 : decode cX11_commutes 80 = .ok (.iconst 1, 1) := by decide +kernel
theorem dX11_commutes_81 : decode cX11_commutes 81 = .ok (.ireturn, 1) := by decide +kernel
theorem dX11_firstApart_0 : decode cX11_firstApart 0 = .ok (.iconst 0, 1) := by decide +kernel
theorem dX11_firstApart_1 : decode cX11_firstApart 1 = .ok (.istore_n 1, 1) := by decide +kernel
theorem dX11_firstApart_2 : decode cX11_firstApart 2 = .ok (.iload_n 1, 1) := by decide +kernel
theorem dX11_firstApart_3 : decode cX11_firstApart 3 = .ok (.aload_n 0, 1) := by decide +kernel
theorem dX11_firstApart_4 : decode cX11_firstApart 4 = .ok (.getfield 109, 3) := by decide +kernel
theorem dX11_firstApart_7 : decode cX11_firstApart 7 = .ok (.if_icmp .ge 101, 3) := by decide +kernel
theorem dX11_firstApart_10 : decode cX11_firstApart 10 = .ok (.iconst 0, 1) := by decide +kernel
theorem dX11_firstApart_11 : decode cX11_firstApart 11 = .ok (.istore_n 2, 1) := by decide +kernel
theorem dX11_firstApart_12 : decode cX11_firstApart 12 = .ok (.iload_n 2, 1) := by decide +kernel
theorem dX11_firstApart_13 : decode cX11_firstApart 13 = .ok (.aload_n 0, 1) := by decide +kernel
theorem dX11_firstApart_14 : decode cX11_firstApart 14 = .ok (.getfield 109, 3) := by decide +kernel
theorem dX11_firstApart_17 : decode cX11_firstApart 17 = .ok (.if_icmp .ge 85, 3) := by decide +kernel
theorem dX11_firstApart_20 : decode cX11_firstApart 20 = .ok (.iconst 0, 1) := by decide +kernel
theorem dX11_firstApart_21 : decode cX11_firstApart 21 = .ok (.istore_n 3, 1) := by decide +kernel
theorem dX11_firstApart_22 : decode cX11_firstApart 22 = .ok (.iload_n 3, 1) := by decide +kernel
theorem dX11_firstApart_23 : decode cX11_firstApart 23 = .ok (.aload_n 0, 1) := by decide +kernel
theorem dX11_firstApart_24 : decode cX11_firstApart 24 = .ok (.getfield 109, 3) := by decide +kernel
theorem dX11_firstApart_27 : decode cX11_firstApart 27 = .ok (.if_icmp .ge 69, 3) := by decide +kernel
theorem dX11_firstApart_30 : decode cX11_firstApart 30 = .ok (.aload_n 0, 1) := by decide +kernel
theorem dX11_firstApart_31 : decode cX11_firstApart 31 = .ok (.aload_n 0, 1) := by decide +kernel
theorem dX11_firstApart_32 : decode cX11_firstApart 32 = .ok (.aload_n 0, 1) := by decide +kernel
theorem dX11_firstApart_33 : decode cX11_firstApart 33 = .ok (.iload_n 1, 1) := by decide +kernel
theorem dX11_firstApart_34 : decode cX11_firstApart 34 = .ok (.invokevirtual 223, 3) := by decide +kernel
theorem dX11_firstApart_37 : decode cX11_firstApart 37 = .ok (.aload_n 0, 1) := by decide +kernel
theorem dX11_firstApart_38 : decode cX11_firstApart 38 = .ok (.iload_n 2, 1) := by decide +kernel
theorem dX11_firstApart_39 : decode cX11_firstApart 39 = .ok (.invokevirtual 223, 3) := by decide +kernel
theorem dX11_firstApart_42 : decode cX11_firstApart 42 = .ok (.invokevirtual 266, 3) := by decide +kernel
theorem dX11_firstApart_45 : decode cX11_firstApart 45 = .ok (.aload_n 0, 1) := by decide +kernel
theorem dX11_firstApart_46 : decode cX11_firstApart 46 = .ok (.iload_n 3, 1) := by decide +kernel
theorem dX11_firstApart_47 : decode cX11_firstApart 47 = .ok (.invokevirtual 223, 3) := by decide +kernel
theorem dX11_firstApart_50 : decode cX11_firstApart 50 = .ok (.invokevirtual 266, 3) := by decide +kernel
theorem dX11_firstApart_53 : decode cX11_firstApart 53 = .ok (.aload_n 0, 1) := by decide +kernel
theorem dX11_firstApart_54 : decode cX11_firstApart 54 = .ok (.aload_n 0, 1) := by decide +kernel
theorem dX11_firstApart_55 : decode cX11_firstApart 55 = .ok (.iload_n 1, 1) := by decide +kernel
theorem dX11_firstApart_56 : decode cX11_firstApart 56 = .ok (.invokevirtual 223, 3) := by decide +kernel
theorem dX11_firstApart_59 : decode cX11_firstApart 59 = .ok (.aload_n 0, 1) := by decide +kernel
theorem dX11_firstApart_60 : decode cX11_firstApart 60 = .ok (.aload_n 0, 1) := by decide +kernel
theorem dX11_firstApart_61 : decode cX11_firstApart 61 = .ok (.iload_n 2, 1) := by decide +kernel
theorem dX11_firstApart_62 : decode cX11_firstApart 62 = .ok (.invokevirtual 223, 3) := by decide +kernel
theorem dX11_firstApart_65 : decode cX11_firstApart 65 = .ok (.aload_n 0, 1) := by decide +kernel
theorem dX11_firstApart_66 : decode cX11_firstApart 66 = .ok (.iload_n 3, 1) := by decide +kernel
theorem dX11_firstApart_67 : decode cX11_firstApart 67 = .ok (.invokevirtual 223, 3) := by decide +kernel
theorem dX11_firstApart_70 : decode cX11_firstApart 70 = .ok (.invokevirtual 266, 3) := by decide +kernel
theorem dX11_firstApart_73 : decode cX11_firstApart 73 = .ok (.invokevirtual 266, 3) := by decide +kernel
theorem dX11_firstApart_76 : decode cX11_firstApart 76 = .ok (.if_icmp .eq 14, 3) := by decide +kernel
theorem dX11_firstApart_79 : decode cX11_firstApart 79 = .ok (.bipush 25, 2) := by decide +kernel
theorem dX11_firstApart_81 : decode cX11_firstApart 81 = .ok (.iload_n 1, 1) := by decide +kernel
theorem dX11_firstApart_82 : decode cX11_firstApart 82 = .ok (.imul, 1) := by decide +kernel
theorem dX11_firstApart_83 : decode cX11_firstApart 83 = .ok (.iconst 5, 1) := by decide +kernel
theorem dX11_firstApart_84 : decode cX11_firstApart 84 = .ok (.iload_n 2, 1) := by decide +kernel
theorem dX11_firstApart_85 : decode cX11_firstApart 85 = .ok (.imul, 1) := by decide +kernel
theorem dX11_firstApart_86 : decode cX11_firstApart 86 = .ok (.iadd, 1) := by decide +kernel
theorem dX11_firstApart_87 : decode cX11_firstApart 87 = .ok (.iload_n 3, 1) := by decide +kernel
theorem dX11_firstApart_88 : decode cX11_firstApart 88 = .ok (.iadd, 1) := by decide +kernel
theorem dX11_firstApart_89 : decode cX11_firstApart 89 = .ok (.ireturn, 1) := by decide +kernel
theorem dX11_firstApart_90 : decode cX11_firstApart 90 = .ok (.iinc 3 1, 3) := by decide +kernel
theorem dX11_firstApart_93 : decode cX11_firstApart 93 = .ok (.goto (-71), 3) := by decide +kernel
theorem dX11_firstApart_96 : decode cX11_firstApart 96 = .ok (.iinc 2 1, 3) := by decide +kernel
theorem dX11_firstApart_99 : decode cX11_firstApart 99 = .ok (.goto (-87), 3) := by decide +kernel
theorem dX11_firstApart_102 : decode cX11_firstApart 102 = .ok (.iinc 1 1, 3) := by decide +kernel
theorem dX11_firstApart_105 : decode cX11_firstApart 105 = .ok (.goto (-103), 3) := by decide +kernel
theorem dX11_firstApart_108 : decode cX11_firstApart 108 = .ok (.iconst (-1), 1) := by decide +kernel
theorem dX11_firstApart_109 : decode cX11_firstApart 109 = .ok (.ireturn, 1) := by decide +kernel
theorem dX11_joins_0 : decode cX11_joins 0 = .ok (.iconst 0, 1) := by decide +kernel
theorem dX11_joins_1 : decode cX11_joins 1 = .ok (.istore_n 3, 1) := by decide +kernel
theorem dX11_joins_2 : decode cX11_joins 2 = .ok (.iload_n 3, 1) := by decide +kernel
theorem dX11_joins_3 : decode cX11_joins 3 = .ok (.aload_n 0, 1) := by decide +kernel
theorem dX11_joins_4 : decode cX11_joins 4 = .ok (.getfield 109, 3) := by decide +kernel
theorem dX11_joins_7 : decode cX11_joins 7 = .ok (.if_icmp .ge 121, 3) := by decide +kernel
theorem dX11_joins_10 : decode cX11_joins 10 = .ok (.iconst 0, 1) := by decide +kernel
theorem dX11_joins_11 : decode cX11_joins 11 = .ok (.istore 4, 2) := by decide +kernel
theorem dX11_joins_13 : decode cX11_joins 13 = .ok (.iload 4, 2) := by decide +kernel
theorem dX11_joins_15 : decode cX11_joins 15 = .ok (.aload_n 0, 1) := by decide +kernel
theorem dX11_joins_16 : decode cX11_joins 16 = .ok (.getfield 109, 3) := by decide +kernel
theorem dX11_joins_19 : decode cX11_joins 19 = .ok (.if_icmp .ge 103, 3) := by decide +kernel
theorem dX11_joins_22 : decode cX11_joins 22 = .ok (.iload_n 2, 1) := by decide +kernel
theorem dX11_joins_23 : decode cX11_joins 23 = .ok (.ifCond .ne 7, 3) := by decide +kernel
theorem dX11_joins_26 : decode cX11_joins 26 = .ok (.iload_n 1, 1) := by decide +kernel
theorem dX11_joins_27 : decode cX11_joins 27 = .ok (.goto 8, 3) := by decide +kernel
theorem dX11_joins_30 : decode cX11_joins 30 = .ok (.aload_n 0, 1) := by decide +kernel
theorem dX11_joins_31 : decode cX11_joins 31 = .ok (.iload_n 3, 1) := by decide +kernel
theorem dX11_joins_32 : decode cX11_joins 32 = .ok (.invokevirtual 223, 3) := by decide +kernel
theorem dX11_joins_35 : decode cX11_joins 35 = .ok (.istore 5, 2) := by decide +kernel
theorem dX11_joins_37 : decode cX11_joins 37 = .ok (.iload_n 2, 1) := by decide +kernel
theorem dX11_joins_38 : decode cX11_joins 38 = .ok (.iconst 1, 1) := by decide +kernel
theorem dX11_joins_39 : decode cX11_joins 39 = .ok (.if_icmp .ne 7, 3) := by decide +kernel
theorem dX11_joins_42 : decode cX11_joins 42 = .ok (.iload_n 1, 1) := by decide +kernel
theorem dX11_joins_43 : decode cX11_joins 43 = .ok (.goto 21, 3) := by decide +kernel
theorem dX11_joins_46 : decode cX11_joins 46 = .ok (.iload_n 2, 1) := by decide +kernel
theorem dX11_joins_47 : decode cX11_joins 47 = .ok (.ifCond .ne 11, 3) := by decide +kernel
theorem dX11_joins_50 : decode cX11_joins 50 = .ok (.aload_n 0, 1) := by decide +kernel
theorem dX11_joins_51 : decode cX11_joins 51 = .ok (.iload_n 3, 1) := by decide +kernel
theorem dX11_joins_52 : decode cX11_joins 52 = .ok (.invokevirtual 223, 3) := by decide +kernel
theorem dX11_joins_55 : decode cX11_joins 55 = .ok (.goto 9, 3) := by decide +kernel
theorem dX11_joins_58 : decode cX11_joins 58 = .ok (.aload_n 0, 1) := by decide +kernel
theorem dX11_joins_59 : decode cX11_joins 59 = .ok (.iload 4, 2) := by decide +kernel
theorem dX11_joins_61 : decode cX11_joins 61 = .ok (.invokevirtual 223, 3) := by decide +kernel
theorem dX11_joins_64 : decode cX11_joins 64 = .ok (.istore 6, 2) := by decide +kernel
theorem dX11_joins_66 : decode cX11_joins 66 = .ok (.iload_n 2, 1) := by decide +kernel
theorem dX11_joins_67 : decode cX11_joins 67 = .ok (.iconst 2, 1) := by decide +kernel
theorem dX11_joins_68 : decode cX11_joins 68 = .ok (.if_icmp .ne 7, 3) := by decide +kernel
theorem dX11_joins_71 : decode cX11_joins 71 = .ok (.iload_n 1, 1) := by decide +kernel
theorem dX11_joins_72 : decode cX11_joins 72 = .ok (.goto 9, 3) := by decide +kernel
theorem dX11_joins_75 : decode cX11_joins 75 = .ok (.aload_n 0, 1) := by decide +kernel
theorem dX11_joins_76 : decode cX11_joins 76 = .ok (.iload 4, 2) := by decide +kernel
theorem dX11_joins_78 : decode cX11_joins 78 = .ok (.invokevirtual 223, 3) := by decide +kernel
theorem dX11_joins_81 : decode cX11_joins 81 = .ok (.istore 7, 2) := by decide +kernel
theorem dX11_joins_83 : decode cX11_joins 83 = .ok (.aload_n 0, 1) := by decide +kernel
theorem dX11_joins_84 : decode cX11_joins 84 = .ok (.aload_n 0, 1) := by decide +kernel
theorem dX11_joins_85 : decode cX11_joins 85 = .ok (.iload 5, 2) := by decide +kernel
theorem dX11_joins_87 : decode cX11_joins 87 = .ok (.iload 6, 2) := by decide +kernel
theorem dX11_joins_89 : decode cX11_joins 89 = .ok (.invokevirtual 266, 3) := by decide +kernel
theorem dX11_joins_92 : decode cX11_joins 92 = .ok (.iload 7, 2) := by decide +kernel
theorem dX11_joins_94 : decode cX11_joins 94 = .ok (.invokevirtual 266, 3) := by decide +kernel
theorem dX11_joins_97 : decode cX11_joins 97 = .ok (.aload_n 0, 1) := by decide +kernel
theorem dX11_joins_98 : decode cX11_joins 98 = .ok (.iload 5, 2) := by decide +kernel
theorem dX11_joins_100 : decode cX11_joins 100 = .ok (.aload_n 0, 1) := by decide +kernel
theorem dX11_joins_101 : decode cX11_joins 101 = .ok (.iload 6, 2) := by decide +kernel
theorem dX11_joins_103 : decode cX11_joins 103 = .ok (.iload 7, 2) := by decide +kernel
theorem dX11_joins_105 : decode cX11_joins 105 = .ok (.invokevirtual 266, 3) := by decide +kernel
theorem dX11_joins_108 : decode cX11_joins 108 = .ok (.invokevirtual 266, 3) := by decide +kernel
theorem dX11_joins_111 : decode cX11_joins 111 = .ok (.if_icmp .eq 5, 3) := by decide +kernel
theorem dX11_joins_114 : decode cX11_joins 114 = .ok (.iconst 0, 1) := by decide +kernel
theorem dX11_joins_115 : decode cX11_joins 115 = .ok (.ireturn, 1) := by decide +kernel
theorem dX11_joins_116 : decode cX11_joins 116 = .ok (.iinc 4 1, 3) := by decide +kernel
theorem dX11_joins_119 : decode cX11_joins 119 = .ok (.goto (-106), 3) := by decide +kernel
theorem dX11_joins_122 : decode cX11_joins 122 = .ok (.iinc 3 1, 3) := by decide +kernel
theorem dX11_joins_125 : decode cX11_joins 125 = .ok (.goto (-123), 3) := by decide +kernel
theorem dX11_joins_128 : decode cX11_joins 128 = .ok (.iconst 1, 1) := by decide +kernel
theorem dX11_joins_129 : decode cX11_joins 129 = .ok (.ireturn, 1) := by decide +kernel
theorem dX11_nucleus_0 : decode cX11_nucleus 0 = .ok (.iconst 0, 1) := by decide +kernel
theorem dX11_nucleus_1 : decode cX11_nucleus 1 = .ok (.istore_n 2, 1) := by decide +kernel
theorem dX11_nucleus_2 : decode cX11_nucleus 2 = .ok (.iconst 0, 1) := by decide +kernel
theorem dX11_nucleus_3 : decode cX11_nucleus 3 = .ok (.istore_n 3, 1) := by decide +kernel
theorem dX11_nucleus_4 : decode cX11_nucleus 4 = .ok (.iload_n 3, 1) := by decide +kernel
theorem dX11_nucleus_5 : decode cX11_nucleus 5 = .ok (.aload_n 0, 1) := by decide +kernel
theorem dX11_nucleus_6 : decode cX11_nucleus 6 = .ok (.getfield 112, 3) := by decide +kernel
theorem dX11_nucleus_9 : decode cX11_nucleus 9 = .ok (.if_icmp .ge 26, 3) := by decide +kernel
theorem dX11_nucleus_12 : decode cX11_nucleus 12 = .ok (.iload_n 2, 1) := by decide +kernel
theorem dX11_nucleus_13 : decode cX11_nucleus 13 = .ok (.aload_n 0, 1) := by decide +kernel
theorem dX11_nucleus_14 : decode cX11_nucleus 14 = .ok (.iload_n 3, 1) := by decide +kernel
theorem dX11_nucleus_15 : decode cX11_nucleus 15 = .ok (.iload_n 1, 1) := by decide +kernel
theorem dX11_nucleus_16 : decode cX11_nucleus 16 = .ok (.invokevirtual 269, 3) := by decide +kernel
theorem dX11_nucleus_19 : decode cX11_nucleus 19 = .ok (.ifCond .eq 7, 3) := by decide +kernel
theorem dX11_nucleus_22 : decode cX11_nucleus 22 = .ok (.iconst 1, 1) := by decide +kernel
theorem dX11_nucleus_23 : decode cX11_nucleus 23 = .ok (.goto 4, 3) := by decide +kernel
theorem dX11_nucleus_26 : decode cX11_nucleus 26 = .ok (.iconst 0, 1) := by decide +kernel
theorem dX11_nucleus_27 : decode cX11_nucleus 27 = .ok (.iadd, 1) := by decide +kernel
theorem dX11_nucleus_28 : decode cX11_nucleus 28 = .ok (.istore_n 2, 1) := by decide +kernel
theorem dX11_nucleus_29 : decode cX11_nucleus 29 = .ok (.iinc 3 1, 3) := by decide +kernel
theorem dX11_nucleus_32 : decode cX11_nucleus 32 = .ok (.goto (-28), 3) := by decide +kernel
theorem dX11_nucleus_35 : decode cX11_nucleus 35 = .ok (.iload_n 2, 1) := by decide +kernel
theorem dX11_nucleus_36 : decode cX11_nucleus 36 = .ok (.ireturn, 1) := by decide +kernel
theorem dX11_centre_0 : decode cX11_centre 0 = .ok (.iconst 0, 1) := by decide +kernel
theorem dX11_centre_1 : decode cX11_centre 1 = .ok (.istore_n 1, 1) := by decide +kernel
theorem dX11_centre_2 : decode cX11_centre 2 = .ok (.iconst 0, 1) := by decide +kernel
theorem dX11_centre_3 : decode cX11_centre 3 = .ok (.istore_n 2, 1) := by decide +kernel
theorem dX11_centre_4 : decode cX11_centre 4 = .ok (.iload_n 2, 1) := by decide +kernel
theorem dX11_centre_5 : decode cX11_centre 5 = .ok (.aload_n 0, 1) := by decide +kernel
theorem dX11_centre_6 : decode cX11_centre 6 = .ok (.getfield 112, 3) := by decide +kernel
theorem dX11_centre_9 : decode cX11_centre 9 = .ok (.if_icmp .ge 103, 3) := by decide +kernel
theorem dX11_centre_12 : decode cX11_centre 12 = .ok (.iconst 1, 1) := by decide +kernel
theorem dX11_centre_13 : decode cX11_centre 13 = .ok (.istore_n 3, 1) := by decide +kernel
theorem dX11_centre_14 : decode cX11_centre 14 = .ok (.iconst 0, 1) := by decide +kernel
theorem dX11_centre_15 : decode cX11_centre 15 = .ok (.istore 4, 2) := by decide +kernel
theorem dX11_centre_17 : decode cX11_centre 17 = .ok (.iload 4, 2) := by decide +kernel
theorem dX11_centre_19 : decode cX11_centre 19 = .ok (.aload_n 0, 1) := by decide +kernel
theorem dX11_centre_20 : decode cX11_centre 20 = .ok (.getfield 109, 3) := by decide +kernel
theorem dX11_centre_23 : decode cX11_centre 23 = .ok (.if_icmp .ge 44, 3) := by decide +kernel
theorem dX11_centre_26 : decode cX11_centre 26 = .ok (.iload_n 3, 1) := by decide +kernel
theorem dX11_centre_27 : decode cX11_centre 27 = .ok (.ifCond .eq 40, 3) := by decide +kernel
theorem dX11_centre_30 : decode cX11_centre 30 = .ok (.aload_n 0, 1) := by decide +kernel
theorem dX11_centre_31 : decode cX11_centre 31 = .ok (.iload_n 2, 1) := by decide +kernel
theorem dX11_centre_32 : decode cX11_centre 32 = .ok (.aload_n 0, 1) := by decide +kernel
theorem dX11_centre_33 : decode cX11_centre 33 = .ok (.iload 4, 2) := by decide +kernel
theorem dX11_centre_35 : decode cX11_centre 35 = .ok (.invokevirtual 223, 3) := by decide +kernel
theorem dX11_centre_38 : decode cX11_centre 38 = .ok (.invokevirtual 266, 3) := by decide +kernel
theorem dX11_centre_41 : decode cX11_centre 41 = .ok (.aload_n 0, 1) := by decide +kernel
theorem dX11_centre_42 : decode cX11_centre 42 = .ok (.aload_n 0, 1) := by decide +kernel
theorem dX11_centre_43 : decode cX11_centre 43 = .ok (.iload 4, 2) := by decide +kernel
theorem dX11_centre_45 : decode cX11_centre 45 = .ok (.invokevirtual 223, 3) := by decide +kernel
theorem dX11_centre_48 : decode cX11_centre 48 = .ok (.iload_n 2, 1) := by decide +kernel
theorem dX11_centre_49 : decode cX11_centre 49 = .ok (.invokevirtual 266, 3) := by decide +kernel
theorem dX11_centre_52 : decode cX11_centre 52 = .ok (.if_icmp .ne 7, 3) := by decide +kernel
theorem dX11_centre_55 : decode cX11_centre 55 = .ok (.iconst 1, 1) := by decide +kernel
theorem dX11_centre_56 : decode cX11_centre 56 = .ok (.goto 4, 3) := by decide +kernel
theorem dX11_centre_59 : decode cX11_centre 59 = .ok (.iconst 0, 1) := by decide +kernel
theorem dX11_centre_60 : decode cX11_centre 60 = .ok (.istore_n 3, 1) := by decide +kernel
theorem dX11_centre_61 : decode cX11_centre 61 = .ok (.iinc 4 1, 3) := by decide +kernel
theorem dX11_centre_64 : decode cX11_centre 64 = .ok (.goto (-47), 3) := by decide +kernel
theorem dX11_centre_67 : decode cX11_centre 67 = .ok (.iload_n 1, 1) := by decide +kernel
theorem dX11_centre_68 : decode cX11_centre 68 = .ok (.iload_n 3, 1) := by decide +kernel
theorem dX11_centre_69 : decode cX11_centre 69 = .ok (.ifCond .eq 34, 3) := by decide +kernel
theorem dX11_centre_72 : decode cX11_centre 72 = .ok (.aload_n 0, 1) := by decide +kernel
theorem dX11_centre_73 : decode cX11_centre 73 = .ok (.iload_n 2, 1) := by decide +kernel
theorem dX11_centre_74 : decode cX11_centre 74 = .ok (.iconst 0, 1) := by decide +kernel
theorem dX11_centre_75 : decode cX11_centre 75 = .ok (.invokevirtual 269, 3) := by decide +kernel
theorem dX11_centre_78 : decode cX11_centre 78 = .ok (.ifCond .eq 25, 3) := by decide +kernel
theorem dX11_centre_81 : decode cX11_centre 81 = .ok (.aload_n 0, 1) := by decide +kernel
theorem dX11_centre_82 : decode cX11_centre 82 = .ok (.iload_n 2, 1) := by decide +kernel
theorem dX11_centre_83 : decode cX11_centre 83 = .ok (.iconst 1, 1) := by decide +kernel
theorem dX11_centre_84 : decode cX11_centre 84 = .ok (.invokevirtual 269, 3) := by decide +kernel
theorem dX11_centre_87 : decode cX11_centre 87 = .ok (.ifCond .eq 16, 3) := by decide +kernel
theorem dX11_centre_90 : decode cX11_centre 90 = .ok (.aload_n 0, 1) := by decide +kernel
theorem dX11_centre_91 : decode cX11_centre 91 = .ok (.iload_n 2, 1) := by decide +kernel
theorem dX11_centre_92 : decode cX11_centre 92 = .ok (.iconst 2, 1) := by decide +kernel
theorem dX11_centre_93 : decode cX11_centre 93 = .ok (.invokevirtual 269, 3) := by decide +kernel
theorem dX11_centre_96 : decode cX11_centre 96 = .ok (.ifCond .eq 7, 3) := by decide +kernel
theorem dX11_centre_99 : decode cX11_centre 99 = .ok (.iconst 1, 1) := by decide +kernel
theorem dX11_centre_100 : decode cX11_centre 100 = .ok (.goto 4, 3) := by decide +kernel
theorem dX11_centre_103 : decode cX11_centre 103 = .ok (.iconst 0, 1) := by decide +kernel
theorem dX11_centre_104 : decode cX11_centre 104 = .ok (.iadd, 1) := by decide +kernel
theorem dX11_centre_105 : decode cX11_centre 105 = .ok (.istore_n 1, 1) := by decide +kernel
theorem dX11_centre_106 : decode cX11_centre 106 = .ok (.iinc 2 1, 3) := by decide +kernel
theorem dX11_centre_109 : decode cX11_centre 109 = .ok (.goto (-105), 3) := by decide +kernel
theorem dX11_centre_112 : decode cX11_centre 112 = .ok (.iload_n 1, 1) := by decide +kernel
theorem dX11_centre_113 : decode cX11_centre 113 = .ok (.ireturn, 1) := by decide +kernel
theorem dX11_idempotent_0 : decode cX11_idempotent 0 = .ok (.iconst 0, 1) := by decide +kernel
theorem dX11_idempotent_1 : decode cX11_idempotent 1 = .ok (.istore_n 1, 1) := by decide +kernel
theorem dX11_idempotent_2 : decode cX11_idempotent 2 = .ok (.iconst 0, 1) := by decide +kernel
theorem dX11_idempotent_3 : decode cX11_idempotent 3 = .ok (.istore_n 2, 1) := by decide +kernel
theorem dX11_idempotent_4 : decode cX11_idempotent 4 = .ok (.iload_n 2, 1) := by decide +kernel
theorem dX11_idempotent_5 : decode cX11_idempotent 5 = .ok (.aload_n 0, 1) := by decide +kernel
theorem dX11_idempotent_6 : decode cX11_idempotent 6 = .ok (.getfield 112, 3) := by decide +kernel
theorem dX11_idempotent_9 : decode cX11_idempotent 9 = .ok (.if_icmp .ge 27, 3) := by decide +kernel
theorem dX11_idempotent_12 : decode cX11_idempotent 12 = .ok (.iload_n 1, 1) := by decide +kernel
theorem dX11_idempotent_13 : decode cX11_idempotent 13 = .ok (.aload_n 0, 1) := by decide +kernel
theorem dX11_idempotent_14 : decode cX11_idempotent 14 = .ok (.iload_n 2, 1) := by decide +kernel
theorem dX11_idempotent_15 : decode cX11_idempotent 15 = .ok (.iload_n 2, 1) := by decide +kernel
theorem dX11_idempotent_16 : decode cX11_idempotent 16 = .ok (.invokevirtual 266, 3) := by decide +kernel
theorem dX11_idempotent_19 : decode cX11_idempotent 19 = .ok (.iload_n 2, 1) := by decide +kernel
theorem dX11_idempotent_20 : decode cX11_idempotent 20 = .ok (.if_icmp .ne 7, 3) := by decide +kernel
theorem dX11_idempotent_23 : decode cX11_idempotent 23 = .ok (.iconst 1, 1) := by decide +kernel
theorem dX11_idempotent_24 : decode cX11_idempotent 24 = .ok (.goto 4, 3) := by decide +kernel
theorem dX11_idempotent_27 : decode cX11_idempotent 27 = .ok (.iconst 0, 1) := by decide +kernel
theorem dX11_idempotent_28 : decode cX11_idempotent 28 = .ok (.iadd, 1) := by decide +kernel
theorem dX11_idempotent_29 : decode cX11_idempotent 29 = .ok (.istore_n 1, 1) := by decide +kernel
theorem dX11_idempotent_30 : decode cX11_idempotent 30 = .ok (.iinc 2 1, 3) := by decide +kernel
theorem dX11_idempotent_33 : decode cX11_idempotent 33 = .ok (.goto (-29), 3) := by decide +kernel
theorem dX11_idempotent_36 : decode cX11_idempotent 36 = .ok (.iload_n 1, 1) := by decide +kernel
theorem dX11_idempotent_37 : decode cX11_idempotent 37 = .ok (.ireturn, 1) := by decide +kernel
theorem dX11_planar_0 : decode cX11_planar 0 = .ok (.aload_n 0, 1) := by decide +kernel
theorem dX11_planar_1 : decode cX11_planar 1 = .ok (.getfield 106, 3) := by decide +kernel
theorem dX11_planar_4 : decode cX11_planar 4 = .ok (.iconst 2, 1) := by decide +kernel
theorem dX11_planar_5 : decode cX11_planar 5 = .ok (.if_icmp .ne 5, 3) := by decide +kernel
theorem dX11_planar_8 : decode cX11_planar 8 = .ok (.iconst (-1), 1) := by decide +kernel
theorem dX11_planar_9 : decode cX11_planar 9 = .ok (.ireturn, 1) := by decide +kernel
theorem dX11_planar_10 : decode cX11_planar 10 = .ok (.iconst 1, 1) := by decide +kernel
theorem dX11_planar_11 : decode cX11_planar 11 = .ok (.istore_n 1, 1) := by decide +kernel
theorem dX11_planar_12 : decode cX11_planar 12 = .ok (.iload_n 1, 1) := by decide +kernel
theorem dX11_planar_13 : decode cX11_planar 13 = .ok (.aload_n 0, 1) := by decide +kernel
theorem dX11_planar_14 : decode cX11_planar 14 = .ok (.getfield 112, 3) := by decide +kernel
theorem dX11_planar_17 : decode cX11_planar 17 = .ok (.if_icmp .ge 145, 3) := by decide +kernel
theorem dX11_planar_20 : decode cX11_planar 20 = .ok (.aload_n 0, 1) := by decide +kernel
theorem dX11_planar_21 : decode cX11_planar 21 = .ok (.iload_n 1, 1) := by decide +kernel
theorem dX11_planar_22 : decode cX11_planar 22 = .ok (.aload_n 0, 1) := by decide +kernel
theorem dX11_planar_23 : decode cX11_planar 23 = .ok (.getfield 19, 3) := by decide +kernel
theorem dX11_planar_26 : decode cX11_planar 26 = .ok (.invokevirtual 115, 3) := by decide +kernel
theorem dX11_planar_29 : decode cX11_planar 29 = .ok (.iconst 0, 1) := by decide +kernel
theorem dX11_planar_30 : decode cX11_planar 30 = .ok (.istore_n 2, 1) := by decide +kernel
theorem dX11_planar_31 : decode cX11_planar 31 = .ok (.iload_n 2, 1) := by decide +kernel
theorem dX11_planar_32 : decode cX11_planar 32 = .ok (.aload_n 0, 1) := by decide +kernel
theorem dX11_planar_33 : decode cX11_planar 33 = .ok (.getfield 109, 3) := by decide +kernel
theorem dX11_planar_36 : decode cX11_planar 36 = .ok (.if_icmp .ge 107, 3) := by decide +kernel
theorem dX11_planar_39 : decode cX11_planar 39 = .ok (.iconst 0, 1) := by decide +kernel
theorem dX11_planar_40 : decode cX11_planar 40 = .ok (.istore_n 3, 1) := by decide +kernel
theorem dX11_planar_41 : decode cX11_planar 41 = .ok (.iload_n 3, 1) := by decide +kernel
theorem dX11_planar_42 : decode cX11_planar 42 = .ok (.aload_n 0, 1) := by decide +kernel
theorem dX11_planar_43 : decode cX11_planar 43 = .ok (.getfield 109, 3) := by decide +kernel
theorem dX11_planar_46 : decode cX11_planar 46 = .ok (.if_icmp .ge 91, 3) := by decide +kernel
theorem dX11_planar_49 : decode cX11_planar 49 = .ok (.iconst 0, 1) := by decide +kernel
theorem dX11_planar_50 : decode cX11_planar 50 = .ok (.istore 4, 2) := by decide +kernel
theorem dX11_planar_52 : decode cX11_planar 52 = .ok (.iconst 0, 1) := by decide +kernel
theorem dX11_planar_53 : decode cX11_planar 53 = .ok (.istore 5, 2) := by decide +kernel
theorem dX11_planar_55 : decode cX11_planar 55 = .ok (.iload 5, 2) := by decide +kernel
theorem dX11_planar_57 : decode cX11_planar 57 = .ok (.aload_n 0, 1) := by decide +kernel
theorem dX11_planar_58 : decode cX11_planar 58 = .ok (.getfield 109, 3) := by decide +kernel
theorem dX11_planar_61 : decode cX11_planar 61 = .ok (.if_icmp .ge 55, 3) := by decide +kernel
theorem dX11_planar_64 : decode cX11_planar 64 = .ok (.iload 4, 2) := by decide +kernel
theorem dX11_planar_66 : decode cX11_planar 66 = .ok (.aload_n 0, 1) := by decide +kernel
theorem dX11_planar_67 : decode cX11_planar 67 = .ok (.getfield 19, 3) := by decide +kernel
theorem dX11_planar_70 : decode cX11_planar 70 = .ok (.iload 5, 2) := by decide +kernel
theorem dX11_planar_72 : decode cX11_planar 72 = .ok (.iaload, 1) := by decide +kernel
theorem dX11_planar_73 : decode cX11_planar 73 = .ok (.aload_n 0, 1) := by decide +kernel
theorem dX11_planar_74 : decode cX11_planar 74 = .ok (.getfield 16, 3) := by decide +kernel
theorem dX11_planar_77 : decode cX11_planar 77 = .ok (.bipush 25, 2) := by decide +kernel
theorem dX11_planar_79 : decode cX11_planar 79 = .ok (.iload 5, 2) := by decide +kernel
theorem dX11_planar_81 : decode cX11_planar 81 = .ok (.imul, 1) := by decide +kernel
theorem dX11_planar_82 : decode cX11_planar 82 = .ok (.iconst 5, 1) := by decide +kernel
theorem dX11_planar_83 : decode cX11_planar 83 = .ok (.iload_n 2, 1) := by decide +kernel
theorem dX11_planar_84 : decode cX11_planar 84 = .ok (.imul, 1) := by decide +kernel
theorem dX11_planar_85 : decode cX11_planar 85 = .ok (.iadd, 1) := by decide +kernel
theorem dX11_planar_86 : decode cX11_planar 86 = .ok (.iload_n 3, 1) := by decide +kernel
theorem dX11_planar_87 : decode cX11_planar 87 = .ok (.iadd, 1) := by decide +kernel
theorem dX11_planar_88 : decode cX11_planar 88 = .ok (.iaload, 1) := by decide +kernel
theorem dX11_planar_89 : decode cX11_planar 89 = .ok (.aload_n 0, 1) := by decide +kernel
theorem dX11_planar_90 : decode cX11_planar 90 = .ok (.getfield 16, 3) := by decide +kernel
theorem dX11_planar_93 : decode cX11_planar 93 = .ok (.bipush 25, 2) := by decide +kernel
theorem dX11_planar_95 : decode cX11_planar 95 = .ok (.iload_n 2, 1) := by decide +kernel
theorem dX11_planar_96 : decode cX11_planar 96 = .ok (.imul, 1) := by decide +kernel
theorem dX11_planar_97 : decode cX11_planar 97 = .ok (.iconst 5, 1) := by decide +kernel
theorem dX11_planar_98 : decode cX11_planar 98 = .ok (.iload 5, 2) := by decide +kernel
theorem dX11_planar_100 : decode cX11_planar 100 = .ok (.imul, 1) := by decide +kernel
theorem dX11_planar_101 : decode cX11_planar 101 = .ok (.iadd, 1) := by decide +kernel
theorem dX11_planar_102 : decode cX11_planar 102 = .ok (.iload_n 3, 1) := by decide +kernel
theorem dX11_planar_103 : decode cX11_planar 103 = .ok (.iadd, 1) := by decide +kernel
theorem dX11_planar_104 : decode cX11_planar 104 = .ok (.iaload, 1) := by decide +kernel
theorem dX11_planar_105 : decode cX11_planar 105 = .ok (.iadd, 1) := by decide +kernel
theorem dX11_planar_106 : decode cX11_planar 106 = .ok (.imul, 1) := by decide +kernel
theorem dX11_planar_107 : decode cX11_planar 107 = .ok (.iadd, 1) := by decide +kernel
