theorem dX11_planar_108 : decode cX11_planar 108 = .ok (.istore 4, 2) := by decide +kernel
theorem dX11_planar_110 : decode cX11_planar 110 = .ok (.iinc 5 1, 3) := by decide +kernel
theorem dX11_planar_113 : decode cX11_planar 113 = .ok (.goto (-58), 3) := by decide +kernel
theorem dX11_planar_116 : decode cX11_planar 116 = .ok (.aload_n 0, 1) := by decide +kernel
theorem dX11_planar_117 : decode cX11_planar 117 = .ok (.getfield 46, 3) := by decide +kernel
theorem dX11_planar_120 : decode cX11_planar 120 = .ok (.iload_n 2, 1) := by decide +kernel
theorem dX11_planar_121 : decode cX11_planar 121 = .ok (.aaload, 1) := by decide +kernel
theorem dX11_planar_122 : decode cX11_planar 122 = .ok (.iload_n 3, 1) := by decide +kernel
theorem dX11_planar_123 : decode cX11_planar 123 = .ok (.iload 4, 2) := by decide +kernel
theorem dX11_planar_125 : decode cX11_planar 125 = .ok (.aload_n 0, 1) := by decide +kernel
theorem dX11_planar_126 : decode cX11_planar 126 = .ok (.getfield 106, 3) := by decide +kernel
theorem dX11_planar_129 : decode cX11_planar 129 = .ok (.irem, 1) := by decide +kernel
theorem dX11_planar_130 : decode cX11_planar 130 = .ok (.iastore, 1) := by decide +kernel
theorem dX11_planar_131 : decode cX11_planar 131 = .ok (.iinc 3 1, 3) := by decide +kernel
theorem dX11_planar_134 : decode cX11_planar 134 = .ok (.goto (-93), 3) := by decide +kernel
theorem dX11_planar_137 : decode cX11_planar 137 = .ok (.iinc 2 1, 3) := by decide +kernel
theorem dX11_planar_140 : decode cX11_planar 140 = .ok (.goto (-109), 3) := by decide +kernel
theorem dX11_planar_143 : decode cX11_planar 143 = .ok (.aload_n 0, 1) := by decide +kernel
theorem dX11_planar_144 : decode cX11_planar 144 = .ok (.invokevirtual 260, 3) := by decide +kernel
theorem dX11_planar_147 : decode cX11_planar 147 = .ok (.aload_n 0, 1) := by decide +kernel
theorem dX11_planar_148 : decode cX11_planar 148 = .ok (.getfield 109, 3) := by decide +kernel
theorem dX11_planar_151 : decode cX11_planar 151 = .ok (.if_icmp .ge 5, 3) := by decide +kernel
theorem dX11_planar_154 : decode cX11_planar 154 = .ok (.iconst 0, 1) := by decide +kernel
theorem dX11_planar_155 : decode cX11_planar 155 = .ok (.ireturn, 1) := by decide +kernel
theorem dX11_planar_156 : decode cX11_planar 156 = .ok (.iinc 1 1, 3) := by decide +kernel
theorem dX11_planar_159 : decode cX11_planar 159 = .ok (.goto (-147), 3) := by decide +kernel
theorem dX11_planar_162 : decode cX11_planar 162 = .ok (.iconst 1, 1) := by decide +kernel
theorem dX11_planar_163 : decode cX11_planar 163 = .ok (.ireturn, 1) := by decide +kernel
theorem dX11_squares_0 : decode cX11_squares 0 = .ok (.iconst 0, 1) := by decide +kernel
theorem dX11_squares_1 : decode cX11_squares 1 = .ok (.istore_n 1, 1) := by decide +kernel
theorem dX11_squares_2 : decode cX11_squares 2 = .ok (.iload_n 1, 1) := by decide +kernel
theorem dX11_squares_3 : decode cX11_squares 3 = .ok (.aload_n 0, 1) := by decide +kernel
theorem dX11_squares_4 : decode cX11_squares 4 = .ok (.getfield 112, 3) := by decide +kernel
theorem dX11_squares_7 : decode cX11_squares 7 = .ok (.if_icmp .ge 16, 3) := by decide +kernel
theorem dX11_squares_10 : decode cX11_squares 10 = .ok (.aload_n 0, 1) := by decide +kernel
theorem dX11_squares_11 : decode cX11_squares 11 = .ok (.getfield 59, 3) := by decide +kernel
theorem dX11_squares_14 : decode cX11_squares 14 = .ok (.iload_n 1, 1) := by decide +kernel
theorem dX11_squares_15 : decode cX11_squares 15 = .ok (.iconst 0, 1) := by decide +kernel
theorem dX11_squares_16 : decode cX11_squares 16 = .ok (.bastore, 1) := by decide +kernel
theorem dX11_squares_17 : decode cX11_squares 17 = .ok (.iinc 1 1, 3) := by decide +kernel
theorem dX11_squares_20 : decode cX11_squares 20 = .ok (.goto (-18), 3) := by decide +kernel
theorem dX11_squares_23 : decode cX11_squares 23 = .ok (.iconst 0, 1) := by decide +kernel
theorem dX11_squares_24 : decode cX11_squares 24 = .ok (.istore_n 1, 1) := by decide +kernel
theorem dX11_squares_25 : decode cX11_squares 25 = .ok (.iload_n 1, 1) := by decide +kernel
theorem dX11_squares_26 : decode cX11_squares 26 = .ok (.aload_n 0, 1) := by decide +kernel
theorem dX11_squares_27 : decode cX11_squares 27 = .ok (.getfield 112, 3) := by decide +kernel
theorem dX11_squares_30 : decode cX11_squares 30 = .ok (.if_icmp .ge 21, 3) := by decide +kernel
theorem dX11_squares_33 : decode cX11_squares 33 = .ok (.aload_n 0, 1) := by decide +kernel
theorem dX11_squares_34 : decode cX11_squares 34 = .ok (.getfield 59, 3) := by decide +kernel
theorem dX11_squares_37 : decode cX11_squares 37 = .ok (.aload_n 0, 1) := by decide +kernel
theorem dX11_squares_38 : decode cX11_squares 38 = .ok (.iload_n 1, 1) := by decide +kernel
theorem dX11_squares_39 : decode cX11_squares 39 = .ok (.iload_n 1, 1) := by decide +kernel
theorem dX11_squares_40 : decode cX11_squares 40 = .ok (.invokevirtual 266, 3) := by decide +kernel
theorem dX11_squares_43 : decode cX11_squares 43 = .ok (.iconst 1, 1) := by decide +kernel
theorem dX11_squares_44 : decode cX11_squares 44 = .ok (.bastore, 1) := by decide +kernel
theorem dX11_squares_45 : decode cX11_squares 45 = .ok (.iinc 1 1, 3) := by decide +kernel
theorem dX11_squares_48 : decode cX11_squares 48 = .ok (.goto (-23), 3) := by decide +kernel
theorem dX11_squares_51 : decode cX11_squares 51 = .ok (.iconst 0, 1) := by decide +kernel
theorem dX11_squares_52 : decode cX11_squares 52 = .ok (.istore_n 1, 1) := by decide +kernel
theorem dX11_squares_53 : decode cX11_squares 53 = .ok (.iconst 0, 1) := by decide +kernel
theorem dX11_squares_54 : decode cX11_squares 54 = .ok (.istore_n 2, 1) := by decide +kernel
theorem dX11_squares_55 : decode cX11_squares 55 = .ok (.iload_n 2, 1) := by decide +kernel
theorem dX11_squares_56 : decode cX11_squares 56 = .ok (.aload_n 0, 1) := by decide +kernel
theorem dX11_squares_57 : decode cX11_squares 57 = .ok (.getfield 112, 3) := by decide +kernel
theorem dX11_squares_60 : decode cX11_squares 60 = .ok (.if_icmp .ge 26, 3) := by decide +kernel
theorem dX11_squares_63 : decode cX11_squares 63 = .ok (.iload_n 1, 1) := by decide +kernel
theorem dX11_squares_64 : decode cX11_squares 64 = .ok (.aload_n 0, 1) := by decide +kernel
theorem dX11_squares_65 : decode cX11_squares 65 = .ok (.getfield 59, 3) := by decide +kernel
theorem dX11_squares_68 : decode cX11_squares 68 = .ok (.iload_n 2, 1) := by decide +kernel
theorem dX11_squares_69 : decode cX11_squares 69 = .ok (.baload, 1) := by decide +kernel
theorem dX11_squares_70 : decode cX11_squares 70 = .ok (.ifCond .eq 7, 3) := by decide +kernel
theorem dX11_squares_73 : decode cX11_squares 73 = .ok (.iconst 1, 1) := by decide +kernel
theorem dX11_squares_74 : decode cX11_squares 74 = .ok (.goto 4, 3) := by decide +kernel
theorem dX11_squares_77 : decode cX11_squares 77 = .ok (.iconst 0, 1) := by decide +kernel
theorem dX11_squares_78 : decode cX11_squares 78 = .ok (.iadd, 1) := by decide +kernel
theorem dX11_squares_79 : decode cX11_squares 79 = .ok (.istore_n 1, 1) := by decide +kernel
theorem dX11_squares_80 : decode cX11_squares 80 = .ok (.iinc 2 1, 3) := by decide +kernel
theorem dX11_squares_83 : decode cX11_squares 83 = .ok (.goto (-28), 3) := by decide +kernel
theorem dX11_squares_86 : decode cX11_squares 86 = .ok (.iload_n 1, 1) := by decide +kernel
theorem dX11_squares_87 : decode cX11_squares 87 = .ok (.ireturn, 1) := by decide +kernel
theorem dX11_isFresh_0 : decode cX11_isFresh 0 = .ok (.iconst 0, 1) := by decide +kernel
theorem dX11_isFresh_1 : decode cX11_isFresh 1 = .ok (.istore_n 2, 1) := by decide +kernel
theorem dX11_isFresh_2 : decode cX11_isFresh 2 = .ok (.iload_n 2, 1) := by decide +kernel
theorem dX11_isFresh_3 : decode cX11_isFresh 3 = .ok (.iload_n 1, 1) := by decide +kernel
theorem dX11_isFresh_4 : decode cX11_isFresh 4 = .ok (.if_icmp .ge 202, 3) := by decide +kernel
theorem dX11_isFresh_7 : decode cX11_isFresh 7 = .ok (.aload_n 0, 1) := by decide +kernel
theorem dX11_isFresh_8 : decode cX11_isFresh 8 = .ok (.getfield 52, 3) := by decide +kernel
theorem dX11_isFresh_11 : decode cX11_isFresh 11 = .ok (.iload_n 2, 1) := by decide +kernel
theorem dX11_isFresh_12 : decode cX11_isFresh 12 = .ok (.aload_n 0, 1) := by decide +kernel
theorem dX11_isFresh_13 : decode cX11_isFresh 13 = .ok (.getfield 52, 3) := by decide +kernel
theorem dX11_isFresh_16 : decode cX11_isFresh 16 = .ok (.iload_n 2, 1) := by decide +kernel
theorem dX11_isFresh_17 : decode cX11_isFresh 17 = .ok (.iaload, 1) := by decide +kernel
theorem dX11_isFresh_18 : decode cX11_isFresh 18 = .ok (.aload_n 0, 1) := by decide +kernel
theorem dX11_isFresh_19 : decode cX11_isFresh 19 = .ok (.getfield 106, 3) := by decide +kernel
theorem dX11_isFresh_22 : decode cX11_isFresh 22 = .ok (.irem, 1) := by decide +kernel
theorem dX11_isFresh_23 : decode cX11_isFresh 23 = .ok (.aload_n 0, 1) := by decide +kernel
theorem dX11_isFresh_24 : decode cX11_isFresh 24 = .ok (.getfield 106, 3) := by decide +kernel
theorem dX11_isFresh_27 : decode cX11_isFresh 27 = .ok (.iadd, 1) := by decide +kernel
theorem dX11_isFresh_28 : decode cX11_isFresh 28 = .ok (.aload_n 0, 1) := by decide +kernel
theorem dX11_isFresh_29 : decode cX11_isFresh 29 = .ok (.getfield 106, 3) := by decide +kernel
theorem dX11_isFresh_32 : decode cX11_isFresh 32 = .ok (.irem, 1) := by decide +kernel
theorem dX11_isFresh_33 : decode cX11_isFresh 33 = .ok (.iastore, 1) := by decide +kernel
theorem dX11_isFresh_34 : decode cX11_isFresh 34 = .ok (.aload_n 0, 1) := by decide +kernel
theorem dX11_isFresh_35 : decode cX11_isFresh 35 = .ok (.getfield 52, 3) := by decide +kernel
theorem dX11_isFresh_38 : decode cX11_isFresh 38 = .ok (.iload_n 2, 1) := by decide +kernel
theorem dX11_isFresh_39 : decode cX11_isFresh 39 = .ok (.iaload, 1) := by decide +kernel
theorem dX11_isFresh_40 : decode cX11_isFresh 40 = .ok (.ifCond .ne 6, 3) := by decide +kernel
theorem dX11_isFresh_43 : decode cX11_isFresh 43 = .ok (.goto 157, 3) := by decide +kernel
theorem dX11_isFresh_46 : decode cX11_isFresh 46 = .ok (.aload_n 0, 1) := by decide +kernel
theorem dX11_isFresh_47 : decode cX11_isFresh 47 = .ok (.getfield 55, 3) := by decide +kernel
theorem dX11_isFresh_50 : decode cX11_isFresh 50 = .ok (.iload_n 2, 1) := by decide +kernel
theorem dX11_isFresh_51 : decode cX11_isFresh 51 = .ok (.baload, 1) := by decide +kernel
theorem dX11_isFresh_52 : decode cX11_isFresh 52 = .ok (.ifCond .ne 90, 3) := by decide +kernel
theorem dX11_isFresh_55 : decode cX11_isFresh 55 = .ok (.iconst 1, 1) := by decide +kernel
theorem dX11_isFresh_56 : decode cX11_isFresh 56 = .ok (.istore_n 3, 1) := by decide +kernel
theorem dX11_isFresh_57 : decode cX11_isFresh 57 = .ok (.iload_n 3, 1) := by decide +kernel
theorem dX11_isFresh_58 : decode cX11_isFresh 58 = .ok (.aload_n 0, 1) := by decide +kernel
theorem dX11_isFresh_59 : decode cX11_isFresh 59 = .ok (.getfield 52, 3) := by decide +kernel
theorem dX11_isFresh_62 : decode cX11_isFresh 62 = .ok (.iload_n 2, 1) := by decide +kernel
theorem dX11_isFresh_63 : decode cX11_isFresh 63 = .ok (.iaload, 1) := by decide +kernel
theorem dX11_isFresh_64 : decode cX11_isFresh 64 = .ok (.imul, 1) := by decide +kernel
theorem dX11_isFresh_65 : decode cX11_isFresh 65 = .ok (.aload_n 0, 1) := by decide +kernel
theorem dX11_isFresh_66 : decode cX11_isFresh 66 = .ok (.getfield 106, 3) := by decide +kernel
theorem dX11_isFresh_69 : decode cX11_isFresh 69 = .ok (.irem, 1) := by decide +kernel
theorem dX11_isFresh_70 : decode cX11_isFresh 70 = .ok (.iconst 1, 1) := by decide +kernel
theorem dX11_isFresh_71 : decode cX11_isFresh 71 = .ok (.if_icmp .eq 9, 3) := by decide +kernel
theorem dX11_isFresh_74 : decode cX11_isFresh 74 = .ok (.iinc 3 1, 3) := by decide +kernel
theorem dX11_isFresh_77 : decode cX11_isFresh 77 = .ok (.goto (-20), 3) := by decide +kernel
theorem dX11_isFresh_80 : decode cX11_isFresh 80 = .ok (.iconst 0, 1) := by decide +kernel
theorem dX11_isFresh_81 : decode cX11_isFresh 81 = .ok (.istore 4, 2) := by decide +kernel
theorem dX11_isFresh_83 : decode cX11_isFresh 83 = .ok (.iload 4, 2) := by decide +kernel
theorem dX11_isFresh_85 : decode cX11_isFresh 85 = .ok (.iload_n 1, 1) := by decide +kernel
theorem dX11_isFresh_86 : decode cX11_isFresh 86 = .ok (.if_icmp .ge 47, 3) := by decide +kernel
theorem dX11_isFresh_89 : decode cX11_isFresh 89 = .ok (.aload_n 0, 1) := by decide +kernel
theorem dX11_isFresh_90 : decode cX11_isFresh 90 = .ok (.getfield 49, 3) := by decide +kernel
theorem dX11_isFresh_93 : decode cX11_isFresh 93 = .ok (.iload_n 2, 1) := by decide +kernel
theorem dX11_isFresh_94 : decode cX11_isFresh 94 = .ok (.aaload, 1) := by decide +kernel
theorem dX11_isFresh_95 : decode cX11_isFresh 95 = .ok (.iload 4, 2) := by decide +kernel
theorem dX11_isFresh_97 : decode cX11_isFresh 97 = .ok (.aload_n 0, 1) := by decide +kernel
theorem dX11_isFresh_98 : decode cX11_isFresh 98 = .ok (.getfield 52, 3) := by decide +kernel
theorem dX11_isFresh_101 : decode cX11_isFresh 101 = .ok (.iload 4, 2) := by decide +kernel
theorem dX11_isFresh_103 : decode cX11_isFresh 103 = .ok (.iaload, 1) := by decide +kernel
theorem dX11_isFresh_104 : decode cX11_isFresh 104 = .ok (.aload_n 0, 1) := by decide +kernel
theorem dX11_isFresh_105 : decode cX11_isFresh 105 = .ok (.getfield 106, 3) := by decide +kernel
theorem dX11_isFresh_108 : decode cX11_isFresh 108 = .ok (.irem, 1) := by decide +kernel
theorem dX11_isFresh_109 : decode cX11_isFresh 109 = .ok (.aload_n 0, 1) := by decide +kernel
theorem dX11_isFresh_110 : decode cX11_isFresh 110 = .ok (.getfield 106, 3) := by decide +kernel
theorem dX11_isFresh_113 : decode cX11_isFresh 113 = .ok (.iadd, 1) := by decide +kernel
theorem dX11_isFresh_114 : decode cX11_isFresh 114 = .ok (.aload_n 0, 1) := by decide +kernel
theorem dX11_isFresh_115 : decode cX11_isFresh 115 = .ok (.getfield 106, 3) := by decide +kernel
theorem dX11_isFresh_118 : decode cX11_isFresh 118 = .ok (.irem, 1) := by decide +kernel
theorem dX11_isFresh_119 : decode cX11_isFresh 119 = .ok (.iload_n 3, 1) := by decide +kernel
theorem dX11_isFresh_120 : decode cX11_isFresh 120 = .ok (.imul, 1) := by decide +kernel
theorem dX11_isFresh_121 : decode cX11_isFresh 121 = .ok (.aload_n 0, 1) := by decide +kernel
theorem dX11_isFresh_122 : decode cX11_isFresh 122 = .ok (.getfield 106, 3) := by decide +kernel
theorem dX11_isFresh_125 : decode cX11_isFresh 125 = .ok (.irem, 1) := by decide +kernel
theorem dX11_isFresh_126 : decode cX11_isFresh 126 = .ok (.iastore, 1) := by decide +kernel
theorem dX11_isFresh_127 : decode cX11_isFresh 127 = .ok (.iinc 4 1, 3) := by decide +kernel
theorem dX11_isFresh_130 : decode cX11_isFresh 130 = .ok (.goto (-47), 3) := by decide +kernel
theorem dX11_isFresh_133 : decode cX11_isFresh 133 = .ok (.aload_n 0, 1) := by decide +kernel
theorem dX11_isFresh_134 : decode cX11_isFresh 134 = .ok (.getfield 55, 3) := by decide +kernel
theorem dX11_isFresh_137 : decode cX11_isFresh 137 = .ok (.iload_n 2, 1) := by decide +kernel
theorem dX11_isFresh_138 : decode cX11_isFresh 138 = .ok (.iconst 1, 1) := by decide +kernel
theorem dX11_isFresh_139 : decode cX11_isFresh 139 = .ok (.bastore, 1) := by decide +kernel
theorem dX11_isFresh_140 : decode cX11_isFresh 140 = .ok (.iconst 1, 1) := by decide +kernel
theorem dX11_isFresh_141 : decode cX11_isFresh 141 = .ok (.ireturn, 1) := by decide +kernel
theorem dX11_isFresh_142 : decode cX11_isFresh 142 = .ok (.aload_n 0, 1) := by decide +kernel
theorem dX11_isFresh_143 : decode cX11_isFresh 143 = .ok (.getfield 52, 3) := by decide +kernel
theorem dX11_isFresh_146 : decode cX11_isFresh 146 = .ok (.iload_n 2, 1) := by decide +kernel
theorem dX11_isFresh_147 : decode cX11_isFresh 147 = .ok (.iaload, 1) := by decide +kernel
theorem dX11_isFresh_148 : decode cX11_isFresh 148 = .ok (.istore_n 3, 1) := by decide +kernel
theorem dX11_isFresh_149 : decode cX11_isFresh 149 = .ok (.iload_n 2, 1) := by decide +kernel
theorem dX11_isFresh_150 : decode cX11_isFresh 150 = .ok (.istore 4, 2) := by decide +kernel
theorem dX11_isFresh_152 : decode cX11_isFresh 152 = .ok (.iload 4, 2) := by decide +kernel
theorem dX11_isFresh_154 : decode cX11_isFresh 154 = .ok (.iload_n 1, 1) := by decide +kernel
theorem dX11_isFresh_155 : decode cX11_isFresh 155 = .ok (.if_icmp .ge 45, 3) := by decide +kernel
theorem dX11_isFresh_158 : decode cX11_isFresh 158 = .ok (.aload_n 0, 1) := by decide +kernel
theorem dX11_isFresh_159 : decode cX11_isFresh 159 = .ok (.getfield 52, 3) := by decide +kernel
theorem dX11_isFresh_162 : decode cX11_isFresh 162 = .ok (.iload 4, 2) := by decide +kernel
theorem dX11_isFresh_164 : decode cX11_isFresh 164 = .ok (.aload_n 0, 1) := by decide +kernel
theorem dX11_isFresh_165 : decode cX11_isFresh 165 = .ok (.getfield 52, 3) := by decide +kernel
theorem dX11_isFresh_168 : decode cX11_isFresh 168 = .ok (.iload 4, 2) := by decide +kernel
theorem dX11_isFresh_170 : decode cX11_isFresh 170 = .ok (.iaload, 1) := by decide +kernel
theorem dX11_isFresh_171 : decode cX11_isFresh 171 = .ok (.aload_n 0, 1) := by decide +kernel
theorem dX11_isFresh_172 : decode cX11_isFresh 172 = .ok (.getfield 106, 3) := by decide +kernel
theorem dX11_isFresh_175 : decode cX11_isFresh 175 = .ok (.iload_n 3, 1) := by decide +kernel
theorem dX11_isFresh_176 : decode cX11_isFresh 176 = .ok (.isub, 1) := by decide +kernel
theorem dX11_isFresh_177 : decode cX11_isFresh 177 = .ok (.aload_n 0, 1) := by decide +kernel
theorem dX11_isFresh_178 : decode cX11_isFresh 178 = .ok (.getfield 49, 3) := by decide +kernel
theorem dX11_isFresh_181 : decode cX11_isFresh 181 = .ok (.iload_n 2, 1) := by decide +kernel
theorem dX11_isFresh_182 : decode cX11_isFresh 182 = .ok (.aaload, 1) := by decide +kernel
theorem dX11_isFresh_183 : decode cX11_isFresh 183 = .ok (.iload 4, 2) := by decide +kernel
theorem dX11_isFresh_185 : decode cX11_isFresh 185 = .ok (.iaload, 1) := by decide +kernel
theorem dX11_isFresh_186 : decode cX11_isFresh 186 = .ok (.imul, 1) := by decide +kernel
theorem dX11_isFresh_187 : decode cX11_isFresh 187 = .ok (.iadd, 1) := by decide +kernel
theorem dX11_isFresh_188 : decode cX11_isFresh 188 = .ok (.aload_n 0, 1) := by decide +kernel
theorem dX11_isFresh_189 : decode cX11_isFresh 189 = .ok (.getfield 106, 3) := by decide +kernel
theorem dX11_isFresh_192 : decode cX11_isFresh 192 = .ok (.irem, 1) := by decide +kernel
theorem dX11_isFresh_193 : decode cX11_isFresh 193 = .ok (.iastore, 1) := by decide +kernel
theorem dX11_isFresh_194 : decode cX11_isFresh 194 = .ok (.iinc 4 1, 3) := by decide +kernel
theorem dX11_isFresh_197 : decode cX11_isFresh 197 = .ok (.goto (-45), 3) := by decide +kernel
theorem dX11_isFresh_200 : decode cX11_isFresh 200 = .ok (.iinc 2 1, 3) := by decide +kernel
theorem dX11_isFresh_203 : decode cX11_isFresh 203 = .ok (.goto (-201), 3) := by decide +kernel
theorem dX11_isFresh_206 : decode cX11_isFresh 206 = .ok (.iconst 0, 1) := by decide +kernel
theorem dX11_isFresh_207 : decode cX11_isFresh 207 = .ok (.ireturn, 1) := by decide +kernel
theorem dX11_equations_0 : decode cX11_equations 0 = .ok (.iload_n 1, 1) := by decide +kernel
theorem dX11_equations_1 : decode cX11_equations 1 = .ok (.ifCond .eq 17, 3) := by decide +kernel
theorem dX11_equations_4 : decode cX11_equations 4 = .ok (.iconst 3, 1) := by decide +kernel
theorem dX11_equations_5 : decode cX11_equations 5 = .ok (.aload_n 0, 1) := by decide +kernel
theorem dX11_equations_6 : decode cX11_equations 6 = .ok (.getfield 109, 3) := by decide +kernel
theorem dX11_equations_9 : decode cX11_equations 9 = .ok (.imul, 1) := by decide +kernel
theorem dX11_equations_10 : decode cX11_equations 10 = .ok (.aload_n 0, 1) := by decide +kernel
theorem dX11_equations_11 : decode cX11_equations 11 = .ok (.getfield 109, 3) := by decide +kernel
theorem dX11_equations_14 : decode cX11_equations 14 = .ok (.imul, 1) := by decide +kernel
theorem dX11_equations_15 : decode cX11_equations 15 = .ok (.goto 12, 3) := by decide +kernel
theorem dX11_equations_18 : decode cX11_equations 18 = .ok (.aload_n 0, 1) := by decide +kernel
theorem dX11_equations_19 : decode cX11_equations 19 = .ok (.getfield 109, 3) := by decide +kernel
theorem dX11_equations_22 : decode cX11_equations 22 = .ok (.aload_n 0, 1) := by decide +kernel
theorem dX11_equations_23 : decode cX11_equations 23 = .ok (.getfield 109, 3) := by decide +kernel
theorem dX11_equations_26 : decode cX11_equations 26 = .ok (.imul, 1) := by decide +kernel
theorem dX11_equations_27 : decode cX11_equations 27 = .ok (.istore_n 2, 1) := by decide +kernel
theorem dX11_equations_28 : decode cX11_equations 28 = .ok (.iload_n 1, 1) := by decide +kernel
theorem dX11_equations_29 : decode cX11_equations 29 = .ok (.ifCond .eq 15, 3) := by decide +kernel
theorem dX11_equations_32 : decode cX11_equations 32 = .ok (.aload_n 0, 1) := by decide +kernel
theorem dX11_equations_33 : decode cX11_equations 33 = .ok (.getfield 109, 3) := by decide +kernel
theorem dX11_equations_36 : decode cX11_equations 36 = .ok (.aload_n 0, 1) := by decide +kernel
theorem dX11_equations_37 : decode cX11_equations 37 = .ok (.getfield 109, 3) := by decide +kernel
theorem dX11_equations_40 : decode cX11_equations 40 = .ok (.imul, 1) := by decide +kernel
theorem dX11_equations_41 : decode cX11_equations 41 = .ok (.goto 4, 3) := by decide +kernel
theorem dX11_equations_44 : decode cX11_equations 44 = .ok (.iconst 0, 1) := by decide +kernel
theorem dX11_equations_45 : decode cX11_equations 45 = .ok (.istore_n 3, 1) := by decide +kernel
theorem dX11_equations_46 : decode cX11_equations 46 = .ok (.iload_n 1, 1) := by decide +kernel
theorem dX11_equations_47 : decode cX11_equations 47 = .ok (.ifCond .eq 17, 3) := by decide +kernel
theorem dX11_equations_50 : decode cX11_equations 50 = .ok (.iconst 2, 1) := by decide +kernel
theorem dX11_equations_51 : decode cX11_equations 51 = .ok (.aload_n 0, 1) := by decide +kernel
theorem dX11_equations_52 : decode cX11_equations 52 = .ok (.getfield 109, 3) := by decide +kernel
theorem dX11_equations_55 : decode cX11_equations 55 = .ok (.imul, 1) := by decide +kernel
theorem dX11_equations_56 : decode cX11_equations 56 = .ok (.aload_n 0, 1) := by decide +kernel
theorem dX11_equations_57 : decode cX11_equations 57 = .ok (.getfield 109, 3) := by decide +kernel
theorem dX11_equations_60 : decode cX11_equations 60 = .ok (.imul, 1) := by decide +kernel
theorem dX11_equations_61 : decode cX11_equations 61 = .ok (.goto 4, 3) := by decide +kernel
theorem dX11_equations_64 : decode cX11_equations 64 = .ok (.iconst 0, 1) := by decide +kernel
theorem dX11_equations_65 : decode cX11_equations 65 = .ok (.istore 4, 2) := by decide +kernel
theorem dX11_equations_67 : decode cX11_equations 67 = .ok (.iconst 0, 1) := by decide +kernel
theorem dX11_equations_68 : decode cX11_equations 68 = .ok (.istore 5, 2) := by decide +kernel
theorem dX11_equations_70 : decode cX11_equations 70 = .ok (.iconst 0, 1) := by decide +kernel
theorem dX11_equations_71 : decode cX11_equations 71 = .ok (.istore 6, 2) := by decide +kernel
theorem dX11_equations_73 : decode cX11_equations 73 = .ok (.iload 6, 2) := by decide +kernel
theorem dX11_equations_75 : decode cX11_equations 75 = .ok (.iload_n 2, 1) := by decide +kernel
theorem dX11_equations_76 : decode cX11_equations 76 = .ok (.if_icmp .ge 17, 3) := by decide +kernel
theorem dX11_equations_79 : decode cX11_equations 79 = .ok (.aload_n 0, 1) := by decide +kernel
theorem dX11_equations_80 : decode cX11_equations 80 = .ok (.getfield 55, 3) := by decide +kernel
theorem dX11_equations_83 : decode cX11_equations 83 = .ok (.iload 6, 2) := by decide +kernel
theorem dX11_equations_85 : decode cX11_equations 85 = .ok (.iconst 0, 1) := by decide +kernel
theorem dX11_equations_86 : decode cX11_equations 86 = .ok (.bastore, 1) := by decide +kernel
theorem dX11_equations_87 : decode cX11_equations 87 = .ok (.iinc 6 1, 3) := by decide +kernel
theorem dX11_equations_90 : decode cX11_equations 90 = .ok (.goto (-17), 3) := by decide +kernel
theorem dX11_equations_93 : decode cX11_equations 93 = .ok (.iconst 0, 1) := by decide +kernel
theorem dX11_equations_94 : decode cX11_equations 94 = .ok (.istore 6, 2) := by decide +kernel
theorem dX11_equations_96 : decode cX11_equations 96 = .ok (.iload 6, 2) := by decide +kernel
theorem dX11_equations_98 : decode cX11_equations 98 = .ok (.aload_n 0, 1) := by decide +kernel
theorem dX11_equations_99 : decode cX11_equations 99 = .ok (.getfield 109, 3) := by decide +kernel
theorem dX11_equations_102 : decode cX11_equations 102 = .ok (.if_icmp .ge 217, 3) := by decide +kernel
theorem dX11_equations_105 : decode cX11_equations 105 = .ok (.iconst 0, 1) := by decide +kernel
theorem dX11_equations_106 : decode cX11_equations 106 = .ok (.istore 7, 2) := by decide +kernel
theorem dX11_equations_108 : decode cX11_equations 108 = .ok (.iload 7, 2) := by decide +kernel
theorem dX11_equations_110 : decode cX11_equations 110 = .ok (.aload_n 0, 1) := by decide +kernel
theorem dX11_equations_111 : decode cX11_equations 111 = .ok (.getfield 109, 3) := by decide +kernel
theorem dX11_equations_114 : decode cX11_equations 114 = .ok (.if_icmp .ge 199, 3) := by decide +kernel
theorem dX11_equations_117 : decode cX11_equations 117 = .ok (.iconst 0, 1) := by decide +kernel
theorem dX11_equations_118 : decode cX11_equations 118 = .ok (.istore 8, 2) := by decide +kernel
theorem dX11_equations_120 : decode cX11_equations 120 = .ok (.iload 8, 2) := by decide +kernel
theorem dX11_equations_122 : decode cX11_equations 122 = .ok (.aload_n 0, 1) := by decide +kernel
theorem dX11_equations_123 : decode cX11_equations 123 = .ok (.getfield 109, 3) := by decide +kernel
theorem dX11_equations_126 : decode cX11_equations 126 = .ok (.if_icmp .ge 181, 3) := by decide +kernel
theorem dX11_equations_129 : decode cX11_equations 129 = .ok (.iconst 0, 1) := by decide +kernel
theorem dX11_equations_130 : decode cX11_equations 130 = .ok (.istore 9, 2) := by decide +kernel
theorem dX11_equations_132 : decode cX11_equations 132 = .ok (.iload 9, 2) := by decide +kernel
theorem dX11_equations_134 : decode cX11_equations 134 = .ok (.iload_n 2, 1) := by decide +kernel
theorem dX11_equations_135 : decode cX11_equations 135 = .ok (.if_icmp .ge 17, 3) := by decide +kernel
theorem dX11_equations_138 : decode cX11_equations 138 = .ok (.aload_n 0, 1) := by decide +kernel
theorem dX11_equations_139 : decode cX11_equations 139 = .ok (.getfield 52, 3) := by decide +kernel
theorem dX11_equations_142 : decode cX11_equations 142 = .ok (.iload 9, 2) := by decide +kernel
theorem dX11_equations_144 : decode cX11_equations 144 = .ok (.iconst 0, 1) := by decide +kernel
theorem dX11_equations_145 : decode cX11_equations 145 = .ok (.iastore, 1) := by decide +kernel
theorem dX11_equations_146 : decode cX11_equations 146 = .ok (.iinc 9 1, 3) := by decide +kernel
theorem dX11_equations_149 : decode cX11_equations 149 = .ok (.goto (-17), 3) := by decide +kernel
theorem dX11_equations_152 : decode cX11_equations 152 = .ok (.iconst 0, 1) := by decide +kernel
theorem dX11_equations_153 : decode cX11_equations 153 = .ok (.istore 9, 2) := by decide +kernel
theorem dX11_equations_155 : decode cX11_equations 155 = .ok (.iload 9, 2) := by decide +kernel
theorem dX11_equations_157 : decode cX11_equations 157 = .ok (.aload_n 0, 1) := by decide +kernel
theorem dX11_equations_158 : decode cX11_equations 158 = .ok (.getfield 109, 3) := by decide +kernel
theorem dX11_equations_161 : decode cX11_equations 161 = .ok (.if_icmp .ge 122, 3) := by decide +kernel
theorem dX11_equations_164 : decode cX11_equations 164 = .ok (.aload_n 0, 1) := by decide +kernel
theorem dX11_equations_165 : decode cX11_equations 165 = .ok (.getfield 52, 3) := by decide +kernel
theorem dX11_equations_168 : decode cX11_equations 168 = .ok (.aload_n 0, 1) := by decide +kernel
theorem dX11_equations_169 : decode cX11_equations 169 = .ok (.getfield 109, 3) := by decide +kernel
theorem dX11_equations_172 : decode cX11_equations 172 = .ok (.iload 6, 2) := by decide +kernel
theorem dX11_equations_174 : decode cX11_equations 174 = .ok (.imul, 1) := by decide +kernel
theorem dX11_equations_175 : decode cX11_equations 175 = .ok (.iload 9, 2) := by decide +kernel
theorem dX11_equations_177 : decode cX11_equations 177 = .ok (.iadd, 1) := by decide +kernel
theorem dX11_equations_178 : decode cX11_equations 178 = .ok (.dup2, 1) := by decide +kernel
theorem dX11_equations_179 : decode cX11_equations 179 = .ok (.iaload, 1) := by decide +kernel
theorem dX11_equations_180 : decode cX11_equations 180 = .ok (.aload_n 0, 1) := by decide +kernel
theorem dX11_equations_181 : decode cX11_equations 181 = .ok (.getfield 16, 3) := by decide +kernel
theorem dX11_equations_184 : decode cX11_equations 184 = .ok (.bipush 25, 2) := by decide +kernel
theorem dX11_equations_186 : decode cX11_equations 186 = .ok (.iload 9, 2) := by decide +kernel
theorem dX11_equations_188 : decode cX11_equations 188 = .ok (.imul, 1) := by decide +kernel
theorem dX11_equations_189 : decode cX11_equations 189 = .ok (.iconst 5, 1) := by decide +kernel
theorem dX11_equations_190 : decode cX11_equations 190 = .ok (.iload 7, 2) := by decide +kernel
theorem dX11_equations_192 : decode cX11_equations 192 = .ok (.imul, 1) := by decide +kernel
theorem dX11_equations_193 : decode cX11_equations 193 = .ok (.iadd, 1) := by decide +kernel
theorem dX11_equations_194 : decode cX11_equations 194 = .ok (.iload 8, 2) := by decide +kernel
theorem dX11_equations_196 : decode cX11_equations 196 = .ok (.iadd, 1) := by decide +kernel
theorem dX11_equations_197 : decode cX11_equations 197 = .ok (.iaload, 1) := by decide +kernel
theorem dX11_equations_198 : decode cX11_equations 198 = .ok (.iadd, 1) := by decide +kernel
theorem dX11_equations_199 : decode cX11_equations 199 = .ok (.iastore, 1) := by decide +kernel
theorem dX11_equations_200 : decode cX11_equations 200 = .ok (.aload_n 0, 1) := by decide +kernel
theorem dX11_equations_201 : decode cX11_equations 201 = .ok (.getfield 52, 3) := by decide +kernel
theorem dX11_equations_204 : decode cX11_equations 204 = .ok (.iload_n 3, 1) := by decide +kernel
theorem dX11_equations_205 : decode cX11_equations 205 = .ok (.aload_n 0, 1) := by decide +kernel
theorem dX11_equations_206 : decode cX11_equations 206 = .ok (.getfield 109, 3) := by decide +kernel
theorem dX11_equations_209 : decode cX11_equations 209 = .ok (.iload 7, 2) := by decide +kernel
theorem dX11_equations_211 : decode cX11_equations 211 = .ok (.imul, 1) := by decide +kernel
theorem dX11_equations_212 : decode cX11_equations 212 = .ok (.iadd, 1) := by decide +kernel
theorem dX11_equations_213 : decode cX11_equations 213 = .ok (.iload 9, 2) := by decide +kernel
theorem dX11_equations_215 : decode cX11_equations 215 = .ok (.iadd, 1) := by decide +kernel
theorem dX11_equations_216 : decode cX11_equations 216 = .ok (.dup2, 1) := by decide +kernel
theorem dX11_equations_217 : decode cX11_equations 217 = .ok (.iaload, 1) := by decide +kernel
theorem dX11_equations_218 : decode cX11_equations 218 = .ok (.aload_n 0, 1) := by decide +kernel
theorem dX11_equations_219 : decode cX11_equations 219 = .ok (.getfield 16, 3) := by decide +kernel
theorem dX11_equations_222 : decode cX11_equations 222 = .ok (.bipush 25, 2) := by decide +kernel
theorem dX11_equations_224 : decode cX11_equations 224 = .ok (.iload 6, 2) := by decide +kernel
theorem dX11_equations_226 : decode cX11_equations 226 = .ok (.imul, 1) := by decide +kernel
theorem dX11_equations_227 : decode cX11_equations 227 = .ok (.iconst 5, 1) := by decide +kernel
theorem dX11_equations_228 : decode cX11_equations 228 = .ok (.iload 9, 2) := by decide +kernel
theorem dX11_equations_230 : decode cX11_equations 230 = .ok (.imul, 1) := by decide +kernel
theorem dX11_equations_231 : decode cX11_equations 231 = .ok (.iadd, 1) := by decide +kernel
theorem dX11_equations_232 : decode cX11_equations 232 = .ok (.iload 8, 2) := by decide +kernel
theorem dX11_equations_234 : decode cX11_equations 234 = .ok (.iadd, 1) := by decide +kernel
theorem dX11_equations_235 : decode cX11_equations 235 = .ok (.iaload, 1) := by decide +kernel
theorem dX11_equations_236 : decode cX11_equations 236 = .ok (.iadd, 1) := by decide +kernel
theorem dX11_equations_237 : decode cX11_equations 237 = .ok (.iastore, 1) := by decide +kernel
theorem dX11_equations_238 : decode cX11_equations 238 = .ok (.aload_n 0, 1) := by decide +kernel
theorem dX11_equations_239 : decode cX11_equations 239 = .ok (.getfield 52, 3) := by decide +kernel
theorem dX11_equations_242 : decode cX11_equations 242 = .ok (.iload 4, 2) := by decide +kernel
theorem dX11_equations_244 : decode cX11_equations 244 = .ok (.aload_n 0, 1) := by decide +kernel
theorem dX11_equations_245 : decode cX11_equations 245 = .ok (.getfield 109, 3) := by decide +kernel
theorem dX11_equations_248 : decode cX11_equations 248 = .ok (.iload 9, 2) := by decide +kernel
theorem dX11_equations_250 : decode cX11_equations 250 = .ok (.imul, 1) := by decide +kernel
theorem dX11_equations_251 : decode cX11_equations 251 = .ok (.iadd, 1) := by decide +kernel
theorem dX11_equations_252 : decode cX11_equations 252 = .ok (.iload 8, 2) := by decide +kernel
theorem dX11_equations_254 : decode cX11_equations 254 = .ok (.iadd, 1) := by decide +kernel
theorem dX11_equations_255 : decode cX11_equations 255 = .ok (.dup2, 1) := by decide +kernel
theorem dX11_equations_256 : decode cX11_equations 256 = .ok (.iaload, 1) := by decide +kernel
theorem dX11_equations_257 : decode cX11_equations 257 = .ok (.aload_n 0, 1) := by decide +kernel
theorem dX11_equations_258 : decode cX11_equations 258 = .ok (.getfield 16, 3) := by decide +kernel
theorem dX11_equations_261 : decode cX11_equations 261 = .ok (.bipush 25, 2) := by decide +kernel
theorem dX11_equations_263 : decode cX11_equations 263 = .ok (.iload 6, 2) := by decide +kernel
theorem dX11_equations_265 : decode cX11_equations 265 = .ok (.imul, 1) := by decide +kernel
theorem dX11_equations_266 : decode cX11_equations 266 = .ok (.iconst 5, 1) := by decide +kernel
theorem dX11_equations_267 : decode cX11_equations 267 = .ok (.iload 7, 2) := by decide +kernel
theorem dX11_equations_269 : decode cX11_equations 269 = .ok (.imul, 1) := by decide +kernel
theorem dX11_equations_270 : decode cX11_equations 270 = .ok (.iadd, 1) := by decide +kernel
theorem dX11_equations_271 : decode cX11_equations 271 = .ok (.iload 9, 2) := by decide +kernel
theorem dX11_equations_273 : decode cX11_equations 273 = .ok (.iadd, 1) := by decide +kernel
theorem dX11_equations_274 : decode cX11_equations 274 = .ok (.iaload, 1) := by decide +kernel
theorem dX11_equations_275 : decode cX11_equations 275 = .ok (.isub, 1) := by decide +kernel
theorem dX11_equations_276 : decode cX11_equations 276 = .ok (.iastore, 1) := by decide +kernel
theorem dX11_equations_277 : decode cX11_equations 277 = .ok (.iinc 9 1, 3) := by decide +kernel
theorem dX11_equations_280 : decode cX11_equations 280 = .ok (.goto (-125), 3) := by decide +kernel
theorem dX11_equations_283 : decode cX11_equations 283 = .ok (.iload 5, 2) := by decide +kernel
theorem dX11_equations_285 : decode cX11_equations 285 = .ok (.aload_n 0, 1) := by decide +kernel
theorem dX11_equations_286 : decode cX11_equations 286 = .ok (.iload_n 2, 1) := by decide +kernel
theorem dX11_equations_287 : decode cX11_equations 287 = .ok (.invokevirtual 272, 3) := by decide +kernel
theorem dX11_equations_290 : decode cX11_equations 290 = .ok (.ifCond .eq 7, 3) := by decide +kernel
theorem dX11_equations_293 : decode cX11_equations 293 = .ok (.iconst 1, 1) := by decide +kernel
theorem dX11_equations_294 : decode cX11_equations 294 = .ok (.goto 4, 3) := by decide +kernel
theorem dX11_equations_297 : decode cX11_equations 297 = .ok (.iconst 0, 1) := by decide +kernel
theorem dX11_equations_298 : decode cX11_equations 298 = .ok (.iadd, 1) := by decide +kernel
theorem dX11_equations_299 : decode cX11_equations 299 = .ok (.istore 5, 2) := by decide +kernel
theorem dX11_equations_301 : decode cX11_equations 301 = .ok (.iinc 8 1, 3) := by decide +kernel
theorem dX11_equations_304 : decode cX11_equations 304 = .ok (.goto (-184), 3) := by decide +kernel
theorem dX11_equations_307 : decode cX11_equations 307 = .ok (.iinc 7 1, 3) := by decide +kernel
theorem dX11_equations_310 : decode cX11_equations 310 = .ok (.goto (-202), 3) := by decide +kernel
theorem dX11_equations_313 : decode cX11_equations 313 = .ok (.iinc 6 1, 3) := by decide +kernel
theorem dX11_equations_316 : decode cX11_equations 316 = .ok (.goto (-220), 3) := by decide +kernel
theorem dX11_equations_319 : decode cX11_equations 319 = .ok (.iload 5, 2) := by decide +kernel
theorem dX11_equations_321 : decode cX11_equations 321 = .ok (.ireturn, 1) := by decide +kernel
theorem dX11_one_0 : decode cX11_one 0 = .ok (.iload_n 0, 1) := by decide +kernel
theorem dX11_one_1 : decode cX11_one 1 = .ok (.ifCond .eq 7, 3) := by decide +kernel
theorem dX11_one_4 : decode cX11_one 4 = .ok (.iconst 1, 1) := by decide +kernel
theorem dX11_one_5 : decode cX11_one 5 = .ok (.goto 4, 3) := by decide +kernel
theorem dX11_one_8 : decode cX11_one 8 = .ok (.iconst 0, 1) := by decide +kernel
theorem dX11_one_9 : decode cX11_one 9 = .ok (.ireturn, 1) := by decide +kernel
theorem dX11_of_0 : decode cX11_of 0 = .ok (.iload_n 1, 1) := by decide +kernel
theorem dX11_of_1 : decode cX11_of 1 = .ok (.invokestatic 143, 3) := by decide +kernel
theorem dX11_of_4 : decode cX11_of 4 = .ok (.ifCond .ne 6, 3) := by decide +kernel
theorem dX11_of_7 : decode cX11_of 7 = .ok (.bipush (-2), 2) := by decide +kernel
theorem dX11_of_9 : decode cX11_of 9 = .ok (.ireturn, 1) := by decide +kernel
theorem dX11_of_10 : decode cX11_of 10 = .ok (.aload_n 0, 1) := by decide +kernel
theorem dX11_of_11 : decode cX11_of 11 = .ok (.iload_n 1, 1) := by decide +kernel
theorem dX11_of_12 : decode cX11_of 12 = .ok (.invokevirtual 147, 3) := by decide +kernel
theorem dX11_of_15 : decode cX11_of 15 = .ok (.iload_n 2, 1) := by decide +kernel
theorem dX11_of_16 : decode cX11_of 16 = .ok (.tableswitch 223 0 17 #[88, 93, 98, 103, 120, 125, 130, 138, 155, 160, 160, 160, 169, 174, 179, 184, 189, 205], 88) := by decide +kernel
theorem dX11_of_104 : decode cX11_of 104 = .ok (.aload_n 0, 1) := by decide +kernel
theorem dX11_of_105 : decode cX11_of 105 = .ok (.getfield 106, 3) := by decide +kernel
theorem dX11_of_108 : decode cX11_of 108 = .ok (.ireturn, 1) := by decide +kernel
theorem dX11_of_109 : decode cX11_of 109 = .ok (.aload_n 0, 1) := by decide +kernel
theorem dX11_of_110 : decode cX11_of 110 = .ok (.getfield 109, 3) := by decide +kernel
theorem dX11_of_113 : decode cX11_of 113 = .ok (.ireturn, 1) := by decide +kernel
theorem dX11_of_114 : decode cX11_of 114 = .ok (.aload_n 0, 1) := by decide +kernel
theorem dX11_of_115 : decode cX11_of 115 = .ok (.getfield 112, 3) := by decide +kernel
theorem dX11_of_118 : decode cX11_of 118 = .ok (.ireturn, 1) := by decide +kernel
theorem dX11_of_119 : decode cX11_of 119 = .ok (.aload_n 0, 1) := by decide +kernel
theorem dX11_of_120 : decode cX11_of 120 = .ok (.invokevirtual 275, 3) := by decide +kernel
theorem dX11_of_123 : decode cX11_of 123 = .ok (.iconst (-1), 1) := by decide +kernel
theorem dX11_of_124 : decode cX11_of 124 = .ok (.if_icmp .ne 7, 3) := by decide +kernel
theorem dX11_of_127 : decode cX11_of 127 = .ok (.iconst 1, 1) := by decide +kernel
theorem dX11_of_128 : decode cX11_of 128 = .ok (.goto 4, 3) := by decide +kernel
theorem dX11_of_131 : decode cX11_of 131 = .ok (.iconst 0, 1) := by decide +kernel
theorem dX11_of_132 : decode cX11_of 132 = .ok (.invokestatic 278, 3) := by decide +kernel
theorem dX11_of_135 : decode cX11_of 135 = .ok (.ireturn, 1) := by decide +kernel
theorem dX11_of_136 : decode cX11_of 136 = .ok (.aload_n 0, 1) := by decide +kernel
theorem dX11_of_137 : decode cX11_of 137 = .ok (.invokevirtual 275, 3) := by decide +kernel
theorem dX11_of_140 : decode cX11_of 140 = .ok (.ireturn, 1) := by decide +kernel
theorem dX11_of_141 : decode cX11_of 141 = .ok (.aload_n 0, 1) := by decide +kernel
theorem dX11_of_142 : decode cX11_of 142 = .ok (.invokevirtual 282, 3) := by decide +kernel
theorem dX11_of_145 : decode cX11_of 145 = .ok (.ireturn, 1) := by decide +kernel
theorem dX11_of_146 : decode cX11_of 146 = .ok (.aload_n 0, 1) := by decide +kernel
theorem dX11_of_147 : decode cX11_of 147 = .ok (.invokevirtual 285, 3) := by decide +kernel
theorem dX11_of_150 : decode cX11_of 150 = .ok (.invokestatic 278, 3) := by decide +kernel
theorem dX11_of_153 : decode cX11_of 153 = .ok (.ireturn, 1) := by decide +kernel
theorem dX11_of_154 : decode cX11_of 154 = .ok (.aload_n 0, 1) := by decide +kernel
theorem dX11_of_155 : decode cX11_of 155 = .ok (.invokevirtual 288, 3) := by decide +kernel
theorem dX11_of_158 : decode cX11_of 158 = .ok (.iconst (-1), 1) := by decide +kernel
theorem dX11_of_159 : decode cX11_of 159 = .ok (.if_icmp .ne 7, 3) := by decide +kernel
theorem dX11_of_162 : decode cX11_of 162 = .ok (.iconst 1, 1) := by decide +kernel
theorem dX11_of_163 : decode cX11_of 163 = .ok (.goto 4, 3) := by decide +kernel
theorem dX11_of_166 : decode cX11_of 166 = .ok (.iconst 0, 1) := by decide +kernel
theorem dX11_of_167 : decode cX11_of 167 = .ok (.invokestatic 278, 3) := by decide +kernel
theorem dX11_of_170 : decode cX11_of 170 = .ok (.ireturn, 1) := by decide +kernel
theorem dX11_of_171 : decode cX11_of 171 = .ok (.aload_n 0, 1) := by decide +kernel
theorem dX11_of_172 : decode cX11_of 172 = .ok (.invokevirtual 288, 3) := by decide +kernel
theorem dX11_of_175 : decode cX11_of 175 = .ok (.ireturn, 1) := by decide +kernel
theorem dX11_of_176 : decode cX11_of 176 = .ok (.aload_n 0, 1) := by decide +kernel
theorem dX11_of_177 : decode cX11_of 177 = .ok (.iload_n 2, 1) := by decide +kernel
theorem dX11_of_178 : decode cX11_of 178 = .ok (.bipush 9, 2) := by decide +kernel
theorem dX11_of_180 : decode cX11_of 180 = .ok (.isub, 1) := by decide +kernel
theorem dX11_of_181 : decode cX11_of 181 = .ok (.invokevirtual 291, 3) := by decide +kernel
theorem dX11_of_184 : decode cX11_of 184 = .ok (.ireturn, 1) := by decide +kernel
theorem dX11_of_185 : decode cX11_of 185 = .ok (.aload_n 0, 1) := by decide +kernel
theorem dX11_of_186 : decode cX11_of 186 = .ok (.invokevirtual 294, 3) := by decide +kernel
theorem dX11_of_189 : decode cX11_of 189 = .ok (.ireturn, 1) := by decide +kernel
theorem dX11_of_190 : decode cX11_of 190 = .ok (.aload_n 0, 1) := by decide +kernel
theorem dX11_of_191 : decode cX11_of 191 = .ok (.invokevirtual 297, 3) := by decide +kernel
theorem dX11_of_194 : decode cX11_of 194 = .ok (.ireturn, 1) := by decide +kernel
theorem dX11_of_195 : decode cX11_of 195 = .ok (.aload_n 0, 1) := by decide +kernel
theorem dX11_of_196 : decode cX11_of 196 = .ok (.invokevirtual 300, 3) := by decide +kernel
theorem dX11_of_199 : decode cX11_of 199 = .ok (.ireturn, 1) := by decide +kernel
theorem dX11_of_200 : decode cX11_of 200 = .ok (.aload_n 0, 1) := by decide +kernel
theorem dX11_of_201 : decode cX11_of 201 = .ok (.invokevirtual 303, 3) := by decide +kernel
theorem dX11_of_204 : decode cX11_of 204 = .ok (.ireturn, 1) := by decide +kernel
theorem dX11_of_205 : decode cX11_of 205 = .ok (.aload_n 0, 1) := by decide +kernel
theorem dX11_of_206 : decode cX11_of 206 = .ok (.getfield 109, 3) := by decide +kernel
theorem dX11_of_209 : decode cX11_of 209 = .ok (.aload_n 0, 1) := by decide +kernel
theorem dX11_of_210 : decode cX11_of 210 = .ok (.getfield 109, 3) := by decide +kernel
theorem dX11_of_213 : decode cX11_of 213 = .ok (.imul, 1) := by decide +kernel
theorem dX11_of_214 : decode cX11_of 214 = .ok (.aload_n 0, 1) := by decide +kernel
theorem dX11_of_215 : decode cX11_of 215 = .ok (.iconst 0, 1) := by decide +kernel
theorem dX11_of_216 : decode cX11_of 216 = .ok (.invokevirtual 306, 3) := by decide +kernel
theorem dX11_of_219 : decode cX11_of 219 = .ok (.isub, 1) := by decide +kernel
theorem dX11_of_220 : decode cX11_of 220 = .ok (.ireturn, 1) := by decide +kernel
theorem dX11_of_221 : decode cX11_of 221 = .ok (.iconst 3, 1) := by decide +kernel
theorem dX11_of_222 : decode cX11_of 222 = .ok (.aload_n 0, 1) := by decide +kernel
theorem dX11_of_223 : decode cX11_of 223 = .ok (.getfield 109, 3) := by decide +kernel
theorem dX11_of_226 : decode cX11_of 226 = .ok (.imul, 1) := by decide +kernel
theorem dX11_of_227 : decode cX11_of 227 = .ok (.aload_n 0, 1) := by decide +kernel
theorem dX11_of_228 : decode cX11_of 228 = .ok (.getfield 109, 3) := by decide +kernel
theorem dX11_of_231 : decode cX11_of 231 = .ok (.imul, 1) := by decide +kernel
theorem dX11_of_232 : decode cX11_of 232 = .ok (.aload_n 0, 1) := by decide +kernel
theorem dX11_of_233 : decode cX11_of 233 = .ok (.iconst 1, 1) := by decide +kernel
theorem dX11_of_234 : decode cX11_of 234 = .ok (.invokevirtual 306, 3) := by decide +kernel
theorem dX11_of_237 : decode cX11_of 237 = .ok (.isub, 1) := by decide +kernel
theorem dX11_of_238 : decode cX11_of 238 = .ok (.ireturn, 1) := by decide +kernel
theorem dX11_of_239 : decode cX11_of 239 = .ok (.bipush (-2), 2) := by decide +kernel
theorem dX11_of_241 : decode cX11_of 241 = .ok (.ireturn, 1) := by decide +kernel
theorem dX11_isElement_0 : decode cX11_isElement 0 = .ok (.iload_n 1, 1) := by decide +kernel
theorem dX11_isElement_1 : decode cX11_isElement 1 = .ok (.invokestatic 143, 3) := by decide +kernel
theorem dX11_isElement_4 : decode cX11_isElement 4 = .ok (.ifCond .eq 22, 3) := by decide +kernel
theorem dX11_isElement_7 : decode cX11_isElement 7 = .ok (.iload_n 2, 1) := by decide +kernel
theorem dX11_isElement_8 : decode cX11_isElement 8 = .ok (.iconst 0, 1) := by decide +kernel
theorem dX11_isElement_9 : decode cX11_isElement 9 = .ok (.aload_n 0, 1) := by decide +kernel
theorem dX11_isElement_10 : decode cX11_isElement 10 = .ok (.iload_n 1, 1) := by decide +kernel
theorem dX11_isElement_11 : decode cX11_isElement 11 = .ok (.invokevirtual 309, 3) := by decide +kernel
theorem dX11_isElement_14 : decode cX11_isElement 14 = .ok (.iconst 1, 1) := by decide +kernel
theorem dX11_isElement_15 : decode cX11_isElement 15 = .ok (.isub, 1) := by decide +kernel
theorem dX11_isElement_16 : decode cX11_isElement 16 = .ok (.invokestatic 98, 3) := by decide +kernel
theorem dX11_isElement_19 : decode cX11_isElement 19 = .ok (.ifCond .eq 7, 3) := by decide +kernel
theorem dX11_isElement_22 : decode cX11_isElement 22 = .ok (.iconst 1, 1) := by decide +kernel
theorem dX11_isElement_23 : decode cX11_isElement 23 = .ok (.goto 4, 3) := by decide +kernel
theorem dX11_isElement_26 : decode cX11_isElement 26 = .ok (.iconst 0, 1) := by decide +kernel
theorem dX11_isElement_27 : decode cX11_isElement 27 = .ok (.ireturn, 1) := by decide +kernel
theorem dX11_product_0 : decode cX11_product 0 = .ok (.aload_n 0, 1) := by decide +kernel
theorem dX11_product_1 : decode cX11_product 1 = .ok (.iload_n 1, 1) := by decide +kernel
theorem dX11_product_2 : decode cX11_product 2 = .ok (.iload_n 2, 1) := by decide +kernel
theorem dX11_product_3 : decode cX11_product 3 = .ok (.invokevirtual 312, 3) := by decide +kernel
theorem dX11_product_6 : decode cX11_product 6 = .ok (.ifCond .eq 12, 3) := by decide +kernel
theorem dX11_product_9 : decode cX11_product 9 = .ok (.aload_n 0, 1) := by decide +kernel
theorem dX11_product_10 : decode cX11_product 10 = .ok (.iload_n 1, 1) := by decide +kernel
theorem dX11_product_11 : decode cX11_product 11 = .ok (.iload_n 3, 1) := by decide +kernel
theorem dX11_product_12 : decode cX11_product 12 = .ok (.invokevirtual 312, 3) := by decide +kernel
theorem dX11_product_15 : decode cX11_product 15 = .ok (.ifCond .ne 5, 3) := by decide +kernel
theorem dX11_product_18 : decode cX11_product 18 = .ok (.iconst (-1), 1) := by decide +kernel
theorem dX11_product_19 : decode cX11_product 19 = .ok (.ireturn, 1) := by decide +kernel
theorem dX11_product_20 : decode cX11_product 20 = .ok (.aload_n 0, 1) := by decide +kernel
theorem dX11_product_21 : decode cX11_product 21 = .ok (.iload_n 1, 1) := by decide +kernel
theorem dX11_product_22 : decode cX11_product 22 = .ok (.invokevirtual 147, 3) := by decide +kernel
theorem dX11_product_25 : decode cX11_product 25 = .ok (.aload_n 0, 1) := by decide +kernel
theorem dX11_product_26 : decode cX11_product 26 = .ok (.iload_n 2, 1) := by decide +kernel
theorem dX11_product_27 : decode cX11_product 27 = .ok (.iload_n 3, 1) := by decide +kernel
theorem dX11_product_28 : decode cX11_product 28 = .ok (.invokevirtual 266, 3) := by decide +kernel
theorem dX11_product_31 : decode cX11_product 31 = .ok (.ireturn, 1) := by decide +kernel
theorem dX11_quotient_0 : decode cX11_quotient 0 = .ok (.aload_n 0, 1) := by decide +kernel
theorem dX11_quotient_1 : decode cX11_quotient 1 = .ok (.iload_n 1, 1) := by decide +kernel
theorem dX11_quotient_2 : decode cX11_quotient 2 = .ok (.iload_n 2, 1) := by decide +kernel
theorem dX11_quotient_3 : decode cX11_quotient 3 = .ok (.invokevirtual 312, 3) := by decide +kernel
theorem dX11_quotient_6 : decode cX11_quotient 6 = .ok (.ifCond .eq 12, 3) := by decide +kernel
theorem dX11_quotient_9 : decode cX11_quotient 9 = .ok (.aload_n 0, 1) := by decide +kernel
theorem dX11_quotient_10 : decode cX11_quotient 10 = .ok (.iload_n 1, 1) := by decide +kernel
theorem dX11_quotient_11 : decode cX11_quotient 11 = .ok (.iload_n 3, 1) := by decide +kernel
theorem dX11_quotient_12 : decode cX11_quotient 12 = .ok (.invokevirtual 312, 3) := by decide +kernel
theorem dX11_quotient_15 : decode cX11_quotient 15 = .ok (.ifCond .ne 5, 3) := by decide +kernel
theorem dX11_quotient_18 : decode cX11_quotient 18 = .ok (.iconst (-1), 1) := by decide +kernel
theorem dX11_quotient_19 : decode cX11_quotient 19 = .ok (.ireturn, 1) := by decide +kernel
theorem dX11_quotient_20 : decode cX11_quotient 20 = .ok (.aload_n 0, 1) := by decide +kernel
theorem dX11_quotient_21 : decode cX11_quotient 21 = .ok (.iload_n 1, 1) := by decide +kernel
theorem dX11_quotient_22 : decode cX11_quotient 22 = .ok (.invokevirtual 147, 3) := by decide +kernel
theorem dX11_quotient_25 : decode cX11_quotient 25 = .ok (.iconst 0, 1) := by decide +kernel
theorem dX11_quotient_26 : decode cX11_quotient 26 = .ok (.istore 5, 2) := by decide +kernel
theorem dX11_quotient_28 : decode cX11_quotient 28 = .ok (.iload 5, 2) := by decide +kernel
theorem dX11_quotient_30 : decode cX11_quotient 30 = .ok (.aload_n 0, 1) := by decide +kernel
theorem dX11_quotient_31 : decode cX11_quotient 31 = .ok (.getfield 112, 3) := by decide +kernel
theorem dX11_quotient_34 : decode cX11_quotient 34 = .ok (.if_icmp .ge 38, 3) := by decide +kernel
theorem dX11_quotient_37 : decode cX11_quotient 37 = .ok (.iload 4, 2) := by decide +kernel
theorem dX11_quotient_39 : decode cX11_quotient 39 = .ok (.ifCond .eq 13, 3) := by decide +kernel
theorem dX11_quotient_42 : decode cX11_quotient 42 = .ok (.aload_n 0, 1) := by decide +kernel
theorem dX11_quotient_43 : decode cX11_quotient 43 = .ok (.iload_n 2, 1) := by decide +kernel
theorem dX11_quotient_44 : decode cX11_quotient 44 = .ok (.iload 5, 2) := by decide +kernel
theorem dX11_quotient_46 : decode cX11_quotient 46 = .ok (.invokevirtual 266, 3) := by decide +kernel
theorem dX11_quotient_49 : decode cX11_quotient 49 = .ok (.goto 10, 3) := by decide +kernel
theorem dX11_quotient_52 : decode cX11_quotient 52 = .ok (.aload_n 0, 1) := by decide +kernel
theorem dX11_quotient_53 : decode cX11_quotient 53 = .ok (.iload 5, 2) := by decide +kernel
theorem dX11_quotient_55 : decode cX11_quotient 55 = .ok (.iload_n 2, 1) := by decide +kernel
theorem dX11_quotient_56 : decode cX11_quotient 56 = .ok (.invokevirtual 266, 3) := by decide +kernel
theorem dX11_quotient_59 : decode cX11_quotient 59 = .ok (.iload_n 3, 1) := by decide +kernel
theorem dX11_quotient_60 : decode cX11_quotient 60 = .ok (.if_icmp .ne 6, 3) := by decide +kernel
theorem dX11_quotient_63 : decode cX11_quotient 63 = .ok (.iload 5, 2) := by decide +kernel
theorem dX11_quotient_65 : decode cX11_quotient 65 = .ok (.ireturn, 1) := by decide +kernel
theorem dX11_quotient_66 : decode cX11_quotient 66 = .ok (.iinc 5 1, 3) := by decide +kernel
theorem dX11_quotient_69 : decode cX11_quotient 69 = .ok (.goto (-41), 3) := by decide +kernel
theorem dX11_quotient_72 : decode cX11_quotient 72 = .ok (.iconst (-1), 1) := by decide +kernel
theorem dX11_quotient_73 : decode cX11_quotient 73 = .ok (.ireturn, 1) := by decide +kernel
theorem dX11_ranks_0 : decode cX11_ranks 0 = .ok (.iload_n 1, 1) := by decide +kernel
theorem dX11_ranks_1 : decode cX11_ranks 1 = .ok (.invokestatic 143, 3) := by decide +kernel
theorem dX11_ranks_4 : decode cX11_ranks 4 = .ok (.ifCond .eq 32, 3) := by decide +kernel
theorem dX11_ranks_7 : decode cX11_ranks 7 = .ok (.iload_n 2, 1) := by decide +kernel
theorem dX11_ranks_8 : decode cX11_ranks 8 = .ok (.iconst 0, 1) := by decide +kernel
theorem dX11_ranks_9 : decode cX11_ranks 9 = .ok (.iconst 2, 1) := by decide +kernel
theorem dX11_ranks_10 : decode cX11_ranks 10 = .ok (.invokestatic 98, 3) := by decide +kernel
theorem dX11_ranks_13 : decode cX11_ranks 13 = .ok (.ifCond .eq 23, 3) := by decide +kernel
theorem dX11_ranks_16 : decode cX11_ranks 16 = .ok (.iload_n 3, 1) := by decide +kernel
theorem dX11_ranks_17 : decode cX11_ranks 17 = .ok (.iconst 0, 1) := by decide +kernel
theorem dX11_ranks_18 : decode cX11_ranks 18 = .ok (.aload_n 0, 1) := by decide +kernel
theorem dX11_ranks_19 : decode cX11_ranks 19 = .ok (.getfield 7, 3) := by decide +kernel
theorem dX11_ranks_22 : decode cX11_ranks 22 = .ok (.sipush 130, 3) := by decide +kernel
theorem dX11_ranks_25 : decode cX11_ranks 25 = .ok (.iload_n 1, 1) := by decide +kernel
theorem dX11_ranks_26 : decode cX11_ranks 26 = .ok (.imul, 1) := by decide +kernel
theorem dX11_ranks_27 : decode cX11_ranks 27 = .ok (.iconst 1, 1) := by decide +kernel
theorem dX11_ranks_28 : decode cX11_ranks 28 = .ok (.iadd, 1) := by decide +kernel
theorem dX11_ranks_29 : decode cX11_ranks 29 = .ok (.iaload, 1) := by decide +kernel
theorem dX11_ranks_30 : decode cX11_ranks 30 = .ok (.invokestatic 98, 3) := by decide +kernel
theorem dX11_ranks_33 : decode cX11_ranks 33 = .ok (.ifCond .ne 5, 3) := by decide +kernel
theorem dX11_ranks_36 : decode cX11_ranks 36 = .ok (.iconst (-1), 1) := by decide +kernel
theorem dX11_ranks_37 : decode cX11_ranks 37 = .ok (.ireturn, 1) := by decide +kernel
theorem dX11_ranks_38 : decode cX11_ranks 38 = .ok (.aload_n 0, 1) := by decide +kernel
theorem dX11_ranks_39 : decode cX11_ranks 39 = .ok (.iload_n 1, 1) := by decide +kernel
theorem dX11_ranks_40 : decode cX11_ranks 40 = .ok (.invokevirtual 147, 3) := by decide +kernel
theorem dX11_ranks_43 : decode cX11_ranks 43 = .ok (.iconst 0, 1) := by decide +kernel
theorem dX11_ranks_44 : decode cX11_ranks 44 = .ok (.istore 4, 2) := by decide +kernel
theorem dX11_ranks_46 : decode cX11_ranks 46 = .ok (.iconst 1, 1) := by decide +kernel
theorem dX11_ranks_47 : decode cX11_ranks 47 = .ok (.istore 5, 2) := by decide +kernel
theorem dX11_ranks_49 : decode cX11_ranks 49 = .ok (.iload 5, 2) := by decide +kernel
theorem dX11_ranks_51 : decode cX11_ranks 51 = .ok (.aload_n 0, 1) := by decide +kernel
theorem dX11_ranks_52 : decode cX11_ranks 52 = .ok (.getfield 112, 3) := by decide +kernel
theorem dX11_ranks_55 : decode cX11_ranks 55 = .ok (.if_icmp .ge 30, 3) := by decide +kernel
theorem dX11_ranks_58 : decode cX11_ranks 58 = .ok (.iload 4, 2) := by decide +kernel
theorem dX11_ranks_60 : decode cX11_ranks 60 = .ok (.aload_n 0, 1) := by decide +kernel
theorem dX11_ranks_61 : decode cX11_ranks 61 = .ok (.iload 5, 2) := by decide +kernel
theorem dX11_ranks_63 : decode cX11_ranks 63 = .ok (.iload_n 2, 1) := by decide +kernel
theorem dX11_ranks_64 : decode cX11_ranks 64 = .ok (.invokevirtual 263, 3) := by decide +kernel
theorem dX11_ranks_67 : decode cX11_ranks 67 = .ok (.iload_n 3, 1) := by decide +kernel
theorem dX11_ranks_68 : decode cX11_ranks 68 = .ok (.if_icmp .ne 7, 3) := by decide +kernel
theorem dX11_ranks_71 : decode cX11_ranks 71 = .ok (.iconst 1, 1) := by decide +kernel
theorem dX11_ranks_72 : decode cX11_ranks 72 = .ok (.goto 4, 3) := by decide +kernel
theorem dX11_ranks_75 : decode cX11_ranks 75 = .ok (.iconst 0, 1) := by decide +kernel
theorem dX11_ranks_76 : decode cX11_ranks 76 = .ok (.iadd, 1) := by decide +kernel
theorem dX11_ranks_77 : decode cX11_ranks 77 = .ok (.istore 4, 2) := by decide +kernel
theorem dX11_ranks_79 : decode cX11_ranks 79 = .ok (.iinc 5 1, 3) := by decide +kernel
theorem dX11_ranks_82 : decode cX11_ranks 82 = .ok (.goto (-33), 3) := by decide +kernel
theorem dX11_ranks_85 : decode cX11_ranks 85 = .ok (.iload 4, 2) := by decide +kernel
theorem dX11_ranks_87 : decode cX11_ranks 87 = .ok (.ireturn, 1) := by decide +kernel
theorem dX11_spans_0 : decode cX11_spans 0 = .ok (.aload_n 0, 1) := by decide +kernel
theorem dX11_spans_1 : decode cX11_spans 1 = .ok (.getfield 315, 3) := by decide +kernel
theorem dX11_spans_4 : decode cX11_spans 4 = .ok (.aload_n 0, 1) := by decide +kernel
theorem dX11_spans_5 : decode cX11_spans 5 = .ok (.getfield 109, 3) := by decide +kernel
theorem dX11_spans_8 : decode cX11_spans 8 = .ok (.if_icmp .ne 4, 3) := by decide +kernel
theorem dX11_spans_11 : decode cX11_spans 11 = .ok (.return_, 1) := by decide +kernel
theorem dX11_spans_12 : decode cX11_spans 12 = .ok (.iconst 0, 1) := by decide +kernel
theorem dX11_spans_13 : decode cX11_spans 13 = .ok (.istore_n 2, 1) := by decide +kernel
theorem dX11_spans_14 : decode cX11_spans 14 = .ok (.iload_n 2, 1) := by decide +kernel
theorem dX11_spans_15 : decode cX11_spans 15 = .ok (.aload_n 0, 1) := by decide +kernel
theorem dX11_spans_16 : decode cX11_spans 16 = .ok (.getfield 109, 3) := by decide +kernel
theorem dX11_spans_19 : decode cX11_spans 19 = .ok (.if_icmp .ge 34, 3) := by decide +kernel
theorem dX11_spans_22 : decode cX11_spans 22 = .ok (.iconst 0, 1) := by decide +kernel
theorem dX11_spans_23 : decode cX11_spans 23 = .ok (.istore_n 3, 1) := by decide +kernel
theorem dX11_spans_24 : decode cX11_spans 24 = .ok (.iload_n 3, 1) := by decide +kernel
theorem dX11_spans_25 : decode cX11_spans 25 = .ok (.aload_n 0, 1) := by decide +kernel
theorem dX11_spans_26 : decode cX11_spans 26 = .ok (.getfield 109, 3) := by decide +kernel
theorem dX11_spans_29 : decode cX11_spans 29 = .ok (.if_icmp .ge 18, 3) := by decide +kernel
theorem dX11_spans_32 : decode cX11_spans 32 = .ok (.aload_n 0, 1) := by decide +kernel
theorem dX11_spans_33 : decode cX11_spans 33 = .ok (.getfield 46, 3) := by decide +kernel
theorem dX11_spans_36 : decode cX11_spans 36 = .ok (.iload_n 2, 1) := by decide +kernel
theorem dX11_spans_37 : decode cX11_spans 37 = .ok (.aaload, 1) := by decide +kernel
theorem dX11_spans_38 : decode cX11_spans 38 = .ok (.iload_n 3, 1) := by decide +kernel
theorem dX11_spans_39 : decode cX11_spans 39 = .ok (.iconst 0, 1) := by decide +kernel
theorem dX11_spans_40 : decode cX11_spans 40 = .ok (.iastore, 1) := by decide +kernel
theorem dX11_spans_41 : decode cX11_spans 41 = .ok (.iinc 3 1, 3) := by decide +kernel
theorem dX11_spans_44 : decode cX11_spans 44 = .ok (.goto (-20), 3) := by decide +kernel
theorem dX11_spans_47 : decode cX11_spans 47 = .ok (.iinc 2 1, 3) := by decide +kernel
theorem dX11_spans_50 : decode cX11_spans 50 = .ok (.goto (-36), 3) := by decide +kernel
theorem dX11_spans_53 : decode cX11_spans 53 = .ok (.iconst 0, 1) := by decide +kernel
theorem dX11_spans_54 : decode cX11_spans 54 = .ok (.istore_n 2, 1) := by decide +kernel
theorem dX11_spans_55 : decode cX11_spans 55 = .ok (.iload_n 2, 1) := by decide +kernel
theorem dX11_spans_56 : decode cX11_spans 56 = .ok (.aload_n 0, 1) := by decide +kernel
theorem dX11_spans_57 : decode cX11_spans 57 = .ok (.getfield 315, 3) := by decide +kernel
theorem dX11_spans_60 : decode cX11_spans 60 = .ok (.if_icmp .gt 65, 3) := by decide +kernel
theorem dX11_spans_63 : decode cX11_spans 63 = .ok (.aload_n 0, 1) := by decide +kernel
theorem dX11_spans_64 : decode cX11_spans 64 = .ok (.iload_n 2, 1) := by decide +kernel
theorem dX11_spans_65 : decode cX11_spans 65 = .ok (.aload_n 0, 1) := by decide +kernel
theorem dX11_spans_66 : decode cX11_spans 66 = .ok (.getfield 315, 3) := by decide +kernel
theorem dX11_spans_69 : decode cX11_spans 69 = .ok (.if_icmp .ne 7, 3) := by decide +kernel
theorem dX11_spans_72 : decode cX11_spans 72 = .ok (.iload_n 1, 1) := by decide +kernel
theorem dX11_spans_73 : decode cX11_spans 73 = .ok (.goto 9, 3) := by decide +kernel
theorem dX11_spans_76 : decode cX11_spans 76 = .ok (.aload_n 0, 1) := by decide +kernel
theorem dX11_spans_77 : decode cX11_spans 77 = .ok (.getfield 62, 3) := by decide +kernel
theorem dX11_spans_80 : decode cX11_spans 80 = .ok (.iload_n 2, 1) := by decide +kernel
theorem dX11_spans_81 : decode cX11_spans 81 = .ok (.iaload, 1) := by decide +kernel
theorem dX11_spans_82 : decode cX11_spans 82 = .ok (.aload_n 0, 1) := by decide +kernel
theorem dX11_spans_83 : decode cX11_spans 83 = .ok (.getfield 19, 3) := by decide +kernel
theorem dX11_spans_86 : decode cX11_spans 86 = .ok (.invokevirtual 115, 3) := by decide +kernel
theorem dX11_spans_89 : decode cX11_spans 89 = .ok (.iconst 0, 1) := by decide +kernel
theorem dX11_spans_90 : decode cX11_spans 90 = .ok (.istore_n 3, 1) := by decide +kernel
theorem dX11_spans_91 : decode cX11_spans 91 = .ok (.iload_n 3, 1) := by decide +kernel
theorem dX11_spans_92 : decode cX11_spans 92 = .ok (.aload_n 0, 1) := by decide +kernel
theorem dX11_spans_93 : decode cX11_spans 93 = .ok (.getfield 109, 3) := by decide +kernel
theorem dX11_spans_96 : decode cX11_spans 96 = .ok (.if_icmp .ge 23, 3) := by decide +kernel
theorem dX11_spans_99 : decode cX11_spans 99 = .ok (.aload_n 0, 1) := by decide +kernel
theorem dX11_spans_100 : decode cX11_spans 100 = .ok (.getfield 46, 3) := by decide +kernel
theorem dX11_spans_103 : decode cX11_spans 103 = .ok (.iload_n 2, 1) := by decide +kernel
theorem dX11_spans_104 : decode cX11_spans 104 = .ok (.aaload, 1) := by decide +kernel
theorem dX11_spans_105 : decode cX11_spans 105 = .ok (.iload_n 3, 1) := by decide +kernel
theorem dX11_spans_106 : decode cX11_spans 106 = .ok (.aload_n 0, 1) := by decide +kernel
theorem dX11_spans_107 : decode cX11_spans 107 = .ok (.getfield 19, 3) := by decide +kernel
theorem dX11_spans_110 : decode cX11_spans 110 = .ok (.iload_n 3, 1) := by decide +kernel
theorem dX11_spans_111 : decode cX11_spans 111 = .ok (.iaload, 1) := by decide +kernel
theorem dX11_spans_112 : decode cX11_spans 112 = .ok (.iastore, 1) := by decide +kernel
theorem dX11_spans_113 : decode cX11_spans 113 = .ok (.iinc 3 1, 3) := by decide +kernel
theorem dX11_spans_116 : decode cX11_spans 116 = .ok (.goto (-25), 3) := by decide +kernel
theorem dX11_spans_119 : decode cX11_spans 119 = .ok (.iinc 2 1, 3) := by decide +kernel
theorem dX11_spans_122 : decode cX11_spans 122 = .ok (.goto (-67), 3) := by decide +kernel
theorem dX11_spans_125 : decode cX11_spans 125 = .ok (.aload_n 0, 1) := by decide +kernel
theorem dX11_spans_126 : decode cX11_spans 126 = .ok (.invokevirtual 260, 3) := by decide +kernel
theorem dX11_spans_129 : decode cX11_spans 129 = .ok (.aload_n 0, 1) := by decide +kernel
theorem dX11_spans_130 : decode cX11_spans 130 = .ok (.getfield 315, 3) := by decide +kernel
theorem dX11_spans_133 : decode cX11_spans 133 = .ok (.if_icmp .ne 4, 3) := by decide +kernel
theorem dX11_spans_136 : decode cX11_spans 136 = .ok (.return_, 1) := by decide +kernel
theorem dX11_spans_137 : decode cX11_spans 137 = .ok (.aload_n 0, 1) := by decide +kernel
theorem dX11_spans_138 : decode cX11_spans 138 = .ok (.getfield 62, 3) := by decide +kernel
theorem dX11_spans_141 : decode cX11_spans 141 = .ok (.aload_n 0, 1) := by decide +kernel
theorem dX11_spans_142 : decode cX11_spans 142 = .ok (.getfield 315, 3) := by decide +kernel
theorem dX11_spans_145 : decode cX11_spans 145 = .ok (.iload_n 1, 1) := by decide +kernel
theorem dX11_spans_146 : decode cX11_spans 146 = .ok (.iastore, 1) := by decide +kernel
theorem dX11_spans_147 : decode cX11_spans 147 = .ok (.aload_n 0, 1) := by decide +kernel
theorem dX11_spans_148 : decode cX11_spans 148 = .ok (.dup, 1) := by decide +kernel
theorem dX11_spans_149 : decode cX11_spans 149 = .ok (.getfield 315, 3) := by decide +kernel
theorem dX11_spans_152 : decode cX11_spans 152 = .ok (.iconst 1, 1) := by decide +kernel
theorem dX11_spans_153 : decode cX11_spans 153 = .ok (.iadd, 1) := by decide +kernel
theorem dX11_spans_154 : decode cX11_spans 154 = .ok (.putfield 315, 3) := by decide +kernel
theorem dX11_spans_157 : decode cX11_spans 157 = .ok (.return_, 1) := by decide +kernel
theorem dX11_span_0 : decode cX11_span 0 = .ok (.aload_n 0, 1) := by decide +kernel
theorem dX11_span_1 : decode cX11_span 1 = .ok (.iload_n 1, 1) := by decide +kernel
theorem dX11_span_2 : decode cX11_span 2 = .ok (.iload_n 2, 1) := by decide +kernel
theorem dX11_span_3 : decode cX11_span 3 = .ok (.invokevirtual 312, 3) := by decide +kernel
theorem dX11_span_6 : decode cX11_span 6 = .ok (.ifCond .eq 12, 3) := by decide +kernel
theorem dX11_span_9 : decode cX11_span 9 = .ok (.aload_n 0, 1) := by decide +kernel
theorem dX11_span_10 : decode cX11_span 10 = .ok (.iload_n 1, 1) := by decide +kernel
theorem dX11_span_11 : decode cX11_span 11 = .ok (.iload_n 3, 1) := by decide +kernel
theorem dX11_span_12 : decode cX11_span 12 = .ok (.invokevirtual 312, 3) := by decide +kernel
theorem dX11_span_15 : decode cX11_span 15 = .ok (.ifCond .ne 5, 3) := by decide +kernel
theorem dX11_span_18 : decode cX11_span 18 = .ok (.iconst (-1), 1) := by decide +kernel
theorem dX11_span_19 : decode cX11_span 19 = .ok (.ireturn, 1) := by decide +kernel
theorem dX11_span_20 : decode cX11_span 20 = .ok (.aload_n 0, 1) := by decide +kernel
theorem dX11_span_21 : decode cX11_span 21 = .ok (.iload_n 1, 1) := by decide +kernel
theorem dX11_span_22 : decode cX11_span 22 = .ok (.invokevirtual 147, 3) := by decide +kernel
theorem dX11_span_25 : decode cX11_span 25 = .ok (.aload_n 0, 1) := by decide +kernel
theorem dX11_span_26 : decode cX11_span 26 = .ok (.iconst 0, 1) := by decide +kernel
theorem dX11_span_27 : decode cX11_span 27 = .ok (.putfield 315, 3) := by decide +kernel
theorem dX11_span_30 : decode cX11_span 30 = .ok (.aload_n 0, 1) := by decide +kernel
theorem dX11_span_31 : decode cX11_span 31 = .ok (.iload_n 2, 1) := by decide +kernel
theorem dX11_span_32 : decode cX11_span 32 = .ok (.invokevirtual 318, 3) := by decide +kernel
theorem dX11_span_35 : decode cX11_span 35 = .ok (.aload_n 0, 1) := by decide +kernel
theorem dX11_span_36 : decode cX11_span 36 = .ok (.iload_n 3, 1) := by decide +kernel
theorem dX11_span_37 : decode cX11_span 37 = .ok (.invokevirtual 318, 3) := by decide +kernel
theorem dX11_span_40 : decode cX11_span 40 = .ok (.iconst (-1), 1) := by decide +kernel
theorem dX11_span_41 : decode cX11_span 41 = .ok (.istore 4, 2) := by decide +kernel
theorem dX11_span_43 : decode cX11_span 43 = .ok (.iload 4, 2) := by decide +kernel
theorem dX11_span_45 : decode cX11_span 45 = .ok (.aload_n 0, 1) := by decide +kernel
theorem dX11_span_46 : decode cX11_span 46 = .ok (.getfield 315, 3) := by decide +kernel
theorem dX11_span_49 : decode cX11_span 49 = .ok (.if_icmp .eq 66, 3) := by decide +kernel
theorem dX11_span_52 : decode cX11_span 52 = .ok (.aload_n 0, 1) := by decide +kernel
theorem dX11_span_53 : decode cX11_span 53 = .ok (.getfield 315, 3) := by decide +kernel
theorem dX11_span_56 : decode cX11_span 56 = .ok (.istore 4, 2) := by decide +kernel
theorem dX11_span_58 : decode cX11_span 58 = .ok (.iconst 0, 1) := by decide +kernel
theorem dX11_span_59 : decode cX11_span 59 = .ok (.istore 5, 2) := by decide +kernel
theorem dX11_span_61 : decode cX11_span 61 = .ok (.iload 5, 2) := by decide +kernel
theorem dX11_span_63 : decode cX11_span 63 = .ok (.iload 4, 2) := by decide +kernel
theorem dX11_span_65 : decode cX11_span 65 = .ok (.if_icmp .ge 47, 3) := by decide +kernel
theorem dX11_span_68 : decode cX11_span 68 = .ok (.iconst 0, 1) := by decide +kernel
theorem dX11_span_69 : decode cX11_span 69 = .ok (.istore 6, 2) := by decide +kernel
theorem dX11_span_71 : decode cX11_span 71 = .ok (.iload 6, 2) := by decide +kernel
theorem dX11_span_73 : decode cX11_span 73 = .ok (.iload 4, 2) := by decide +kernel
theorem dX11_span_75 : decode cX11_span 75 = .ok (.if_icmp .ge 31, 3) := by decide +kernel
theorem dX11_span_78 : decode cX11_span 78 = .ok (.aload_n 0, 1) := by decide +kernel
theorem dX11_span_79 : decode cX11_span 79 = .ok (.aload_n 0, 1) := by decide +kernel
theorem dX11_span_80 : decode cX11_span 80 = .ok (.aload_n 0, 1) := by decide +kernel
theorem dX11_span_81 : decode cX11_span 81 = .ok (.getfield 62, 3) := by decide +kernel
theorem dX11_span_84 : decode cX11_span 84 = .ok (.iload 5, 2) := by decide +kernel
theorem dX11_span_86 : decode cX11_span 86 = .ok (.iaload, 1) := by decide +kernel
theorem dX11_span_87 : decode cX11_span 87 = .ok (.aload_n 0, 1) := by decide +kernel
theorem dX11_span_88 : decode cX11_span 88 = .ok (.getfield 62, 3) := by decide +kernel
theorem dX11_span_91 : decode cX11_span 91 = .ok (.iload 6, 2) := by decide +kernel
theorem dX11_span_93 : decode cX11_span 93 = .ok (.iaload, 1) := by decide +kernel
theorem dX11_span_94 : decode cX11_span 94 = .ok (.invokevirtual 266, 3) := by decide +kernel
theorem dX11_span_97 : decode cX11_span 97 = .ok (.invokevirtual 318, 3) := by decide +kernel
theorem dX11_span_100 : decode cX11_span 100 = .ok (.iinc 6 1, 3) := by decide +kernel
theorem dX11_span_103 : decode cX11_span 103 = .ok (.goto (-32), 3) := by decide +kernel
theorem dX11_span_106 : decode cX11_span 106 = .ok (.iinc 5 1, 3) := by decide +kernel
theorem dX11_span_109 : decode cX11_span 109 = .ok (.goto (-48), 3) := by decide +kernel
theorem dX11_span_112 : decode cX11_span 112 = .ok (.goto (-69), 3) := by decide +kernel
theorem dX11_span_115 : decode cX11_span 115 = .ok (.aload_n 0, 1) := by decide +kernel
theorem dX11_span_116 : decode cX11_span 116 = .ok (.getfield 106, 3) := by decide +kernel
theorem dX11_span_119 : decode cX11_span 119 = .ok (.aload_n 0, 1) := by decide +kernel
theorem dX11_span_120 : decode cX11_span 120 = .ok (.getfield 315, 3) := by decide +kernel
theorem dX11_span_123 : decode cX11_span 123 = .ok (.invokestatic 102, 3) := by decide +kernel
theorem dX11_span_126 : decode cX11_span 126 = .ok (.ireturn, 1) := by decide +kernel
theorem dX11_powers_0 : decode cX11_powers 0 = .ok (.aload_n 0, 1) := by decide +kernel
theorem dX11_powers_1 : decode cX11_powers 1 = .ok (.iload_n 1, 1) := by decide +kernel
theorem dX11_powers_2 : decode cX11_powers 2 = .ok (.iload_n 2, 1) := by decide +kernel
theorem dX11_powers_3 : decode cX11_powers 3 = .ok (.invokevirtual 312, 3) := by decide +kernel
theorem dX11_powers_6 : decode cX11_powers 6 = .ok (.ifCond .ne 5, 3) := by decide +kernel
theorem dX11_powers_9 : decode cX11_powers 9 = .ok (.iconst (-1), 1) := by decide +kernel
theorem dX11_powers_10 : decode cX11_powers 10 = .ok (.ireturn, 1) := by decide +kernel
theorem dX11_powers_11 : decode cX11_powers 11 = .ok (.aload_n 0, 1) := by decide +kernel
theorem dX11_powers_12 : decode cX11_powers 12 = .ok (.iload_n 1, 1) := by decide +kernel
theorem dX11_powers_13 : decode cX11_powers 13 = .ok (.invokevirtual 147, 3) := by decide +kernel
theorem dX11_powers_16 : decode cX11_powers 16 = .ok (.iconst 0, 1) := by decide +kernel
theorem dX11_powers_17 : decode cX11_powers 17 = .ok (.istore_n 3, 1) := by decide +kernel
theorem dX11_powers_18 : decode cX11_powers 18 = .ok (.iload_n 3, 1) := by decide +kernel
theorem dX11_powers_19 : decode cX11_powers 19 = .ok (.aload_n 0, 1) := by decide +kernel
theorem dX11_powers_20 : decode cX11_powers 20 = .ok (.getfield 112, 3) := by decide +kernel
theorem dX11_powers_23 : decode cX11_powers 23 = .ok (.if_icmp .ge 16, 3) := by decide +kernel
theorem dX11_powers_26 : decode cX11_powers 26 = .ok (.aload_n 0, 1) := by decide +kernel
theorem dX11_powers_27 : decode cX11_powers 27 = .ok (.getfield 59, 3) := by decide +kernel
theorem dX11_powers_30 : decode cX11_powers 30 = .ok (.iload_n 3, 1) := by decide +kernel
theorem dX11_powers_31 : decode cX11_powers 31 = .ok (.iconst 0, 1) := by decide +kernel
theorem dX11_powers_32 : decode cX11_powers 32 = .ok (.bastore, 1) := by decide +kernel
theorem dX11_powers_33 : decode cX11_powers 33 = .ok (.iinc 3 1, 3) := by decide +kernel
theorem dX11_powers_36 : decode cX11_powers 36 = .ok (.goto (-18), 3) := by decide +kernel
theorem dX11_powers_39 : decode cX11_powers 39 = .ok (.iload_n 2, 1) := by decide +kernel
theorem dX11_powers_40 : decode cX11_powers 40 = .ok (.istore_n 3, 1) := by decide +kernel
theorem dX11_powers_41 : decode cX11_powers 41 = .ok (.iconst 0, 1) := by decide +kernel
theorem dX11_powers_42 : decode cX11_powers 42 = .ok (.istore 4, 2) := by decide +kernel
theorem dX11_powers_44 : decode cX11_powers 44 = .ok (.aload_n 0, 1) := by decide +kernel
theorem dX11_powers_45 : decode cX11_powers 45 = .ok (.getfield 59, 3) := by decide +kernel
theorem dX11_powers_48 : decode cX11_powers 48 = .ok (.iload_n 3, 1) := by decide +kernel
theorem dX11_powers_49 : decode cX11_powers 49 = .ok (.baload, 1) := by decide +kernel
theorem dX11_powers_50 : decode cX11_powers 50 = .ok (.ifCond .ne 23, 3) := by decide +kernel
theorem dX11_powers_53 : decode cX11_powers 53 = .ok (.aload_n 0, 1) := by decide +kernel
theorem dX11_powers_54 : decode cX11_powers 54 = .ok (.getfield 59, 3) := by decide +kernel
theorem dX11_powers_57 : decode cX11_powers 57 = .ok (.iload_n 3, 1) := by decide +kernel
theorem dX11_powers_58 : decode cX11_powers 58 = .ok (.iconst 1, 1) := by decide +kernel
theorem dX11_powers_59 : decode cX11_powers 59 = .ok (.bastore, 1) := by decide +kernel
theorem dX11_powers_60 : decode cX11_powers 60 = .ok (.iinc 4 1, 3) := by decide +kernel
theorem dX11_powers_63 : decode cX11_powers 63 = .ok (.aload_n 0, 1) := by decide +kernel
theorem dX11_powers_64 : decode cX11_powers 64 = .ok (.iload_n 3, 1) := by decide +kernel
theorem dX11_powers_65 : decode cX11_powers 65 = .ok (.iload_n 2, 1) := by decide +kernel
theorem dX11_powers_66 : decode cX11_powers 66 = .ok (.invokevirtual 266, 3) := by decide +kernel
theorem dX11_powers_69 : decode cX11_powers 69 = .ok (.istore_n 3, 1) := by decide +kernel
theorem dX11_powers_70 : decode cX11_powers 70 = .ok (.goto (-26), 3) := by decide +kernel
theorem dX11_powers_73 : decode cX11_powers 73 = .ok (.iload 4, 2) := by decide +kernel
theorem dX11_powers_75 : decode cX11_powers 75 = .ok (.ireturn, 1) := by decide +kernel
theorem dX11_unital_0 : decode cX11_unital 0 = .ok (.aload_n 0, 1) := by decide +kernel
theorem dX11_unital_1 : decode cX11_unital 1 = .ok (.iload_n 1, 1) := by decide +kernel
theorem dX11_unital_2 : decode cX11_unital 2 = .ok (.iload_n 3, 1) := by decide +kernel
theorem dX11_unital_3 : decode cX11_unital 3 = .ok (.invokevirtual 312, 3) := by decide +kernel
theorem dX11_unital_6 : decode cX11_unital 6 = .ok (.ifCond .eq 14, 3) := by decide +kernel
theorem dX11_unital_9 : decode cX11_unital 9 = .ok (.iload_n 2, 1) := by decide +kernel
theorem dX11_unital_10 : decode cX11_unital 10 = .ok (.invokestatic 143, 3) := by decide +kernel
theorem dX11_unital_13 : decode cX11_unital 13 = .ok (.ifCond .eq 7, 3) := by decide +kernel
theorem dX11_unital_16 : decode cX11_unital 16 = .ok (.iload_n 3, 1) := by decide +kernel
theorem dX11_unital_17 : decode cX11_unital 17 = .ok (.ifCond .ne 5, 3) := by decide +kernel
theorem dX11_unital_20 : decode cX11_unital 20 = .ok (.iconst (-1), 1) := by decide +kernel
theorem dX11_unital_21 : decode cX11_unital 21 = .ok (.ireturn, 1) := by decide +kernel
theorem dX11_unital_22 : decode cX11_unital 22 = .ok (.aload_n 0, 1) := by decide +kernel
theorem dX11_unital_23 : decode cX11_unital 23 = .ok (.iload_n 1, 1) := by decide +kernel
theorem dX11_unital_24 : decode cX11_unital 24 = .ok (.invokevirtual 147, 3) := by decide +kernel
theorem dX11_unital_27 : decode cX11_unital 27 = .ok (.aload_n 0, 1) := by decide +kernel
theorem dX11_unital_28 : decode cX11_unital 28 = .ok (.invokevirtual 275, 3) := by decide +kernel
theorem dX11_unital_31 : decode cX11_unital 31 = .ok (.iconst (-1), 1) := by decide +kernel
theorem dX11_unital_32 : decode cX11_unital 32 = .ok (.if_icmp .eq 5, 3) := by decide +kernel
theorem dX11_unital_35 : decode cX11_unital 35 = .ok (.iconst (-1), 1) := by decide +kernel
theorem dX11_unital_36 : decode cX11_unital 36 = .ok (.ireturn, 1) := by decide +kernel
theorem dX11_unital_37 : decode cX11_unital 37 = .ok (.iconst 0, 1) := by decide +kernel
theorem dX11_unital_38 : decode cX11_unital 38 = .ok (.istore 4, 2) := by decide +kernel
theorem dX11_unital_40 : decode cX11_unital 40 = .ok (.iload 4, 2) := by decide +kernel
theorem dX11_unital_42 : decode cX11_unital 42 = .ok (.aload_n 0, 1) := by decide +kernel
theorem dX11_unital_43 : decode cX11_unital 43 = .ok (.getfield 109, 3) := by decide +kernel
theorem dX11_unital_46 : decode cX11_unital 46 = .ok (.if_icmp .ge 77, 3) := by decide +kernel
theorem dX11_unital_49 : decode cX11_unital 49 = .ok (.iconst 0, 1) := by decide +kernel
theorem dX11_unital_50 : decode cX11_unital 50 = .ok (.istore 5, 2) := by decide +kernel
theorem dX11_unital_52 : decode cX11_unital 52 = .ok (.iload 5, 2) := by decide +kernel
theorem dX11_unital_54 : decode cX11_unital 54 = .ok (.aload_n 0, 1) := by decide +kernel
theorem dX11_unital_55 : decode cX11_unital 55 = .ok (.getfield 112, 3) := by decide +kernel
theorem dX11_unital_58 : decode cX11_unital 58 = .ok (.if_icmp .ge 59, 3) := by decide +kernel
theorem dX11_unital_61 : decode cX11_unital 61 = .ok (.aload_n 0, 1) := by decide +kernel
theorem dX11_unital_62 : decode cX11_unital 62 = .ok (.iload 5, 2) := by decide +kernel
theorem dX11_unital_64 : decode cX11_unital 64 = .ok (.iload_n 3, 1) := by decide +kernel
theorem dX11_unital_65 : decode cX11_unital 65 = .ok (.invokevirtual 266, 3) := by decide +kernel
theorem dX11_unital_68 : decode cX11_unital 68 = .ok (.aload_n 0, 1) := by decide +kernel
theorem dX11_unital_69 : decode cX11_unital 69 = .ok (.iload 4, 2) := by decide +kernel
theorem dX11_unital_71 : decode cX11_unital 71 = .ok (.invokevirtual 223, 3) := by decide +kernel
theorem dX11_unital_74 : decode cX11_unital 74 = .ok (.if_icmp .ne 12, 3) := by decide +kernel
theorem dX11_unital_77 : decode cX11_unital 77 = .ok (.aload_n 0, 1) := by decide +kernel
theorem dX11_unital_78 : decode cX11_unital 78 = .ok (.getfield 68, 3) := by decide +kernel
theorem dX11_unital_81 : decode cX11_unital 81 = .ok (.iload 4, 2) := by decide +kernel
theorem dX11_unital_83 : decode cX11_unital 83 = .ok (.iload 5, 2) := by decide +kernel
theorem dX11_unital_85 : decode cX11_unital 85 = .ok (.iastore, 1) := by decide +kernel
theorem dX11_unital_86 : decode cX11_unital 86 = .ok (.aload_n 0, 1) := by decide +kernel
theorem dX11_unital_87 : decode cX11_unital 87 = .ok (.iload_n 3, 1) := by decide +kernel
theorem dX11_unital_88 : decode cX11_unital 88 = .ok (.iload 5, 2) := by decide +kernel
theorem dX11_unital_90 : decode cX11_unital 90 = .ok (.invokevirtual 266, 3) := by decide +kernel
theorem dX11_unital_93 : decode cX11_unital 93 = .ok (.aload_n 0, 1) := by decide +kernel
theorem dX11_unital_94 : decode cX11_unital 94 = .ok (.iload 4, 2) := by decide +kernel
theorem dX11_unital_96 : decode cX11_unital 96 = .ok (.invokevirtual 223, 3) := by decide +kernel
theorem dX11_unital_99 : decode cX11_unital 99 = .ok (.if_icmp .ne 12, 3) := by decide +kernel
theorem dX11_unital_102 : decode cX11_unital 102 = .ok (.aload_n 0, 1) := by decide +kernel
theorem dX11_unital_103 : decode cX11_unital 103 = .ok (.getfield 71, 3) := by decide +kernel
theorem dX11_unital_106 : decode cX11_unital 106 = .ok (.iload 4, 2) := by decide +kernel
theorem dX11_unital_108 : decode cX11_unital 108 = .ok (.iload 5, 2) := by decide +kernel
theorem dX11_unital_110 : decode cX11_unital 110 = .ok (.iastore, 1) := by decide +kernel
theorem dX11_unital_111 : decode cX11_unital 111 = .ok (.iinc 5 1, 3) := by decide +kernel
theorem dX11_unital_114 : decode cX11_unital 114 = .ok (.goto (-62), 3) := by decide +kernel
theorem dX11_unital_117 : decode cX11_unital 117 = .ok (.iinc 4 1, 3) := by decide +kernel
theorem dX11_unital_120 : decode cX11_unital 120 = .ok (.goto (-80), 3) := by decide +kernel
theorem dX11_unital_123 : decode cX11_unital 123 = .ok (.iconst 0, 1) := by decide +kernel
theorem dX11_unital_124 : decode cX11_unital 124 = .ok (.istore 4, 2) := by decide +kernel
theorem dX11_unital_126 : decode cX11_unital 126 = .ok (.iload 4, 2) := by decide +kernel
theorem dX11_unital_128 : decode cX11_unital 128 = .ok (.bipush 125, 2) := by decide +kernel
theorem dX11_unital_130 : decode cX11_unital 130 = .ok (.if_icmp .ge 17, 3) := by decide +kernel
theorem dX11_unital_133 : decode cX11_unital 133 = .ok (.aload_n 0, 1) := by decide +kernel
theorem dX11_unital_134 : decode cX11_unital 134 = .ok (.getfield 65, 3) := by decide +kernel
theorem dX11_unital_137 : decode cX11_unital 137 = .ok (.iload 4, 2) := by decide +kernel
theorem dX11_unital_139 : decode cX11_unital 139 = .ok (.iconst 0, 1) := by decide +kernel
theorem dX11_unital_140 : decode cX11_unital 140 = .ok (.iastore, 1) := by decide +kernel
theorem dX11_unital_141 : decode cX11_unital 141 = .ok (.iinc 4 1, 3) := by decide +kernel
theorem dX11_unital_144 : decode cX11_unital 144 = .ok (.goto (-18), 3) := by decide +kernel
theorem dX11_unital_147 : decode cX11_unital 147 = .ok (.iconst 0, 1) := by decide +kernel
theorem dX11_unital_148 : decode cX11_unital 148 = .ok (.istore 4, 2) := by decide +kernel
theorem dX11_unital_150 : decode cX11_unital 150 = .ok (.iload 4, 2) := by decide +kernel
theorem dX11_unital_152 : decode cX11_unital 152 = .ok (.aload_n 0, 1) := by decide +kernel
theorem dX11_unital_153 : decode cX11_unital 153 = .ok (.getfield 109, 3) := by decide +kernel
theorem dX11_unital_156 : decode cX11_unital 156 = .ok (.if_icmp .ge 96, 3) := by decide +kernel
theorem dX11_unital_159 : decode cX11_unital 159 = .ok (.iconst 0, 1) := by decide +kernel
theorem dX11_unital_160 : decode cX11_unital 160 = .ok (.istore 5, 2) := by decide +kernel
theorem dX11_unital_162 : decode cX11_unital 162 = .ok (.iload 5, 2) := by decide +kernel
theorem dX11_unital_164 : decode cX11_unital 164 = .ok (.aload_n 0, 1) := by decide +kernel
theorem dX11_unital_165 : decode cX11_unital 165 = .ok (.getfield 109, 3) := by decide +kernel
theorem dX11_unital_168 : decode cX11_unital 168 = .ok (.if_icmp .ge 78, 3) := by decide +kernel
theorem dX11_unital_171 : decode cX11_unital 171 = .ok (.aload_n 0, 1) := by decide +kernel
theorem dX11_unital_172 : decode cX11_unital 172 = .ok (.aload_n 0, 1) := by decide +kernel
theorem dX11_unital_173 : decode cX11_unital 173 = .ok (.aload_n 0, 1) := by decide +kernel
theorem dX11_unital_174 : decode cX11_unital 174 = .ok (.getfield 68, 3) := by decide +kernel
theorem dX11_unital_177 : decode cX11_unital 177 = .ok (.iload 4, 2) := by decide +kernel
theorem dX11_unital_179 : decode cX11_unital 179 = .ok (.iaload, 1) := by decide +kernel
theorem dX11_unital_180 : decode cX11_unital 180 = .ok (.aload_n 0, 1) := by decide +kernel
theorem dX11_unital_181 : decode cX11_unital 181 = .ok (.getfield 71, 3) := by decide +kernel
theorem dX11_unital_184 : decode cX11_unital 184 = .ok (.iload 5, 2) := by decide +kernel
theorem dX11_unital_186 : decode cX11_unital 186 = .ok (.iaload, 1) := by decide +kernel
theorem dX11_unital_187 : decode cX11_unital 187 = .ok (.invokevirtual 266, 3) := by decide +kernel
theorem dX11_unital_190 : decode cX11_unital 190 = .ok (.aload_n 0, 1) := by decide +kernel
theorem dX11_unital_191 : decode cX11_unital 191 = .ok (.getfield 25, 3) := by decide +kernel
theorem dX11_unital_194 : decode cX11_unital 194 = .ok (.invokevirtual 115, 3) := by decide +kernel
theorem dX11_unital_197 : decode cX11_unital 197 = .ok (.iconst 0, 1) := by decide +kernel
theorem dX11_unital_198 : decode cX11_unital 198 = .ok (.istore 6, 2) := by decide +kernel
theorem dX11_unital_200 : decode cX11_unital 200 = .ok (.iload 6, 2) := by decide +kernel
theorem dX11_unital_202 : decode cX11_unital 202 = .ok (.aload_n 0, 1) := by decide +kernel
theorem dX11_unital_203 : decode cX11_unital 203 = .ok (.getfield 109, 3) := by decide +kernel
theorem dX11_unital_206 : decode cX11_unital 206 = .ok (.if_icmp .ge 34, 3) := by decide +kernel
theorem dX11_unital_209 : decode cX11_unital 209 = .ok (.aload_n 0, 1) := by decide +kernel
theorem dX11_unital_210 : decode cX11_unital 210 = .ok (.getfield 65, 3) := by decide +kernel
theorem dX11_unital_213 : decode cX11_unital 213 = .ok (.bipush 25, 2) := by decide +kernel
theorem dX11_unital_215 : decode cX11_unital 215 = .ok (.iload 4, 2) := by decide +kernel
theorem dX11_unital_217 : decode cX11_unital 217 = .ok (.imul, 1) := by decide +kernel
theorem dX11_unital_218 : decode cX11_unital 218 = .ok (.iconst 5, 1) := by decide +kernel
theorem dX11_unital_219 : decode cX11_unital 219 = .ok (.iload 5, 2) := by decide +kernel
theorem dX11_unital_221 : decode cX11_unital 221 = .ok (.imul, 1) := by decide +kernel
theorem dX11_unital_222 : decode cX11_unital 222 = .ok (.iadd, 1) := by decide +kernel
theorem dX11_unital_223 : decode cX11_unital 223 = .ok (.iload 6, 2) := by decide +kernel
theorem dX11_unital_225 : decode cX11_unital 225 = .ok (.iadd, 1) := by decide +kernel
theorem dX11_unital_226 : decode cX11_unital 226 = .ok (.aload_n 0, 1) := by decide +kernel
theorem dX11_unital_227 : decode cX11_unital 227 = .ok (.getfield 25, 3) := by decide +kernel
theorem dX11_unital_230 : decode cX11_unital 230 = .ok (.iload 6, 2) := by decide +kernel
theorem dX11_unital_232 : decode cX11_unital 232 = .ok (.iaload, 1) := by decide +kernel
theorem dX11_unital_233 : decode cX11_unital 233 = .ok (.iastore, 1) := by decide +kernel
theorem dX11_unital_234 : decode cX11_unital 234 = .ok (.iinc 6 1, 3) := by decide +kernel
theorem dX11_unital_237 : decode cX11_unital 237 = .ok (.goto (-37), 3) := by decide +kernel
theorem dX11_unital_240 : decode cX11_unital 240 = .ok (.iinc 5 1, 3) := by decide +kernel
theorem dX11_unital_243 : decode cX11_unital 243 = .ok (.goto (-81), 3) := by decide +kernel
theorem dX11_unital_246 : decode cX11_unital 246 = .ok (.iinc 4 1, 3) := by decide +kernel
theorem dX11_unital_249 : decode cX11_unital 249 = .ok (.goto (-99), 3) := by decide +kernel
theorem dX11_unital_252 : decode cX11_unital 252 = .ok (.aload_n 0, 1) := by decide +kernel
theorem dX11_unital_253 : decode cX11_unital 253 = .ok (.iload_n 3, 1) := by decide +kernel
theorem dX11_unital_254 : decode cX11_unital 254 = .ok (.iload_n 3, 1) := by decide +kernel
theorem dX11_unital_255 : decode cX11_unital 255 = .ok (.invokevirtual 266, 3) := by decide +kernel
theorem dX11_unital_258 : decode cX11_unital 258 = .ok (.istore 4, 2) := by decide +kernel
theorem dX11_unital_260 : decode cX11_unital 260 = .ok (.aload_n 0, 1) := by decide +kernel
theorem dX11_unital_261 : decode cX11_unital 261 = .ok (.iload_n 2, 1) := by decide +kernel
theorem dX11_unital_262 : decode cX11_unital 262 = .ok (.aload_n 0, 1) := by decide +kernel
theorem dX11_unital_263 : decode cX11_unital 263 = .ok (.getfield 65, 3) := by decide +kernel
theorem dX11_unital_266 : decode cX11_unital 266 = .ok (.invokevirtual 154, 3) := by decide +kernel
theorem dX11_unital_269 : decode cX11_unital 269 = .ok (.iload 4, 2) := by decide +kernel
theorem dX11_unital_271 : decode cX11_unital 271 = .ok (.ireturn, 1) := by decide +kernel
theorem dX11_map_0 : decode cX11_map 0 = .ok (.iload_n 1, 1) := by decide +kernel
theorem dX11_map_1 : decode cX11_map 1 = .ok (.iconst 0, 1) := by decide +kernel
theorem dX11_map_2 : decode cX11_map 2 = .ok (.iconst 2, 1) := by decide +kernel
theorem dX11_map_3 : decode cX11_map 3 = .ok (.invokestatic 98, 3) := by decide +kernel
theorem dX11_map_6 : decode cX11_map 6 = .ok (.ifCond .eq 23, 3) := by decide +kernel
theorem dX11_map_9 : decode cX11_map 9 = .ok (.iload_n 2, 1) := by decide +kernel
theorem dX11_map_10 : decode cX11_map 10 = .ok (.iconst 0, 1) := by decide +kernel
theorem dX11_map_11 : decode cX11_map 11 = .ok (.iconst 4, 1) := by decide +kernel
theorem dX11_map_12 : decode cX11_map 12 = .ok (.invokestatic 98, 3) := by decide +kernel
theorem dX11_map_15 : decode cX11_map 15 = .ok (.ifCond .eq 14, 3) := by decide +kernel
theorem dX11_map_18 : decode cX11_map 18 = .ok (.iload_n 3, 1) := by decide +kernel
theorem dX11_map_19 : decode cX11_map 19 = .ok (.iconst 0, 1) := by decide +kernel
theorem dX11_map_20 : decode cX11_map 20 = .ok (.sipush 242, 3) := by decide +kernel
theorem dX11_map_23 : decode cX11_map 23 = .ok (.invokestatic 98, 3) := by decide +kernel
theorem dX11_map_26 : decode cX11_map 26 = .ok (.ifCond .ne 5, 3) := by decide +kernel
theorem dX11_map_29 : decode cX11_map 29 = .ok (.iconst 0, 1) := by decide +kernel
theorem dX11_map_30 : decode cX11_map 30 = .ok (.ireturn, 1) := by decide +kernel
theorem dX11_map_31 : decode cX11_map 31 = .ok (.aload_n 0, 1) := by decide +kernel
theorem dX11_map_32 : decode cX11_map 32 = .ok (.getfield 7, 3) := by decide +kernel
theorem dX11_map_35 : decode cX11_map 35 = .ok (.sipush 800, 3) := by decide +kernel
theorem dX11_map_38 : decode cX11_map 38 = .ok (.iconst 5, 1) := by decide +kernel
theorem dX11_map_39 : decode cX11_map 39 = .ok (.iload_n 1, 1) := by decide +kernel
theorem dX11_map_40 : decode cX11_map 40 = .ok (.imul, 1) := by decide +kernel
theorem dX11_map_41 : decode cX11_map 41 = .ok (.iadd, 1) := by decide +kernel
theorem dX11_map_42 : decode cX11_map 42 = .ok (.iload_n 2, 1) := by decide +kernel
theorem dX11_map_43 : decode cX11_map 43 = .ok (.iadd, 1) := by decide +kernel
theorem dX11_map_44 : decode cX11_map 44 = .ok (.iload_n 3, 1) := by decide +kernel
theorem dX11_map_45 : decode cX11_map 45 = .ok (.iastore, 1) := by decide +kernel
theorem dX11_map_46 : decode cX11_map 46 = .ok (.iconst 1, 1) := by decide +kernel
theorem dX11_map_47 : decode cX11_map 47 = .ok (.ireturn, 1) := by decide +kernel
theorem dX11_imageOf_0 : decode cX11_imageOf 0 = .ok (.aload_n 0, 1) := by decide +kernel
theorem dX11_imageOf_1 : decode cX11_imageOf 1 = .ok (.getfield 7, 3) := by decide +kernel
theorem dX11_imageOf_4 : decode cX11_imageOf 4 = .ok (.sipush 800, 3) := by decide +kernel
theorem dX11_imageOf_7 : decode cX11_imageOf 7 = .ok (.iconst 5, 1) := by decide +kernel
theorem dX11_imageOf_8 : decode cX11_imageOf 8 = .ok (.iload_n 1, 1) := by decide +kernel
theorem dX11_imageOf_9 : decode cX11_imageOf 9 = .ok (.imul, 1) := by decide +kernel
theorem dX11_imageOf_10 : decode cX11_imageOf 10 = .ok (.iadd, 1) := by decide +kernel
theorem dX11_imageOf_11 : decode cX11_imageOf 11 = .ok (.iload_n 2, 1) := by decide +kernel
theorem dX11_imageOf_12 : decode cX11_imageOf 12 = .ok (.iadd, 1) := by decide +kernel
theorem dX11_imageOf_13 : decode cX11_imageOf 13 = .ok (.iaload, 1) := by decide +kernel
theorem dX11_imageOf_14 : decode cX11_imageOf 14 = .ok (.iconst (-1), 1) := by decide +kernel
theorem dX11_imageOf_15 : decode cX11_imageOf 15 = .ok (.if_icmp .ne 11, 3) := by decide +kernel
theorem dX11_imageOf_18 : decode cX11_imageOf 18 = .ok (.aload_n 0, 1) := by decide +kernel
theorem dX11_imageOf_19 : decode cX11_imageOf 19 = .ok (.iload_n 2, 1) := by decide +kernel
theorem dX11_imageOf_20 : decode cX11_imageOf 20 = .ok (.invokevirtual 223, 3) := by decide +kernel
theorem dX11_imageOf_23 : decode cX11_imageOf 23 = .ok (.goto 17, 3) := by decide +kernel
theorem dX11_imageOf_26 : decode cX11_imageOf 26 = .ok (.aload_n 0, 1) := by decide +kernel
theorem dX11_imageOf_27 : decode cX11_imageOf 27 = .ok (.getfield 7, 3) := by decide +kernel
theorem dX11_imageOf_30 : decode cX11_imageOf 30 = .ok (.sipush 800, 3) := by decide +kernel
theorem dX11_imageOf_33 : decode cX11_imageOf 33 = .ok (.iconst 5, 1) := by decide +kernel
theorem dX11_imageOf_34 : decode cX11_imageOf 34 = .ok (.iload_n 1, 1) := by decide +kernel
theorem dX11_imageOf_35 : decode cX11_imageOf 35 = .ok (.imul, 1) := by decide +kernel
theorem dX11_imageOf_36 : decode cX11_imageOf 36 = .ok (.iadd, 1) := by decide +kernel
theorem dX11_imageOf_37 : decode cX11_imageOf 37 = .ok (.iload_n 2, 1) := by decide +kernel
theorem dX11_imageOf_38 : decode cX11_imageOf 38 = .ok (.iadd, 1) := by decide +kernel
theorem dX11_imageOf_39 : decode cX11_imageOf 39 = .ok (.iaload, 1) := by decide +kernel
theorem dX11_imageOf_40 : decode cX11_imageOf 40 = .ok (.ireturn, 1) := by decide +kernel
theorem dX11_mapped_0 : decode cX11_mapped 0 = .ok (.iconst 0, 1) := by decide +kernel
theorem dX11_mapped_1 : decode cX11_mapped 1 = .ok (.istore_n 3, 1) := by decide +kernel
theorem dX11_mapped_2 : decode cX11_mapped 2 = .ok (.iload_n 1, 1) := by decide +kernel
theorem dX11_mapped_3 : decode cX11_mapped 3 = .ok (.istore 4, 2) := by decide +kernel
theorem dX11_mapped_5 : decode cX11_mapped 5 = .ok (.iconst 0, 1) := by decide +kernel
theorem dX11_mapped_6 : decode cX11_mapped 6 = .ok (.istore 5, 2) := by decide +kernel
theorem dX11_mapped_8 : decode cX11_mapped 8 = .ok (.iload 5, 2) := by decide +kernel
theorem dX11_mapped_10 : decode cX11_mapped 10 = .ok (.aload_n 0, 1) := by decide +kernel
theorem dX11_mapped_11 : decode cX11_mapped 11 = .ok (.getfield 109, 3) := by decide +kernel
theorem dX11_mapped_14 : decode cX11_mapped 14 = .ok (.if_icmp .ge 35, 3) := by decide +kernel
theorem dX11_mapped_17 : decode cX11_mapped 17 = .ok (.aload_n 0, 1) := by decide +kernel
theorem dX11_mapped_18 : decode cX11_mapped 18 = .ok (.iload_n 3, 1) := by decide +kernel
theorem dX11_mapped_19 : decode cX11_mapped 19 = .ok (.iload 4, 2) := by decide +kernel
theorem dX11_mapped_21 : decode cX11_mapped 21 = .ok (.aload_n 0, 1) := by decide +kernel
theorem dX11_mapped_22 : decode cX11_mapped 22 = .ok (.getfield 106, 3) := by decide +kernel
theorem dX11_mapped_25 : decode cX11_mapped 25 = .ok (.irem, 1) := by decide +kernel
theorem dX11_mapped_26 : decode cX11_mapped 26 = .ok (.aload_n 2, 1) := by decide +kernel
theorem dX11_mapped_27 : decode cX11_mapped 27 = .ok (.iload 5, 2) := by decide +kernel
theorem dX11_mapped_29 : decode cX11_mapped 29 = .ok (.iaload, 1) := by decide +kernel
theorem dX11_mapped_30 : decode cX11_mapped 30 = .ok (.invokevirtual 127, 3) := by decide +kernel
theorem dX11_mapped_33 : decode cX11_mapped 33 = .ok (.istore_n 3, 1) := by decide +kernel
theorem dX11_mapped_34 : decode cX11_mapped 34 = .ok (.iload 4, 2) := by decide +kernel
theorem dX11_mapped_36 : decode cX11_mapped 36 = .ok (.aload_n 0, 1) := by decide +kernel
theorem dX11_mapped_37 : decode cX11_mapped 37 = .ok (.getfield 106, 3) := by decide +kernel
theorem dX11_mapped_40 : decode cX11_mapped 40 = .ok (.idiv, 1) := by decide +kernel
theorem dX11_mapped_41 : decode cX11_mapped 41 = .ok (.istore 4, 2) := by decide +kernel
theorem dX11_mapped_43 : decode cX11_mapped 43 = .ok (.iinc 5 1, 3) := by decide +kernel
theorem dX11_mapped_46 : decode cX11_mapped 46 = .ok (.goto (-38), 3) := by decide +kernel
theorem dX11_mapped_49 : decode cX11_mapped 49 = .ok (.iload_n 3, 1) := by decide +kernel
theorem dX11_mapped_50 : decode cX11_mapped 50 = .ok (.ireturn, 1) := by decide +kernel
theorem dX11_isOneToOne_0 : decode cX11_isOneToOne 0 = .ok (.iconst 0, 1) := by decide +kernel
theorem dX11_isOneToOne_1 : decode cX11_isOneToOne 1 = .ok (.istore_n 2, 1) := by decide +kernel
theorem dX11_isOneToOne_2 : decode cX11_isOneToOne 2 = .ok (.iload_n 2, 1) := by decide +kernel
theorem dX11_isOneToOne_3 : decode cX11_isOneToOne 3 = .ok (.aload_n 0, 1) := by decide +kernel
theorem dX11_isOneToOne_4 : decode cX11_isOneToOne 4 = .ok (.getfield 109, 3) := by decide +kernel
theorem dX11_isOneToOne_7 : decode cX11_isOneToOne 7 = .ok (.if_icmp .ge 50, 3) := by decide +kernel
theorem dX11_isOneToOne_10 : decode cX11_isOneToOne 10 = .ok (.aload_n 0, 1) := by decide +kernel
theorem dX11_isOneToOne_11 : decode cX11_isOneToOne 11 = .ok (.aload_n 1, 1) := by decide +kernel
theorem dX11_isOneToOne_12 : decode cX11_isOneToOne 12 = .ok (.iload_n 2, 1) := by decide +kernel
theorem dX11_isOneToOne_13 : decode cX11_isOneToOne 13 = .ok (.iaload, 1) := by decide +kernel
theorem dX11_isOneToOne_14 : decode cX11_isOneToOne 14 = .ok (.aload_n 0, 1) := by decide +kernel
theorem dX11_isOneToOne_15 : decode cX11_isOneToOne 15 = .ok (.getfield 19, 3) := by decide +kernel
theorem dX11_isOneToOne_18 : decode cX11_isOneToOne 18 = .ok (.invokevirtual 115, 3) := by decide +kernel
theorem dX11_isOneToOne_21 : decode cX11_isOneToOne 21 = .ok (.iconst 0, 1) := by decide +kernel
theorem dX11_isOneToOne_22 : decode cX11_isOneToOne 22 = .ok (.istore_n 3, 1) := by decide +kernel
theorem dX11_isOneToOne_23 : decode cX11_isOneToOne 23 = .ok (.iload_n 3, 1) := by decide +kernel
theorem dX11_isOneToOne_24 : decode cX11_isOneToOne 24 = .ok (.aload_n 0, 1) := by decide +kernel
theorem dX11_isOneToOne_25 : decode cX11_isOneToOne 25 = .ok (.getfield 109, 3) := by decide +kernel
theorem dX11_isOneToOne_28 : decode cX11_isOneToOne 28 = .ok (.if_icmp .ge 23, 3) := by decide +kernel
theorem dX11_isOneToOne_31 : decode cX11_isOneToOne 31 = .ok (.aload_n 0, 1) := by decide +kernel
theorem dX11_isOneToOne_32 : decode cX11_isOneToOne 32 = .ok (.getfield 46, 3) := by decide +kernel
theorem dX11_isOneToOne_35 : decode cX11_isOneToOne 35 = .ok (.iload_n 2, 1) := by decide +kernel
theorem dX11_isOneToOne_36 : decode cX11_isOneToOne 36 = .ok (.aaload, 1) := by decide +kernel
theorem dX11_isOneToOne_37 : decode cX11_isOneToOne 37 = .ok (.iload_n 3, 1) := by decide +kernel
theorem dX11_isOneToOne_38 : decode cX11_isOneToOne 38 = .ok (.aload_n 0, 1) := by decide +kernel
theorem dX11_isOneToOne_39 : decode cX11_isOneToOne 39 = .ok (.getfield 19, 3) := by decide +kernel
theorem dX11_isOneToOne_42 : decode cX11_isOneToOne 42 = .ok (.iload_n 3, 1) := by decide +kernel
theorem dX11_isOneToOne_43 : decode cX11_isOneToOne 43 = .ok (.iaload, 1) := by decide +kernel
theorem dX11_isOneToOne_44 : decode cX11_isOneToOne 44 = .ok (.iastore, 1) := by decide +kernel
theorem dX11_isOneToOne_45 : decode cX11_isOneToOne 45 = .ok (.iinc 3 1, 3) := by decide +kernel
theorem dX11_isOneToOne_48 : decode cX11_isOneToOne 48 = .ok (.goto (-25), 3) := by decide +kernel
theorem dX11_isOneToOne_51 : decode cX11_isOneToOne 51 = .ok (.iinc 2 1, 3) := by decide +kernel
theorem dX11_isOneToOne_54 : decode cX11_isOneToOne 54 = .ok (.goto (-52), 3) := by decide +kernel
theorem dX11_isOneToOne_57 : decode cX11_isOneToOne 57 = .ok (.aload_n 0, 1) := by decide +kernel
theorem dX11_isOneToOne_58 : decode cX11_isOneToOne 58 = .ok (.invokevirtual 260, 3) := by decide +kernel
theorem dX11_isOneToOne_61 : decode cX11_isOneToOne 61 = .ok (.aload_n 0, 1) := by decide +kernel
theorem dX11_isOneToOne_62 : decode cX11_isOneToOne 62 = .ok (.getfield 109, 3) := by decide +kernel
theorem dX11_isOneToOne_65 : decode cX11_isOneToOne 65 = .ok (.if_icmp .ne 7, 3) := by decide +kernel
theorem dX11_isOneToOne_68 : decode cX11_isOneToOne 68 = .ok (.iconst 1, 1) := by decide +kernel
theorem dX11_isOneToOne_69 : decode cX11_isOneToOne 69 = .ok (.goto 4, 3) := by decide +kernel
theorem dX11_isOneToOne_72 : decode cX11_isOneToOne 72 = .ok (.iconst 0, 1) := by decide +kernel
theorem dX11_isOneToOne_73 : decode cX11_isOneToOne 73 = .ok (.ireturn, 1) := by decide +kernel
theorem dX11_laysOther_0 : decode cX11_laysOther 0 = .ok (.iconst 0, 1) := by decide +kernel
theorem dX11_laysOther_1 : decode cX11_laysOther 1 = .ok (.istore_n 2, 1) := by decide +kernel
theorem dX11_laysOther_2 : decode cX11_laysOther 2 = .ok (.iload_n 2, 1) := by decide +kernel
theorem dX11_laysOther_3 : decode cX11_laysOther 3 = .ok (.bipush 125, 2) := by decide +kernel
theorem dX11_laysOther_5 : decode cX11_laysOther 5 = .ok (.if_icmp .ge 29, 3) := by decide +kernel
theorem dX11_laysOther_8 : decode cX11_laysOther 8 = .ok (.aload_n 0, 1) := by decide +kernel
theorem dX11_laysOther_9 : decode cX11_laysOther 9 = .ok (.getfield 83, 3) := by decide +kernel
theorem dX11_laysOther_12 : decode cX11_laysOther 12 = .ok (.iload_n 2, 1) := by decide +kernel
theorem dX11_laysOther_13 : decode cX11_laysOther 13 = .ok (.aload_n 0, 1) := by decide +kernel
theorem dX11_laysOther_14 : decode cX11_laysOther 14 = .ok (.getfield 7, 3) := by decide +kernel
theorem dX11_laysOther_17 : decode cX11_laysOther 17 = .ok (.sipush 130, 3) := by decide +kernel
theorem dX11_laysOther_20 : decode cX11_laysOther 20 = .ok (.iload_n 1, 1) := by decide +kernel
theorem dX11_laysOther_21 : decode cX11_laysOther 21 = .ok (.imul, 1) := by decide +kernel
theorem dX11_laysOther_22 : decode cX11_laysOther 22 = .ok (.iconst 2, 1) := by decide +kernel
theorem dX11_laysOther_23 : decode cX11_laysOther 23 = .ok (.iadd, 1) := by decide +kernel
theorem dX11_laysOther_24 : decode cX11_laysOther 24 = .ok (.iload_n 2, 1) := by decide +kernel
theorem dX11_laysOther_25 : decode cX11_laysOther 25 = .ok (.iadd, 1) := by decide +kernel
theorem dX11_laysOther_26 : decode cX11_laysOther 26 = .ok (.iaload, 1) := by decide +kernel
theorem dX11_laysOther_27 : decode cX11_laysOther 27 = .ok (.iastore, 1) := by decide +kernel
theorem dX11_laysOther_28 : decode cX11_laysOther 28 = .ok (.iinc 2 1, 3) := by decide +kernel
theorem dX11_laysOther_31 : decode cX11_laysOther 31 = .ok (.goto (-29), 3) := by decide +kernel
theorem dX11_laysOther_34 : decode cX11_laysOther 34 = .ok (.return_, 1) := by decide +kernel
theorem dX11_areOfOneSize_0 : decode cX11_areOfOneSize 0 = .ok (.iload_n 1, 1) := by decide +kernel
theorem dX11_areOfOneSize_1 : decode cX11_areOfOneSize 1 = .ok (.invokestatic 143, 3) := by decide +kernel
theorem dX11_areOfOneSize_4 : decode cX11_areOfOneSize 4 = .ok (.ifCond .eq 68, 3) := by decide +kernel
theorem dX11_areOfOneSize_7 : decode cX11_areOfOneSize 7 = .ok (.iload_n 2, 1) := by decide +kernel
theorem dX11_areOfOneSize_8 : decode cX11_areOfOneSize 8 = .ok (.invokestatic 143, 3) := by decide +kernel
theorem dX11_areOfOneSize_11 : decode cX11_areOfOneSize 11 = .ok (.ifCond .eq 61, 3) := by decide +kernel
theorem dX11_areOfOneSize_14 : decode cX11_areOfOneSize 14 = .ok (.aload_n 0, 1) := by decide +kernel
theorem dX11_areOfOneSize_15 : decode cX11_areOfOneSize 15 = .ok (.getfield 7, 3) := by decide +kernel
theorem dX11_areOfOneSize_18 : decode cX11_areOfOneSize 18 = .ok (.sipush 130, 3) := by decide +kernel
theorem dX11_areOfOneSize_21 : decode cX11_areOfOneSize 21 = .ok (.iload_n 1, 1) := by decide +kernel
theorem dX11_areOfOneSize_22 : decode cX11_areOfOneSize 22 = .ok (.imul, 1) := by decide +kernel
theorem dX11_areOfOneSize_23 : decode cX11_areOfOneSize 23 = .ok (.iconst 0, 1) := by decide +kernel
theorem dX11_areOfOneSize_24 : decode cX11_areOfOneSize 24 = .ok (.iadd, 1) := by decide +kernel
theorem dX11_areOfOneSize_25 : decode cX11_areOfOneSize 25 = .ok (.iaload, 1) := by decide +kernel
theorem dX11_areOfOneSize_26 : decode cX11_areOfOneSize 26 = .ok (.aload_n 0, 1) := by decide +kernel
theorem dX11_areOfOneSize_27 : decode cX11_areOfOneSize 27 = .ok (.getfield 7, 3) := by decide +kernel
theorem dX11_areOfOneSize_30 : decode cX11_areOfOneSize 30 = .ok (.sipush 130, 3) := by decide +kernel
theorem dX11_areOfOneSize_33 : decode cX11_areOfOneSize 33 = .ok (.iload_n 2, 1) := by decide +kernel
theorem dX11_areOfOneSize_34 : decode cX11_areOfOneSize 34 = .ok (.imul, 1) := by decide +kernel
theorem dX11_areOfOneSize_35 : decode cX11_areOfOneSize 35 = .ok (.iconst 0, 1) := by decide +kernel
theorem dX11_areOfOneSize_36 : decode cX11_areOfOneSize 36 = .ok (.iadd, 1) := by decide +kernel
theorem dX11_areOfOneSize_37 : decode cX11_areOfOneSize 37 = .ok (.iaload, 1) := by decide +kernel
theorem dX11_areOfOneSize_38 : decode cX11_areOfOneSize 38 = .ok (.if_icmp .ne 34, 3) := by decide +kernel
theorem dX11_areOfOneSize_41 : decode cX11_areOfOneSize 41 = .ok (.aload_n 0, 1) := by decide +kernel
theorem dX11_areOfOneSize_42 : decode cX11_areOfOneSize 42 = .ok (.getfield 7, 3) := by decide +kernel
theorem dX11_areOfOneSize_45 : decode cX11_areOfOneSize 45 = .ok (.sipush 130, 3) := by decide +kernel
theorem dX11_areOfOneSize_48 : decode cX11_areOfOneSize 48 = .ok (.iload_n 1, 1) := by decide +kernel
theorem dX11_areOfOneSize_49 : decode cX11_areOfOneSize 49 = .ok (.imul, 1) := by decide +kernel
theorem dX11_areOfOneSize_50 : decode cX11_areOfOneSize 50 = .ok (.iconst 1, 1) := by decide +kernel
theorem dX11_areOfOneSize_51 : decode cX11_areOfOneSize 51 = .ok (.iadd, 1) := by decide +kernel
theorem dX11_areOfOneSize_52 : decode cX11_areOfOneSize 52 = .ok (.iaload, 1) := by decide +kernel
theorem dX11_areOfOneSize_53 : decode cX11_areOfOneSize 53 = .ok (.aload_n 0, 1) := by decide +kernel
theorem dX11_areOfOneSize_54 : decode cX11_areOfOneSize 54 = .ok (.getfield 7, 3) := by decide +kernel
theorem dX11_areOfOneSize_57 : decode cX11_areOfOneSize 57 = .ok (.sipush 130, 3) := by decide +kernel
theorem dX11_areOfOneSize_60 : decode cX11_areOfOneSize 60 = .ok (.iload_n 2, 1) := by decide +kernel
theorem dX11_areOfOneSize_61 : decode cX11_areOfOneSize 61 = .ok (.imul, 1) := by decide +kernel
theorem dX11_areOfOneSize_62 : decode cX11_areOfOneSize 62 = .ok (.iconst 1, 1) := by decide +kernel
theorem dX11_areOfOneSize_63 : decode cX11_areOfOneSize 63 = .ok (.iadd, 1) := by decide +kernel
theorem dX11_areOfOneSize_64 : decode cX11_areOfOneSize 64 = .ok (.iaload, 1) := by decide +kernel
theorem dX11_areOfOneSize_65 : decode cX11_areOfOneSize 65 = .ok (.if_icmp .ne 7, 3) := by decide +kernel
theorem dX11_areOfOneSize_68 : decode cX11_areOfOneSize 68 = .ok (.iconst 1, 1) := by decide +kernel
theorem dX11_areOfOneSize_69 : decode cX11_areOfOneSize 69 = .ok (.goto 4, 3) := by decide +kernel
theorem dX11_areOfOneSize_72 : decode cX11_areOfOneSize 72 = .ok (.iconst 0, 1) := by decide +kernel
theorem dX11_areOfOneSize_73 : decode cX11_areOfOneSize 73 = .ok (.ireturn, 1) := by decide +kernel
theorem dX11_carry_0 : decode cX11_carry 0 = .ok (.aload_n 0, 1) := by decide +kernel
theorem dX11_carry_1 : decode cX11_carry 1 = .ok (.iload_n 1, 1) := by decide +kernel
theorem dX11_carry_2 : decode cX11_carry 2 = .ok (.iload_n 2, 1) := by decide +kernel
theorem dX11_carry_3 : decode cX11_carry 3 = .ok (.invokevirtual 321, 3) := by decide +kernel
theorem dX11_carry_6 : decode cX11_carry 6 = .ok (.ifCond .ne 6, 3) := by decide +kernel
theorem dX11_carry_9 : decode cX11_carry 9 = .ok (.bipush (-2), 2) := by decide +kernel
theorem dX11_carry_11 : decode cX11_carry 11 = .ok (.ireturn, 1) := by decide +kernel
theorem dX11_carry_12 : decode cX11_carry 12 = .ok (.aload_n 0, 1) := by decide +kernel
theorem dX11_carry_13 : decode cX11_carry 13 = .ok (.iload_n 1, 1) := by decide +kernel
theorem dX11_carry_14 : decode cX11_carry 14 = .ok (.invokevirtual 147, 3) := by decide +kernel
theorem dX11_carry_17 : decode cX11_carry 17 = .ok (.aload_n 0, 1) := by decide +kernel
theorem dX11_carry_18 : decode cX11_carry 18 = .ok (.iload_n 2, 1) := by decide +kernel
theorem dX11_carry_19 : decode cX11_carry 19 = .ok (.invokevirtual 324, 3) := by decide +kernel
theorem dX11_carry_22 : decode cX11_carry 22 = .ok (.iconst 0, 1) := by decide +kernel
theorem dX11_carry_23 : decode cX11_carry 23 = .ok (.istore_n 3, 1) := by decide +kernel
theorem dX11_carry_24 : decode cX11_carry 24 = .ok (.iload_n 3, 1) := by decide +kernel
theorem dX11_carry_25 : decode cX11_carry 25 = .ok (.aload_n 0, 1) := by decide +kernel
theorem dX11_carry_26 : decode cX11_carry 26 = .ok (.getfield 109, 3) := by decide +kernel
theorem dX11_carry_29 : decode cX11_carry 29 = .ok (.if_icmp .ge 87, 3) := by decide +kernel
theorem dX11_carry_32 : decode cX11_carry 32 = .ok (.aload_n 0, 1) := by decide +kernel
theorem dX11_carry_33 : decode cX11_carry 33 = .ok (.getfield 74, 3) := by decide +kernel
theorem dX11_carry_36 : decode cX11_carry 36 = .ok (.iload_n 3, 1) := by decide +kernel
theorem dX11_carry_37 : decode cX11_carry 37 = .ok (.aload_n 0, 1) := by decide +kernel
theorem dX11_carry_38 : decode cX11_carry 38 = .ok (.iconst 0, 1) := by decide +kernel
theorem dX11_carry_39 : decode cX11_carry 39 = .ok (.iload_n 3, 1) := by decide +kernel
theorem dX11_carry_40 : decode cX11_carry 40 = .ok (.invokevirtual 327, 3) := by decide +kernel
theorem dX11_carry_43 : decode cX11_carry 43 = .ok (.iastore, 1) := by decide +kernel
theorem dX11_carry_44 : decode cX11_carry 44 = .ok (.aload_n 0, 1) := by decide +kernel
theorem dX11_carry_45 : decode cX11_carry 45 = .ok (.getfield 77, 3) := by decide +kernel
theorem dX11_carry_48 : decode cX11_carry 48 = .ok (.iload_n 3, 1) := by decide +kernel
theorem dX11_carry_49 : decode cX11_carry 49 = .ok (.aload_n 0, 1) := by decide +kernel
theorem dX11_carry_50 : decode cX11_carry 50 = .ok (.iconst 1, 1) := by decide +kernel
theorem dX11_carry_51 : decode cX11_carry 51 = .ok (.iload_n 3, 1) := by decide +kernel
theorem dX11_carry_52 : decode cX11_carry 52 = .ok (.invokevirtual 327, 3) := by decide +kernel
theorem dX11_carry_55 : decode cX11_carry 55 = .ok (.iastore, 1) := by decide +kernel
theorem dX11_carry_56 : decode cX11_carry 56 = .ok (.aload_n 0, 1) := by decide +kernel
theorem dX11_carry_57 : decode cX11_carry 57 = .ok (.getfield 80, 3) := by decide +kernel
theorem dX11_carry_60 : decode cX11_carry 60 = .ok (.iload_n 3, 1) := by decide +kernel
theorem dX11_carry_61 : decode cX11_carry 61 = .ok (.aload_n 0, 1) := by decide +kernel
theorem dX11_carry_62 : decode cX11_carry 62 = .ok (.iconst 2, 1) := by decide +kernel
theorem dX11_carry_63 : decode cX11_carry 63 = .ok (.iload_n 3, 1) := by decide +kernel
theorem dX11_carry_64 : decode cX11_carry 64 = .ok (.invokevirtual 327, 3) := by decide +kernel
theorem dX11_carry_67 : decode cX11_carry 67 = .ok (.iastore, 1) := by decide +kernel
theorem dX11_carry_68 : decode cX11_carry 68 = .ok (.aload_n 0, 1) := by decide +kernel
theorem dX11_carry_69 : decode cX11_carry 69 = .ok (.getfield 74, 3) := by decide +kernel
theorem dX11_carry_72 : decode cX11_carry 72 = .ok (.iload_n 3, 1) := by decide +kernel
theorem dX11_carry_73 : decode cX11_carry 73 = .ok (.iaload, 1) := by decide +kernel
theorem dX11_carry_74 : decode cX11_carry 74 = .ok (.aload_n 0, 1) := by decide +kernel
theorem dX11_carry_75 : decode cX11_carry 75 = .ok (.getfield 112, 3) := by decide +kernel
theorem dX11_carry_78 : decode cX11_carry 78 = .ok (.if_icmp .ge 29, 3) := by decide +kernel
theorem dX11_carry_81 : decode cX11_carry 81 = .ok (.aload_n 0, 1) := by decide +kernel
theorem dX11_carry_82 : decode cX11_carry 82 = .ok (.getfield 77, 3) := by decide +kernel
theorem dX11_carry_85 : decode cX11_carry 85 = .ok (.iload_n 3, 1) := by decide +kernel
theorem dX11_carry_86 : decode cX11_carry 86 = .ok (.iaload, 1) := by decide +kernel
theorem dX11_carry_87 : decode cX11_carry 87 = .ok (.aload_n 0, 1) := by decide +kernel
theorem dX11_carry_88 : decode cX11_carry 88 = .ok (.getfield 112, 3) := by decide +kernel
theorem dX11_carry_91 : decode cX11_carry 91 = .ok (.if_icmp .ge 16, 3) := by decide +kernel
theorem dX11_carry_94 : decode cX11_carry 94 = .ok (.aload_n 0, 1) := by decide +kernel
theorem dX11_carry_95 : decode cX11_carry 95 = .ok (.getfield 80, 3) := by decide +kernel
theorem dX11_carry_98 : decode cX11_carry 98 = .ok (.iload_n 3, 1) := by decide +kernel
theorem dX11_carry_99 : decode cX11_carry 99 = .ok (.iaload, 1) := by decide +kernel
theorem dX11_carry_100 : decode cX11_carry 100 = .ok (.aload_n 0, 1) := by decide +kernel
theorem dX11_carry_101 : decode cX11_carry 101 = .ok (.getfield 112, 3) := by decide +kernel
theorem dX11_carry_104 : decode cX11_carry 104 = .ok (.if_icmp .lt 6, 3) := by decide +kernel
theorem dX11_carry_107 : decode cX11_carry 107 = .ok (.bipush (-2), 2) := by decide +kernel
theorem dX11_carry_109 : decode cX11_carry 109 = .ok (.ireturn, 1) := by decide +kernel
theorem dX11_carry_110 : decode cX11_carry 110 = .ok (.iinc 3 1, 3) := by decide +kernel
theorem dX11_carry_113 : decode cX11_carry 113 = .ok (.goto (-89), 3) := by decide +kernel
theorem dX11_carry_116 : decode cX11_carry 116 = .ok (.aload_n 0, 1) := by decide +kernel
theorem dX11_carry_117 : decode cX11_carry 117 = .ok (.aload_n 0, 1) := by decide +kernel
theorem dX11_carry_118 : decode cX11_carry 118 = .ok (.getfield 74, 3) := by decide +kernel
theorem dX11_carry_121 : decode cX11_carry 121 = .ok (.invokevirtual 330, 3) := by decide +kernel
theorem dX11_carry_124 : decode cX11_carry 124 = .ok (.ifCond .ne 6, 3) := by decide +kernel
theorem dX11_carry_127 : decode cX11_carry 127 = .ok (.bipush 100, 2) := by decide +kernel
theorem dX11_carry_129 : decode cX11_carry 129 = .ok (.ireturn, 1) := by decide +kernel
theorem dX11_carry_130 : decode cX11_carry 130 = .ok (.aload_n 0, 1) := by decide +kernel
theorem dX11_carry_131 : decode cX11_carry 131 = .ok (.aload_n 0, 1) := by decide +kernel
theorem dX11_carry_132 : decode cX11_carry 132 = .ok (.getfield 77, 3) := by decide +kernel
theorem dX11_carry_135 : decode cX11_carry 135 = .ok (.invokevirtual 330, 3) := by decide +kernel
theorem dX11_carry_138 : decode cX11_carry 138 = .ok (.ifCond .ne 6, 3) := by decide +kernel
theorem dX11_carry_141 : decode cX11_carry 141 = .ok (.bipush 101, 2) := by decide +kernel
theorem dX11_carry_143 : decode cX11_carry 143 = .ok (.ireturn, 1) := by decide +kernel
theorem dX11_carry_144 : decode cX11_carry 144 = .ok (.aload_n 0, 1) := by decide +kernel
theorem dX11_carry_145 : decode cX11_carry 145 = .ok (.aload_n 0, 1) := by decide +kernel
theorem dX11_carry_146 : decode cX11_carry 146 = .ok (.getfield 80, 3) := by decide +kernel
theorem dX11_carry_149 : decode cX11_carry 149 = .ok (.invokevirtual 330, 3) := by decide +kernel
theorem dX11_carry_152 : decode cX11_carry 152 = .ok (.ifCond .ne 6, 3) := by decide +kernel
theorem dX11_carry_155 : decode cX11_carry 155 = .ok (.bipush 102, 2) := by decide +kernel
theorem dX11_carry_157 : decode cX11_carry 157 = .ok (.ireturn, 1) := by decide +kernel
theorem dX11_carry_158 : decode cX11_carry 158 = .ok (.iconst 0, 1) := by decide +kernel
theorem dX11_carry_159 : decode cX11_carry 159 = .ok (.istore_n 3, 1) := by decide +kernel
theorem dX11_carry_160 : decode cX11_carry 160 = .ok (.iload_n 3, 1) := by decide +kernel
theorem dX11_carry_161 : decode cX11_carry 161 = .ok (.aload_n 0, 1) := by decide +kernel
theorem dX11_carry_162 : decode cX11_carry 162 = .ok (.getfield 109, 3) := by decide +kernel
theorem dX11_carry_165 : decode cX11_carry 165 = .ok (.if_icmp .ge 81, 3) := by decide +kernel
theorem dX11_carry_168 : decode cX11_carry 168 = .ok (.iconst 0, 1) := by decide +kernel
theorem dX11_carry_169 : decode cX11_carry 169 = .ok (.istore 4, 2) := by decide +kernel
theorem dX11_carry_171 : decode cX11_carry 171 = .ok (.iload 4, 2) := by decide +kernel
theorem dX11_carry_173 : decode cX11_carry 173 = .ok (.aload_n 0, 1) := by decide +kernel
theorem dX11_carry_174 : decode cX11_carry 174 = .ok (.getfield 109, 3) := by decide +kernel
theorem dX11_carry_177 : decode cX11_carry 177 = .ok (.if_icmp .ge 63, 3) := by decide +kernel
theorem dX11_carry_180 : decode cX11_carry 180 = .ok (.aload_n 0, 1) := by decide +kernel
theorem dX11_carry_181 : decode cX11_carry 181 = .ok (.aload_n 0, 1) := by decide +kernel
theorem dX11_carry_182 : decode cX11_carry 182 = .ok (.getfield 83, 3) := by decide +kernel
theorem dX11_carry_185 : decode cX11_carry 185 = .ok (.aload_n 0, 1) := by decide +kernel
theorem dX11_carry_186 : decode cX11_carry 186 = .ok (.getfield 74, 3) := by decide +kernel
theorem dX11_carry_189 : decode cX11_carry 189 = .ok (.iload_n 3, 1) := by decide +kernel
theorem dX11_carry_190 : decode cX11_carry 190 = .ok (.iaload, 1) := by decide +kernel
theorem dX11_carry_191 : decode cX11_carry 191 = .ok (.aload_n 0, 1) := by decide +kernel
theorem dX11_carry_192 : decode cX11_carry 192 = .ok (.getfield 77, 3) := by decide +kernel
theorem dX11_carry_195 : decode cX11_carry 195 = .ok (.iload 4, 2) := by decide +kernel
theorem dX11_carry_197 : decode cX11_carry 197 = .ok (.iaload, 1) := by decide +kernel
theorem dX11_carry_198 : decode cX11_carry 198 = .ok (.invokevirtual 123, 3) := by decide +kernel
theorem dX11_carry_201 : decode cX11_carry 201 = .ok (.aload_n 0, 1) := by decide +kernel
theorem dX11_carry_202 : decode cX11_carry 202 = .ok (.aload_n 0, 1) := by decide +kernel
theorem dX11_carry_203 : decode cX11_carry 203 = .ok (.aload_n 0, 1) := by decide +kernel
theorem dX11_carry_204 : decode cX11_carry 204 = .ok (.iload_n 3, 1) := by decide +kernel
theorem dX11_carry_205 : decode cX11_carry 205 = .ok (.invokevirtual 223, 3) := by decide +kernel
theorem dX11_carry_208 : decode cX11_carry 208 = .ok (.aload_n 0, 1) := by decide +kernel
theorem dX11_carry_209 : decode cX11_carry 209 = .ok (.iload 4, 2) := by decide +kernel
theorem dX11_carry_211 : decode cX11_carry 211 = .ok (.invokevirtual 223, 3) := by decide +kernel
theorem dX11_carry_214 : decode cX11_carry 214 = .ok (.invokevirtual 266, 3) := by decide +kernel
theorem dX11_carry_217 : decode cX11_carry 217 = .ok (.aload_n 0, 1) := by decide +kernel
theorem dX11_carry_218 : decode cX11_carry 218 = .ok (.getfield 80, 3) := by decide +kernel
theorem dX11_carry_221 : decode cX11_carry 221 = .ok (.invokevirtual 334, 3) := by decide +kernel
theorem dX11_carry_224 : decode cX11_carry 224 = .ok (.if_icmp .eq 10, 3) := by decide +kernel
theorem dX11_carry_227 : decode cX11_carry 227 = .ok (.iconst 5, 1) := by decide +kernel
theorem dX11_carry_228 : decode cX11_carry 228 = .ok (.iload_n 3, 1) := by decide +kernel
theorem dX11_carry_229 : decode cX11_carry 229 = .ok (.imul, 1) := by decide +kernel
theorem dX11_carry_230 : decode cX11_carry 230 = .ok (.iload 4, 2) := by decide +kernel
theorem dX11_carry_232 : decode cX11_carry 232 = .ok (.iadd, 1) := by decide +kernel
theorem dX11_carry_233 : decode cX11_carry 233 = .ok (.ireturn, 1) := by decide +kernel
theorem dX11_carry_234 : decode cX11_carry 234 = .ok (.iinc 4 1, 3) := by decide +kernel
theorem dX11_carry_237 : decode cX11_carry 237 = .ok (.goto (-66), 3) := by decide +kernel
theorem dX11_carry_240 : decode cX11_carry 240 = .ok (.iinc 3 1, 3) := by decide +kernel
theorem dX11_carry_243 : decode cX11_carry 243 = .ok (.goto (-83), 3) := by decide +kernel
theorem dX11_carry_246 : decode cX11_carry 246 = .ok (.iconst (-1), 1) := by decide +kernel
theorem dX11_carry_247 : decode cX11_carry 247 = .ok (.ireturn, 1) := by decide +kernel
theorem dX11_maps_0 : decode cX11_maps 0 = .ok (.iload_n 1, 1) := by decide +kernel
theorem dX11_maps_1 : decode cX11_maps 1 = .ok (.aload_n 0, 1) := by decide +kernel
theorem dX11_maps_2 : decode cX11_maps 2 = .ok (.getfield 109, 3) := by decide +kernel
theorem dX11_maps_5 : decode cX11_maps 5 = .ok (.if_icmp .ne 99, 3) := by decide +kernel
theorem dX11_maps_8 : decode cX11_maps 8 = .ok (.iconst 0, 1) := by decide +kernel
theorem dX11_maps_9 : decode cX11_maps 9 = .ok (.istore_n 2, 1) := by decide +kernel
theorem dX11_maps_10 : decode cX11_maps 10 = .ok (.iload_n 2, 1) := by decide +kernel
theorem dX11_maps_11 : decode cX11_maps 11 = .ok (.aload_n 0, 1) := by decide +kernel
theorem dX11_maps_12 : decode cX11_maps 12 = .ok (.getfield 109, 3) := by decide +kernel
theorem dX11_maps_15 : decode cX11_maps 15 = .ok (.if_icmp .ge 72, 3) := by decide +kernel
theorem dX11_maps_18 : decode cX11_maps 18 = .ok (.iconst 0, 1) := by decide +kernel
theorem dX11_maps_19 : decode cX11_maps 19 = .ok (.istore_n 3, 1) := by decide +kernel
theorem dX11_maps_20 : decode cX11_maps 20 = .ok (.iload_n 3, 1) := by decide +kernel
theorem dX11_maps_21 : decode cX11_maps 21 = .ok (.aload_n 0, 1) := by decide +kernel
theorem dX11_maps_22 : decode cX11_maps 22 = .ok (.getfield 109, 3) := by decide +kernel
theorem dX11_maps_25 : decode cX11_maps 25 = .ok (.if_icmp .ge 56, 3) := by decide +kernel
