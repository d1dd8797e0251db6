theorem dL_cell_0 : decode cL_cell 0 = .ok (.iload_n 1, 1) := by decide +kernel
theorem dL_cell_1 : decode cL_cell 1 = .ok (.aload_n 0, 1) := by decide +kernel
theorem dL_cell_2 : decode cL_cell 2 = .ok (.arraylength, 1) := by decide +kernel
theorem dL_cell_3 : decode cL_cell 3 = .ok (.if_icmp .ge 9, 3) := by decide +kernel
theorem dL_cell_6 : decode cL_cell 6 = .ok (.aload_n 0, 1) := by decide +kernel
theorem dL_cell_7 : decode cL_cell 7 = .ok (.iload_n 1, 1) := by decide +kernel
theorem dL_cell_8 : decode cL_cell 8 = .ok (.iaload, 1) := by decide +kernel
theorem dL_cell_9 : decode cL_cell 9 = .ok (.goto 12, 3) := by decide +kernel
theorem dL_cell_12 : decode cL_cell 12 = .ok (.sipush 373, 3) := by decide +kernel
theorem dL_cell_15 : decode cL_cell 15 = .ok (.iload_n 1, 1) := by decide +kernel
theorem dL_cell_16 : decode cL_cell 16 = .ok (.imul, 1) := by decide +kernel
theorem dL_cell_17 : decode cL_cell 17 = .ok (.sipush 367, 3) := by decide +kernel
theorem dL_cell_20 : decode cL_cell 20 = .ok (.iadd, 1) := by decide +kernel
theorem dL_cell_21 : decode cL_cell 21 = .ok (.ireturn, 1) := by decide +kernel
theorem dL_between_0 : decode cL_between 0 = .ok (.iload_n 1, 1) := by decide +kernel
theorem dL_between_1 : decode cL_between 1 = .ok (.iload_n 0, 1) := by decide +kernel
theorem dL_between_2 : decode cL_between 2 = .ok (.ldc 7, 2) := by decide +kernel
theorem dL_between_4 : decode cL_between 4 = .ok (.iand, 1) := by decide +kernel
theorem dL_between_5 : decode cL_between 5 = .ok (.iload_n 2, 1) := by decide +kernel
theorem dL_between_6 : decode cL_between 6 = .ok (.iload_n 1, 1) := by decide +kernel
theorem dL_between_7 : decode cL_between 7 = .ok (.isub, 1) := by decide +kernel
theorem dL_between_8 : decode cL_between 8 = .ok (.iconst 1, 1) := by decide +kernel
theorem dL_between_9 : decode cL_between 9 = .ok (.iadd, 1) := by decide +kernel
theorem dL_between_10 : decode cL_between 10 = .ok (.irem, 1) := by decide +kernel
theorem dL_between_11 : decode cL_between 11 = .ok (.iadd, 1) := by decide +kernel
theorem dL_between_12 : decode cL_between 12 = .ok (.ireturn, 1) := by decide +kernel
theorem dL_say_0 : decode cL_say 0 = .ok (.iconst 0, 1) := by decide +kernel
theorem dL_say_1 : decode cL_say 1 = .ok (.istore_n 2, 1) := by decide +kernel
theorem dL_say_2 : decode cL_say 2 = .ok (.iload_n 2, 1) := by decide +kernel
theorem dL_say_3 : decode cL_say 3 = .ok (.aload_n 1, 1) := by decide +kernel
theorem dL_say_4 : decode cL_say 4 = .ok (.invokevirtual 8, 3) := by decide +kernel
theorem dL_say_7 : decode cL_say 7 = .ok (.if_icmp .ge 89, 3) := by decide +kernel
theorem dL_say_10 : decode cL_say 10 = .ok (.iconst 5, 1) := by decide +kernel
theorem dL_say_11 : decode cL_say 11 = .ok (.newarray .int, 2) := by decide +kernel
theorem dL_say_13 : decode cL_say 13 = .ok (.astore_n 3, 1) := by decide +kernel
theorem dL_say_14 : decode cL_say 14 = .ok (.iconst 0, 1) := by decide +kernel
theorem dL_say_15 : decode cL_say 15 = .ok (.istore 4, 2) := by decide +kernel
theorem dL_say_17 : decode cL_say 17 = .ok (.iload 4, 2) := by decide +kernel
theorem dL_say_19 : decode cL_say 19 = .ok (.bipush 20, 2) := by decide +kernel
theorem dL_say_21 : decode cL_say 21 = .ok (.if_icmp .ge 49, 3) := by decide +kernel
theorem dL_say_24 : decode cL_say 24 = .ok (.aload_n 3, 1) := by decide +kernel
theorem dL_say_25 : decode cL_say 25 = .ok (.iload 4, 2) := by decide +kernel
theorem dL_say_27 : decode cL_say 27 = .ok (.iconst 4, 1) := by decide +kernel
theorem dL_say_28 : decode cL_say 28 = .ok (.idiv, 1) := by decide +kernel
theorem dL_say_29 : decode cL_say 29 = .ok (.aload_n 3, 1) := by decide +kernel
theorem dL_say_30 : decode cL_say 30 = .ok (.iload 4, 2) := by decide +kernel
theorem dL_say_32 : decode cL_say 32 = .ok (.iconst 4, 1) := by decide +kernel
theorem dL_say_33 : decode cL_say 33 = .ok (.idiv, 1) := by decide +kernel
theorem dL_say_34 : decode cL_say 34 = .ok (.iaload, 1) := by decide +kernel
theorem dL_say_35 : decode cL_say 35 = .ok (.bipush 8, 2) := by decide +kernel
theorem dL_say_37 : decode cL_say 37 = .ok (.ishl, 1) := by decide +kernel
theorem dL_say_38 : decode cL_say 38 = .ok (.iload_n 2, 1) := by decide +kernel
theorem dL_say_39 : decode cL_say 39 = .ok (.iload 4, 2) := by decide +kernel
theorem dL_say_41 : decode cL_say 41 = .ok (.iadd, 1) := by decide +kernel
theorem dL_say_42 : decode cL_say 42 = .ok (.aload_n 1, 1) := by decide +kernel
theorem dL_say_43 : decode cL_say 43 = .ok (.invokevirtual 8, 3) := by decide +kernel
theorem dL_say_46 : decode cL_say 46 = .ok (.if_icmp .ge 14, 3) := by decide +kernel
theorem dL_say_49 : decode cL_say 49 = .ok (.aload_n 1, 1) := by decide +kernel
theorem dL_say_50 : decode cL_say 50 = .ok (.iload_n 2, 1) := by decide +kernel
theorem dL_say_51 : decode cL_say 51 = .ok (.iload 4, 2) := by decide +kernel
theorem dL_say_53 : decode cL_say 53 = .ok (.iadd, 1) := by decide +kernel
theorem dL_say_54 : decode cL_say 54 = .ok (.invokevirtual 14, 3) := by decide +kernel
theorem dL_say_57 : decode cL_say 57 = .ok (.goto 5, 3) := by decide +kernel
theorem dL_say_60 : decode cL_say 60 = .ok (.bipush 32, 2) := by decide +kernel
theorem dL_say_62 : decode cL_say 62 = .ok (.ior, 1) := by decide +kernel
theorem dL_say_63 : decode cL_say 63 = .ok (.iastore, 1) := by decide +kernel
theorem dL_say_64 : decode cL_say 64 = .ok (.iinc 4 1, 3) := by decide +kernel
theorem dL_say_67 : decode cL_say 67 = .ok (.goto (-50), 3) := by decide +kernel
theorem dL_say_70 : decode cL_say 70 = .ok (.aload_n 0, 1) := by decide +kernel
theorem dL_say_71 : decode cL_say 71 = .ok (.aload_n 3, 1) := by decide +kernel
theorem dL_say_72 : decode cL_say 72 = .ok (.iconst 0, 1) := by decide +kernel
theorem dL_say_73 : decode cL_say 73 = .ok (.iaload, 1) := by decide +kernel
theorem dL_say_74 : decode cL_say 74 = .ok (.aload_n 3, 1) := by decide +kernel
theorem dL_say_75 : decode cL_say 75 = .ok (.iconst 1, 1) := by decide +kernel
theorem dL_say_76 : decode cL_say 76 = .ok (.iaload, 1) := by decide +kernel
theorem dL_say_77 : decode cL_say 77 = .ok (.aload_n 3, 1) := by decide +kernel
theorem dL_say_78 : decode cL_say 78 = .ok (.iconst 2, 1) := by decide +kernel
theorem dL_say_79 : decode cL_say 79 = .ok (.iaload, 1) := by decide +kernel
theorem dL_say_80 : decode cL_say 80 = .ok (.aload_n 3, 1) := by decide +kernel
theorem dL_say_81 : decode cL_say 81 = .ok (.iconst 3, 1) := by decide +kernel
theorem dL_say_82 : decode cL_say 82 = .ok (.iaload, 1) := by decide +kernel
theorem dL_say_83 : decode cL_say 83 = .ok (.aload_n 3, 1) := by decide +kernel
theorem dL_say_84 : decode cL_say 84 = .ok (.iconst 4, 1) := by decide +kernel
theorem dL_say_85 : decode cL_say 85 = .ok (.iaload, 1) := by decide +kernel
theorem dL_say_86 : decode cL_say 86 = .ok (.invokevirtual 18, 3) := by decide +kernel
theorem dL_say_89 : decode cL_say 89 = .ok (.pop, 1) := by decide +kernel
theorem dL_say_90 : decode cL_say 90 = .ok (.iinc 2 20, 3) := by decide +kernel
theorem dL_say_93 : decode cL_say 93 = .ok (.goto (-91), 3) := by decide +kernel
theorem dL_say_96 : decode cL_say 96 = .ok (.aload_n 1, 1) := by decide +kernel
theorem dL_say_97 : decode cL_say 97 = .ok (.invokevirtual 8, 3) := by decide +kernel
theorem dL_say_100 : decode cL_say 100 = .ok (.ifCond .le 12, 3) := by decide +kernel
theorem dL_say_103 : decode cL_say 103 = .ok (.aload_n 0, 1) := by decide +kernel
theorem dL_say_104 : decode cL_say 104 = .ok (.aload_n 1, 1) := by decide +kernel
theorem dL_say_105 : decode cL_say 105 = .ok (.invokevirtual 8, 3) := by decide +kernel
theorem dL_say_108 : decode cL_say 108 = .ok (.invokevirtual 24, 3) := by decide +kernel
theorem dL_say_111 : decode cL_say 111 = .ok (.pop, 1) := by decide +kernel
theorem dL_say_112 : decode cL_say 112 = .ok (.return_, 1) := by decide +kernel
theorem dL_field_0 : decode cL_field 0 = .ok (.new 28, 3) := by decide +kernel
theorem dL_field_3 : decode cL_field 3 = .ok (.dup, 1) := by decide +kernel
theorem dL_field_4 : decode cL_field 4 = .ok (.invokespecial 30, 3) := by decide +kernel
theorem dL_field_7 : decode cL_field 7 = .ok (.astore_n 3, 1) := by decide +kernel
theorem dL_field_8 : decode cL_field 8 = .ok (.aload_n 3, 1) := by decide +kernel
theorem dL_field_9 : decode cL_field 9 = .ok (.iload_n 0, 1) := by decide +kernel
theorem dL_field_10 : decode cL_field 10 = .ok (.iload_n 1, 1) := by decide +kernel
theorem dL_field_11 : decode cL_field 11 = .ok (.invokevirtual 31, 3) := by decide +kernel
theorem dL_field_14 : decode cL_field 14 = .ok (.iconst 0, 1) := by decide +kernel
theorem dL_field_15 : decode cL_field 15 = .ok (.istore 4, 2) := by decide +kernel
theorem dL_field_17 : decode cL_field 17 = .ok (.iload 4, 2) := by decide +kernel
theorem dL_field_19 : decode cL_field 19 = .ok (.iload_n 1, 1) := by decide +kernel
theorem dL_field_20 : decode cL_field 20 = .ok (.if_icmp .ge 146, 3) := by decide +kernel
theorem dL_field_23 : decode cL_field 23 = .ok (.iconst 0, 1) := by decide +kernel
theorem dL_field_24 : decode cL_field 24 = .ok (.istore 5, 2) := by decide +kernel
theorem dL_field_26 : decode cL_field 26 = .ok (.iload 5, 2) := by decide +kernel
theorem dL_field_28 : decode cL_field 28 = .ok (.iload_n 1, 1) := by decide +kernel
theorem dL_field_29 : decode cL_field 29 = .ok (.if_icmp .ge 131, 3) := by decide +kernel
theorem dL_field_32 : decode cL_field 32 = .ok (.iconst 2, 1) := by decide +kernel
theorem dL_field_33 : decode cL_field 33 = .ok (.iload_n 1, 1) := by decide +kernel
theorem dL_field_34 : decode cL_field 34 = .ok (.imul, 1) := by decide +kernel
theorem dL_field_35 : decode cL_field 35 = .ok (.newarray .int, 2) := by decide +kernel
theorem dL_field_37 : decode cL_field 37 = .ok (.astore 6, 2) := by decide +kernel
theorem dL_field_39 : decode cL_field 39 = .ok (.aload 6, 2) := by decide +kernel
theorem dL_field_41 : decode cL_field 41 = .ok (.iload 4, 2) := by decide +kernel
theorem dL_field_43 : decode cL_field 43 = .ok (.iload 5, 2) := by decide +kernel
theorem dL_field_45 : decode cL_field 45 = .ok (.iadd, 1) := by decide +kernel
theorem dL_field_46 : decode cL_field 46 = .ok (.iconst 1, 1) := by decide +kernel
theorem dL_field_47 : decode cL_field 47 = .ok (.iastore, 1) := by decide +kernel
theorem dL_field_48 : decode cL_field 48 = .ok (.iconst 2, 1) := by decide +kernel
theorem dL_field_49 : decode cL_field 49 = .ok (.iload_n 1, 1) := by decide +kernel
theorem dL_field_50 : decode cL_field 50 = .ok (.imul, 1) := by decide +kernel
theorem dL_field_51 : decode cL_field 51 = .ok (.iconst 1, 1) := by decide +kernel
theorem dL_field_52 : decode cL_field 52 = .ok (.isub, 1) := by decide +kernel
theorem dL_field_53 : decode cL_field 53 = .ok (.istore 7, 2) := by decide +kernel
theorem dL_field_55 : decode cL_field 55 = .ok (.iload 7, 2) := by decide +kernel
theorem dL_field_57 : decode cL_field 57 = .ok (.iload_n 1, 1) := by decide +kernel
theorem dL_field_58 : decode cL_field 58 = .ok (.if_icmp .lt 63, 3) := by decide +kernel
theorem dL_field_61 : decode cL_field 61 = .ok (.iconst 0, 1) := by decide +kernel
theorem dL_field_62 : decode cL_field 62 = .ok (.istore 8, 2) := by decide +kernel
theorem dL_field_64 : decode cL_field 64 = .ok (.iload 8, 2) := by decide +kernel
theorem dL_field_66 : decode cL_field 66 = .ok (.iload_n 1, 1) := by decide +kernel
theorem dL_field_67 : decode cL_field 67 = .ok (.if_icmp .ge 42, 3) := by decide +kernel
theorem dL_field_70 : decode cL_field 70 = .ok (.aload 6, 2) := by decide +kernel
theorem dL_field_72 : decode cL_field 72 = .ok (.iload 7, 2) := by decide +kernel
theorem dL_field_74 : decode cL_field 74 = .ok (.iload_n 1, 1) := by decide +kernel
theorem dL_field_75 : decode cL_field 75 = .ok (.isub, 1) := by decide +kernel
theorem dL_field_76 : decode cL_field 76 = .ok (.iload 8, 2) := by decide +kernel
theorem dL_field_78 : decode cL_field 78 = .ok (.iadd, 1) := by decide +kernel
theorem dL_field_79 : decode cL_field 79 = .ok (.aload 6, 2) := by decide +kernel
theorem dL_field_81 : decode cL_field 81 = .ok (.iload 7, 2) := by decide +kernel
theorem dL_field_83 : decode cL_field 83 = .ok (.iload_n 1, 1) := by decide +kernel
theorem dL_field_84 : decode cL_field 84 = .ok (.isub, 1) := by decide +kernel
theorem dL_field_85 : decode cL_field 85 = .ok (.iload 8, 2) := by decide +kernel
theorem dL_field_87 : decode cL_field 87 = .ok (.iadd, 1) := by decide +kernel
theorem dL_field_88 : decode cL_field 88 = .ok (.iaload, 1) := by decide +kernel
theorem dL_field_89 : decode cL_field 89 = .ok (.aload 6, 2) := by decide +kernel
theorem dL_field_91 : decode cL_field 91 = .ok (.iload 7, 2) := by decide +kernel
theorem dL_field_93 : decode cL_field 93 = .ok (.iaload, 1) := by decide +kernel
theorem dL_field_94 : decode cL_field 94 = .ok (.aload_n 2, 1) := by decide +kernel
theorem dL_field_95 : decode cL_field 95 = .ok (.iload 8, 2) := by decide +kernel
theorem dL_field_97 : decode cL_field 97 = .ok (.iaload, 1) := by decide +kernel
theorem dL_field_98 : decode cL_field 98 = .ok (.imul, 1) := by decide +kernel
theorem dL_field_99 : decode cL_field 99 = .ok (.iadd, 1) := by decide +kernel
theorem dL_field_100 : decode cL_field 100 = .ok (.iload_n 0, 1) := by decide +kernel
theorem dL_field_101 : decode cL_field 101 = .ok (.irem, 1) := by decide +kernel
theorem dL_field_102 : decode cL_field 102 = .ok (.iastore, 1) := by decide +kernel
theorem dL_field_103 : decode cL_field 103 = .ok (.iinc 8 1, 3) := by decide +kernel
theorem dL_field_106 : decode cL_field 106 = .ok (.goto (-42), 3) := by decide +kernel
theorem dL_field_109 : decode cL_field 109 = .ok (.aload 6, 2) := by decide +kernel
theorem dL_field_111 : decode cL_field 111 = .ok (.iload 7, 2) := by decide +kernel
theorem dL_field_113 : decode cL_field 113 = .ok (.iconst 0, 1) := by decide +kernel
theorem dL_field_114 : decode cL_field 114 = .ok (.iastore, 1) := by decide +kernel
theorem dL_field_115 : decode cL_field 115 = .ok (.iinc 7 (-1), 3) := by decide +kernel
theorem dL_field_118 : decode cL_field 118 = .ok (.goto (-63), 3) := by decide +kernel
theorem dL_field_121 : decode cL_field 121 = .ok (.iconst 0, 1) := by decide +kernel
theorem dL_field_122 : decode cL_field 122 = .ok (.istore 7, 2) := by decide +kernel
theorem dL_field_124 : decode cL_field 124 = .ok (.iload 7, 2) := by decide +kernel
theorem dL_field_126 : decode cL_field 126 = .ok (.iload_n 1, 1) := by decide +kernel
theorem dL_field_127 : decode cL_field 127 = .ok (.if_icmp .ge 27, 3) := by decide +kernel
theorem dL_field_130 : decode cL_field 130 = .ok (.aload_n 3, 1) := by decide +kernel
theorem dL_field_131 : decode cL_field 131 = .ok (.getfield 35, 3) := by decide +kernel
theorem dL_field_134 : decode cL_field 134 = .ok (.iload 4, 2) := by decide +kernel
theorem dL_field_136 : decode cL_field 136 = .ok (.aaload, 1) := by decide +kernel
theorem dL_field_137 : decode cL_field 137 = .ok (.iload 5, 2) := by decide +kernel
theorem dL_field_139 : decode cL_field 139 = .ok (.aaload, 1) := by decide +kernel
theorem dL_field_140 : decode cL_field 140 = .ok (.iload 7, 2) := by decide +kernel
theorem dL_field_142 : decode cL_field 142 = .ok (.aload 6, 2) := by decide +kernel
theorem dL_field_144 : decode cL_field 144 = .ok (.iload 7, 2) := by decide +kernel
theorem dL_field_146 : decode cL_field 146 = .ok (.iaload, 1) := by decide +kernel
theorem dL_field_147 : decode cL_field 147 = .ok (.iastore, 1) := by decide +kernel
theorem dL_field_148 : decode cL_field 148 = .ok (.iinc 7 1, 3) := by decide +kernel
theorem dL_field_151 : decode cL_field 151 = .ok (.goto (-27), 3) := by decide +kernel
theorem dL_field_154 : decode cL_field 154 = .ok (.iinc 5 1, 3) := by decide +kernel
theorem dL_field_157 : decode cL_field 157 = .ok (.goto (-131), 3) := by decide +kernel
theorem dL_field_160 : decode cL_field 160 = .ok (.iinc 4 1, 3) := by decide +kernel
theorem dL_field_163 : decode cL_field 163 = .ok (.goto (-146), 3) := by decide +kernel
theorem dL_field_166 : decode cL_field 166 = .ok (.aload_n 3, 1) := by decide +kernel
theorem dL_field_167 : decode cL_field 167 = .ok (.invokevirtual 39, 3) := by decide +kernel
theorem dL_field_170 : decode cL_field 170 = .ok (.aload_n 3, 1) := by decide +kernel
theorem dL_field_171 : decode cL_field 171 = .ok (.areturn, 1) := by decide +kernel
theorem dL_SIZES_0 : decode cL_SIZES 0 = .ok (.bipush 9, 2) := by decide +kernel
theorem dL_SIZES_2 : decode cL_SIZES 2 = .ok (.anewarray 42, 3) := by decide +kernel
theorem dL_SIZES_5 : decode cL_SIZES 5 = .ok (.dup, 1) := by decide +kernel
theorem dL_SIZES_6 : decode cL_SIZES 6 = .ok (.iconst 0, 1) := by decide +kernel
theorem dL_SIZES_7 : decode cL_SIZES 7 = .ok (.iconst 2, 1) := by decide +kernel
theorem dL_SIZES_8 : decode cL_SIZES 8 = .ok (.newarray .int, 2) := by decide +kernel
theorem dL_SIZES_10 : decode cL_SIZES 10 = .ok (.dup, 1) := by decide +kernel
theorem dL_SIZES_11 : decode cL_SIZES 11 = .ok (.iconst 0, 1) := by decide +kernel
theorem dL_SIZES_12 : decode cL_SIZES 12 = .ok (.iconst 2, 1) := by decide +kernel
theorem dL_SIZES_13 : decode cL_SIZES 13 = .ok (.iastore, 1) := by decide +kernel
theorem dL_SIZES_14 : decode cL_SIZES 14 = .ok (.dup, 1) := by decide +kernel
theorem dL_SIZES_15 : decode cL_SIZES 15 = .ok (.iconst 1, 1) := by decide +kernel
theorem dL_SIZES_16 : decode cL_SIZES 16 = .ok (.iconst 2, 1) := by decide +kernel
theorem dL_SIZES_17 : decode cL_SIZES 17 = .ok (.iastore, 1) := by decide +kernel
theorem dL_SIZES_18 : decode cL_SIZES 18 = .ok (.aastore, 1) := by decide +kernel
theorem dL_SIZES_19 : decode cL_SIZES 19 = .ok (.dup, 1) := by decide +kernel
theorem dL_SIZES_20 : decode cL_SIZES 20 = .ok (.iconst 1, 1) := by decide +kernel
theorem dL_SIZES_21 : decode cL_SIZES 21 = .ok (.iconst 2, 1) := by decide +kernel
theorem dL_SIZES_22 : decode cL_SIZES 22 = .ok (.newarray .int, 2) := by decide +kernel
theorem dL_SIZES_24 : decode cL_SIZES 24 = .ok (.dup, 1) := by decide +kernel
theorem dL_SIZES_25 : decode cL_SIZES 25 = .ok (.iconst 0, 1) := by decide +kernel
theorem dL_SIZES_26 : decode cL_SIZES 26 = .ok (.iconst 2, 1) := by decide +kernel
theorem dL_SIZES_27 : decode cL_SIZES 27 = .ok (.iastore, 1) := by decide +kernel
theorem dL_SIZES_28 : decode cL_SIZES 28 = .ok (.dup, 1) := by decide +kernel
theorem dL_SIZES_29 : decode cL_SIZES 29 = .ok (.iconst 1, 1) := by decide +kernel
theorem dL_SIZES_30 : decode cL_SIZES 30 = .ok (.iconst 3, 1) := by decide +kernel
theorem dL_SIZES_31 : decode cL_SIZES 31 = .ok (.iastore, 1) := by decide +kernel
theorem dL_SIZES_32 : decode cL_SIZES 32 = .ok (.aastore, 1) := by decide +kernel
theorem dL_SIZES_33 : decode cL_SIZES 33 = .ok (.dup, 1) := by decide +kernel
theorem dL_SIZES_34 : decode cL_SIZES 34 = .ok (.iconst 2, 1) := by decide +kernel
theorem dL_SIZES_35 : decode cL_SIZES 35 = .ok (.iconst 2, 1) := by decide +kernel
theorem dL_SIZES_36 : decode cL_SIZES 36 = .ok (.newarray .int, 2) := by decide +kernel
theorem dL_SIZES_38 : decode cL_SIZES 38 = .ok (.dup, 1) := by decide +kernel
theorem dL_SIZES_39 : decode cL_SIZES 39 = .ok (.iconst 0, 1) := by decide +kernel
theorem dL_SIZES_40 : decode cL_SIZES 40 = .ok (.iconst 3, 1) := by decide +kernel
theorem dL_SIZES_41 : decode cL_SIZES 41 = .ok (.iastore, 1) := by decide +kernel
theorem dL_SIZES_42 : decode cL_SIZES 42 = .ok (.dup, 1) := by decide +kernel
theorem dL_SIZES_43 : decode cL_SIZES 43 = .ok (.iconst 1, 1) := by decide +kernel
theorem dL_SIZES_44 : decode cL_SIZES 44 = .ok (.iconst 2, 1) := by decide +kernel
theorem dL_SIZES_45 : decode cL_SIZES 45 = .ok (.iastore, 1) := by decide +kernel
theorem dL_SIZES_46 : decode cL_SIZES 46 = .ok (.aastore, 1) := by decide +kernel
theorem dL_SIZES_47 : decode cL_SIZES 47 = .ok (.dup, 1) := by decide +kernel
theorem dL_SIZES_48 : decode cL_SIZES 48 = .ok (.iconst 3, 1) := by decide +kernel
theorem dL_SIZES_49 : decode cL_SIZES 49 = .ok (.iconst 2, 1) := by decide +kernel
theorem dL_SIZES_50 : decode cL_SIZES 50 = .ok (.newarray .int, 2) := by decide +kernel
theorem dL_SIZES_52 : decode cL_SIZES 52 = .ok (.dup, 1) := by decide +kernel
theorem dL_SIZES_53 : decode cL_SIZES 53 = .ok (.iconst 0, 1) := by decide +kernel
theorem dL_SIZES_54 : decode cL_SIZES 54 = .ok (.iconst 3, 1) := by decide +kernel
theorem dL_SIZES_55 : decode cL_SIZES 55 = .ok (.iastore, 1) := by decide +kernel
theorem dL_SIZES_56 : decode cL_SIZES 56 = .ok (.dup, 1) := by decide +kernel
theorem dL_SIZES_57 : decode cL_SIZES 57 = .ok (.iconst 1, 1) := by decide +kernel
theorem dL_SIZES_58 : decode cL_SIZES 58 = .ok (.iconst 3, 1) := by decide +kernel
theorem dL_SIZES_59 : decode cL_SIZES 59 = .ok (.iastore, 1) := by decide +kernel
theorem dL_SIZES_60 : decode cL_SIZES 60 = .ok (.aastore, 1) := by decide +kernel
theorem dL_SIZES_61 : decode cL_SIZES 61 = .ok (.dup, 1) := by decide +kernel
theorem dL_SIZES_62 : decode cL_SIZES 62 = .ok (.iconst 4, 1) := by decide +kernel
theorem dL_SIZES_63 : decode cL_SIZES 63 = .ok (.iconst 2, 1) := by decide +kernel
theorem dL_SIZES_64 : decode cL_SIZES 64 = .ok (.newarray .int, 2) := by decide +kernel
theorem dL_SIZES_66 : decode cL_SIZES 66 = .ok (.dup, 1) := by decide +kernel
theorem dL_SIZES_67 : decode cL_SIZES 67 = .ok (.iconst 0, 1) := by decide +kernel
theorem dL_SIZES_68 : decode cL_SIZES 68 = .ok (.iconst 5, 1) := by decide +kernel
theorem dL_SIZES_69 : decode cL_SIZES 69 = .ok (.iastore, 1) := by decide +kernel
theorem dL_SIZES_70 : decode cL_SIZES 70 = .ok (.dup, 1) := by decide +kernel
theorem dL_SIZES_71 : decode cL_SIZES 71 = .ok (.iconst 1, 1) := by decide +kernel
theorem dL_SIZES_72 : decode cL_SIZES 72 = .ok (.iconst 2, 1) := by decide +kernel
theorem dL_SIZES_73 : decode cL_SIZES 73 = .ok (.iastore, 1) := by decide +kernel
theorem dL_SIZES_74 : decode cL_SIZES 74 = .ok (.aastore, 1) := by decide +kernel
theorem dL_SIZES_75 : decode cL_SIZES 75 = .ok (.dup, 1) := by decide +kernel
theorem dL_SIZES_76 : decode cL_SIZES 76 = .ok (.iconst 5, 1) := by decide +kernel
theorem dL_SIZES_77 : decode cL_SIZES 77 = .ok (.iconst 2, 1) := by decide +kernel
theorem dL_SIZES_78 : decode cL_SIZES 78 = .ok (.newarray .int, 2) := by decide +kernel
theorem dL_SIZES_80 : decode cL_SIZES 80 = .ok (.dup, 1) := by decide +kernel
theorem dL_SIZES_81 : decode cL_SIZES 81 = .ok (.iconst 0, 1) := by decide +kernel
theorem dL_SIZES_82 : decode cL_SIZES 82 = .ok (.iconst 2, 1) := by decide +kernel
theorem dL_SIZES_83 : decode cL_SIZES 83 = .ok (.iastore, 1) := by decide +kernel
theorem dL_SIZES_84 : decode cL_SIZES 84 = .ok (.dup, 1) := by decide +kernel
theorem dL_SIZES_85 : decode cL_SIZES 85 = .ok (.iconst 1, 1) := by decide +kernel
theorem dL_SIZES_86 : decode cL_SIZES 86 = .ok (.iconst 4, 1) := by decide +kernel
theorem dL_SIZES_87 : decode cL_SIZES 87 = .ok (.iastore, 1) := by decide +kernel
theorem dL_SIZES_88 : decode cL_SIZES 88 = .ok (.aastore, 1) := by decide +kernel
theorem dL_SIZES_89 : decode cL_SIZES 89 = .ok (.dup, 1) := by decide +kernel
theorem dL_SIZES_90 : decode cL_SIZES 90 = .ok (.bipush 6, 2) := by decide +kernel
theorem dL_SIZES_92 : decode cL_SIZES 92 = .ok (.iconst 2, 1) := by decide +kernel
theorem dL_SIZES_93 : decode cL_SIZES 93 = .ok (.newarray .int, 2) := by decide +kernel
theorem dL_SIZES_95 : decode cL_SIZES 95 = .ok (.dup, 1) := by decide +kernel
theorem dL_SIZES_96 : decode cL_SIZES 96 = .ok (.iconst 0, 1) := by decide +kernel
theorem dL_SIZES_97 : decode cL_SIZES 97 = .ok (.iconst 2, 1) := by decide +kernel
theorem dL_SIZES_98 : decode cL_SIZES 98 = .ok (.iastore, 1) := by decide +kernel
theorem dL_SIZES_99 : decode cL_SIZES 99 = .ok (.dup, 1) := by decide +kernel
theorem dL_SIZES_100 : decode cL_SIZES 100 = .ok (.iconst 1, 1) := by decide +kernel
theorem dL_SIZES_101 : decode cL_SIZES 101 = .ok (.iconst 1, 1) := by decide +kernel
theorem dL_SIZES_102 : decode cL_SIZES 102 = .ok (.iastore, 1) := by decide +kernel
theorem dL_SIZES_103 : decode cL_SIZES 103 = .ok (.aastore, 1) := by decide +kernel
theorem dL_SIZES_104 : decode cL_SIZES 104 = .ok (.dup, 1) := by decide +kernel
theorem dL_SIZES_105 : decode cL_SIZES 105 = .ok (.bipush 7, 2) := by decide +kernel
theorem dL_SIZES_107 : decode cL_SIZES 107 = .ok (.iconst 2, 1) := by decide +kernel
theorem dL_SIZES_108 : decode cL_SIZES 108 = .ok (.newarray .int, 2) := by decide +kernel
theorem dL_SIZES_110 : decode cL_SIZES 110 = .ok (.dup, 1) := by decide +kernel
theorem dL_SIZES_111 : decode cL_SIZES 111 = .ok (.iconst 0, 1) := by decide +kernel
theorem dL_SIZES_112 : decode cL_SIZES 112 = .ok (.iconst 3, 1) := by decide +kernel
theorem dL_SIZES_113 : decode cL_SIZES 113 = .ok (.iastore, 1) := by decide +kernel
theorem dL_SIZES_114 : decode cL_SIZES 114 = .ok (.dup, 1) := by decide +kernel
theorem dL_SIZES_115 : decode cL_SIZES 115 = .ok (.iconst 1, 1) := by decide +kernel
theorem dL_SIZES_116 : decode cL_SIZES 116 = .ok (.iconst 1, 1) := by decide +kernel
theorem dL_SIZES_117 : decode cL_SIZES 117 = .ok (.iastore, 1) := by decide +kernel
theorem dL_SIZES_118 : decode cL_SIZES 118 = .ok (.aastore, 1) := by decide +kernel
theorem dL_SIZES_119 : decode cL_SIZES 119 = .ok (.dup, 1) := by decide +kernel
theorem dL_SIZES_120 : decode cL_SIZES 120 = .ok (.bipush 8, 2) := by decide +kernel
theorem dL_SIZES_122 : decode cL_SIZES 122 = .ok (.iconst 2, 1) := by decide +kernel
theorem dL_SIZES_123 : decode cL_SIZES 123 = .ok (.newarray .int, 2) := by decide +kernel
theorem dL_SIZES_125 : decode cL_SIZES 125 = .ok (.dup, 1) := by decide +kernel
theorem dL_SIZES_126 : decode cL_SIZES 126 = .ok (.iconst 0, 1) := by decide +kernel
theorem dL_SIZES_127 : decode cL_SIZES 127 = .ok (.iconst 5, 1) := by decide +kernel
theorem dL_SIZES_128 : decode cL_SIZES 128 = .ok (.iastore, 1) := by decide +kernel
theorem dL_SIZES_129 : decode cL_SIZES 129 = .ok (.dup, 1) := by decide +kernel
theorem dL_SIZES_130 : decode cL_SIZES 130 = .ok (.iconst 1, 1) := by decide +kernel
theorem dL_SIZES_131 : decode cL_SIZES 131 = .ok (.iconst 1, 1) := by decide +kernel
theorem dL_SIZES_132 : decode cL_SIZES 132 = .ok (.iastore, 1) := by decide +kernel
theorem dL_SIZES_133 : decode cL_SIZES 133 = .ok (.aastore, 1) := by decide +kernel
theorem dL_SIZES_134 : decode cL_SIZES 134 = .ok (.areturn, 1) := by decide +kernel
theorem dL_goodField_0 : decode cL_goodField 0 = .ok (.iload_n 1, 1) := by decide +kernel
theorem dL_goodField_1 : decode cL_goodField 1 = .ok (.iconst 1, 1) := by decide +kernel
theorem dL_goodField_2 : decode cL_goodField 2 = .ok (.if_icmp .ne 11, 3) := by decide +kernel
theorem dL_goodField_5 : decode cL_goodField 5 = .ok (.iconst 1, 1) := by decide +kernel
theorem dL_goodField_6 : decode cL_goodField 6 = .ok (.newarray .int, 2) := by decide +kernel
theorem dL_goodField_8 : decode cL_goodField 8 = .ok (.dup, 1) := by decide +kernel
theorem dL_goodField_9 : decode cL_goodField 9 = .ok (.iconst 0, 1) := by decide +kernel
theorem dL_goodField_10 : decode cL_goodField 10 = .ok (.iconst 1, 1) := by decide +kernel
theorem dL_goodField_11 : decode cL_goodField 11 = .ok (.iastore, 1) := by decide +kernel
theorem dL_goodField_12 : decode cL_goodField 12 = .ok (.areturn, 1) := by decide +kernel
theorem dL_goodField_13 : decode cL_goodField 13 = .ok (.iload_n 0, 1) := by decide +kernel
theorem dL_goodField_14 : decode cL_goodField 14 = .ok (.iconst 2, 1) := by decide +kernel
theorem dL_goodField_15 : decode cL_goodField 15 = .ok (.if_icmp .ne 65, 3) := by decide +kernel
theorem dL_goodField_18 : decode cL_goodField 18 = .ok (.iload_n 1, 1) := by decide +kernel
theorem dL_goodField_19 : decode cL_goodField 19 = .ok (.iconst 2, 1) := by decide +kernel
theorem dL_goodField_20 : decode cL_goodField 20 = .ok (.if_icmp .ne 17, 3) := by decide +kernel
theorem dL_goodField_23 : decode cL_goodField 23 = .ok (.iconst 2, 1) := by decide +kernel
theorem dL_goodField_24 : decode cL_goodField 24 = .ok (.newarray .int, 2) := by decide +kernel
theorem dL_goodField_26 : decode cL_goodField 26 = .ok (.dup, 1) := by decide +kernel
theorem dL_goodField_27 : decode cL_goodField 27 = .ok (.iconst 0, 1) := by decide +kernel
theorem dL_goodField_28 : decode cL_goodField 28 = .ok (.iconst 1, 1) := by decide +kernel
theorem dL_goodField_29 : decode cL_goodField 29 = .ok (.iastore, 1) := by decide +kernel
theorem dL_goodField_30 : decode cL_goodField 30 = .ok (.dup, 1) := by decide +kernel
theorem dL_goodField_31 : decode cL_goodField 31 = .ok (.iconst 1, 1) := by decide +kernel
theorem dL_goodField_32 : decode cL_goodField 32 = .ok (.iconst 1, 1) := by decide +kernel
theorem dL_goodField_33 : decode cL_goodField 33 = .ok (.iastore, 1) := by decide +kernel
theorem dL_goodField_34 : decode cL_goodField 34 = .ok (.goto 45, 3) := by decide +kernel
theorem dL_goodField_37 : decode cL_goodField 37 = .ok (.iload_n 1, 1) := by decide +kernel
theorem dL_goodField_38 : decode cL_goodField 38 = .ok (.iconst 3, 1) := by decide +kernel
theorem dL_goodField_39 : decode cL_goodField 39 = .ok (.if_icmp .ne 21, 3) := by decide +kernel
theorem dL_goodField_42 : decode cL_goodField 42 = .ok (.iconst 3, 1) := by decide +kernel
theorem dL_goodField_43 : decode cL_goodField 43 = .ok (.newarray .int, 2) := by decide +kernel
theorem dL_goodField_45 : decode cL_goodField 45 = .ok (.dup, 1) := by decide +kernel
theorem dL_goodField_46 : decode cL_goodField 46 = .ok (.iconst 0, 1) := by decide +kernel
theorem dL_goodField_47 : decode cL_goodField 47 = .ok (.iconst 1, 1) := by decide +kernel
theorem dL_goodField_48 : decode cL_goodField 48 = .ok (.iastore, 1) := by decide +kernel
theorem dL_goodField_49 : decode cL_goodField 49 = .ok (.dup, 1) := by decide +kernel
theorem dL_goodField_50 : decode cL_goodField 50 = .ok (.iconst 1, 1) := by decide +kernel
theorem dL_goodField_51 : decode cL_goodField 51 = .ok (.iconst 1, 1) := by decide +kernel
theorem dL_goodField_52 : decode cL_goodField 52 = .ok (.iastore, 1) := by decide +kernel
theorem dL_goodField_53 : decode cL_goodField 53 = .ok (.dup, 1) := by decide +kernel
theorem dL_goodField_54 : decode cL_goodField 54 = .ok (.iconst 2, 1) := by decide +kernel
theorem dL_goodField_55 : decode cL_goodField 55 = .ok (.iconst 0, 1) := by decide +kernel
theorem dL_goodField_56 : decode cL_goodField 56 = .ok (.iastore, 1) := by decide +kernel
theorem dL_goodField_57 : decode cL_goodField 57 = .ok (.goto 22, 3) := by decide +kernel
theorem dL_goodField_60 : decode cL_goodField 60 = .ok (.iconst 4, 1) := by decide +kernel
theorem dL_goodField_61 : decode cL_goodField 61 = .ok (.newarray .int, 2) := by decide +kernel
theorem dL_goodField_63 : decode cL_goodField 63 = .ok (.dup, 1) := by decide +kernel
theorem dL_goodField_64 : decode cL_goodField 64 = .ok (.iconst 0, 1) := by decide +kernel
theorem dL_goodField_65 : decode cL_goodField 65 = .ok (.iconst 1, 1) := by decide +kernel
theorem dL_goodField_66 : decode cL_goodField 66 = .ok (.iastore, 1) := by decide +kernel
theorem dL_goodField_67 : decode cL_goodField 67 = .ok (.dup, 1) := by decide +kernel
theorem dL_goodField_68 : decode cL_goodField 68 = .ok (.iconst 1, 1) := by decide +kernel
theorem dL_goodField_69 : decode cL_goodField 69 = .ok (.iconst 1, 1) := by decide +kernel
theorem dL_goodField_70 : decode cL_goodField 70 = .ok (.iastore, 1) := by decide +kernel
theorem dL_goodField_71 : decode cL_goodField 71 = .ok (.dup, 1) := by decide +kernel
theorem dL_goodField_72 : decode cL_goodField 72 = .ok (.iconst 2, 1) := by decide +kernel
theorem dL_goodField_73 : decode cL_goodField 73 = .ok (.iconst 0, 1) := by decide +kernel
theorem dL_goodField_74 : decode cL_goodField 74 = .ok (.iastore, 1) := by decide +kernel
theorem dL_goodField_75 : decode cL_goodField 75 = .ok (.dup, 1) := by decide +kernel
theorem dL_goodField_76 : decode cL_goodField 76 = .ok (.iconst 3, 1) := by decide +kernel
theorem dL_goodField_77 : decode cL_goodField 77 = .ok (.iconst 0, 1) := by decide +kernel
theorem dL_goodField_78 : decode cL_goodField 78 = .ok (.iastore, 1) := by decide +kernel
theorem dL_goodField_79 : decode cL_goodField 79 = .ok (.areturn, 1) := by decide +kernel
theorem dL_goodField_80 : decode cL_goodField 80 = .ok (.iload_n 0, 1) := by decide +kernel
theorem dL_goodField_81 : decode cL_goodField 81 = .ok (.iconst 3, 1) := by decide +kernel
theorem dL_goodField_82 : decode cL_goodField 82 = .ok (.if_icmp .ne 38, 3) := by decide +kernel
theorem dL_goodField_85 : decode cL_goodField 85 = .ok (.iload_n 1, 1) := by decide +kernel
theorem dL_goodField_86 : decode cL_goodField 86 = .ok (.iconst 2, 1) := by decide +kernel
theorem dL_goodField_87 : decode cL_goodField 87 = .ok (.if_icmp .ne 17, 3) := by decide +kernel
theorem dL_goodField_90 : decode cL_goodField 90 = .ok (.iconst 2, 1) := by decide +kernel
theorem dL_goodField_91 : decode cL_goodField 91 = .ok (.newarray .int, 2) := by decide +kernel
theorem dL_goodField_93 : decode cL_goodField 93 = .ok (.dup, 1) := by decide +kernel
theorem dL_goodField_94 : decode cL_goodField 94 = .ok (.iconst 0, 1) := by decide +kernel
theorem dL_goodField_95 : decode cL_goodField 95 = .ok (.iconst 2, 1) := by decide +kernel
theorem dL_goodField_96 : decode cL_goodField 96 = .ok (.iastore, 1) := by decide +kernel
theorem dL_goodField_97 : decode cL_goodField 97 = .ok (.dup, 1) := by decide +kernel
theorem dL_goodField_98 : decode cL_goodField 98 = .ok (.iconst 1, 1) := by decide +kernel
theorem dL_goodField_99 : decode cL_goodField 99 = .ok (.iconst 0, 1) := by decide +kernel
theorem dL_goodField_100 : decode cL_goodField 100 = .ok (.iastore, 1) := by decide +kernel
theorem dL_goodField_101 : decode cL_goodField 101 = .ok (.goto 18, 3) := by decide +kernel
theorem dL_goodField_104 : decode cL_goodField 104 = .ok (.iconst 3, 1) := by decide +kernel
theorem dL_goodField_105 : decode cL_goodField 105 = .ok (.newarray .int, 2) := by decide +kernel
theorem dL_goodField_107 : decode cL_goodField 107 = .ok (.dup, 1) := by decide +kernel
theorem dL_goodField_108 : decode cL_goodField 108 = .ok (.iconst 0, 1) := by decide +kernel
theorem dL_goodField_109 : decode cL_goodField 109 = .ok (.iconst 2, 1) := by decide +kernel
theorem dL_goodField_110 : decode cL_goodField 110 = .ok (.iastore, 1) := by decide +kernel
theorem dL_goodField_111 : decode cL_goodField 111 = .ok (.dup, 1) := by decide +kernel
theorem dL_goodField_112 : decode cL_goodField 112 = .ok (.iconst 1, 1) := by decide +kernel
theorem dL_goodField_113 : decode cL_goodField 113 = .ok (.iconst 1, 1) := by decide +kernel
theorem dL_goodField_114 : decode cL_goodField 114 = .ok (.iastore, 1) := by decide +kernel
theorem dL_goodField_115 : decode cL_goodField 115 = .ok (.dup, 1) := by decide +kernel
theorem dL_goodField_116 : decode cL_goodField 116 = .ok (.iconst 2, 1) := by decide +kernel
theorem dL_goodField_117 : decode cL_goodField 117 = .ok (.iconst 0, 1) := by decide +kernel
theorem dL_goodField_118 : decode cL_goodField 118 = .ok (.iastore, 1) := by decide +kernel
theorem dL_goodField_119 : decode cL_goodField 119 = .ok (.areturn, 1) := by decide +kernel
theorem dL_goodField_120 : decode cL_goodField 120 = .ok (.iconst 2, 1) := by decide +kernel
theorem dL_goodField_121 : decode cL_goodField 121 = .ok (.newarray .int, 2) := by decide +kernel
theorem dL_goodField_123 : decode cL_goodField 123 = .ok (.dup, 1) := by decide +kernel
theorem dL_goodField_124 : decode cL_goodField 124 = .ok (.iconst 0, 1) := by decide +kernel
theorem dL_goodField_125 : decode cL_goodField 125 = .ok (.iconst 2, 1) := by decide +kernel
theorem dL_goodField_126 : decode cL_goodField 126 = .ok (.iastore, 1) := by decide +kernel
theorem dL_goodField_127 : decode cL_goodField 127 = .ok (.dup, 1) := by decide +kernel
theorem dL_goodField_128 : decode cL_goodField 128 = .ok (.iconst 1, 1) := by decide +kernel
theorem dL_goodField_129 : decode cL_goodField 129 = .ok (.iconst 0, 1) := by decide +kernel
theorem dL_goodField_130 : decode cL_goodField 130 = .ok (.iastore, 1) := by decide +kernel
theorem dL_goodField_131 : decode cL_goodField 131 = .ok (.areturn, 1) := by decide +kernel
theorem dL_world_0 : decode cL_world 0 = .ok (.aload_n 1, 1) := by decide +kernel
theorem dL_world_1 : decode cL_world 1 = .ok (.iload_n 2, 1) := by decide +kernel
theorem dL_world_2 : decode cL_world 2 = .ok (.invokestatic 44, 3) := by decide +kernel
theorem dL_world_5 : decode cL_world 5 = .ok (.istore 5, 2) := by decide +kernel
theorem dL_world_7 : decode cL_world 7 = .ok (.invokestatic 50, 3) := by decide +kernel
theorem dL_world_10 : decode cL_world 10 = .ok (.iload 5, 2) := by decide +kernel
theorem dL_world_12 : decode cL_world 12 = .ok (.iconst 0, 1) := by decide +kernel
theorem dL_world_13 : decode cL_world 13 = .ok (.iload 4, 2) := by decide +kernel
theorem dL_world_15 : decode cL_world 15 = .ok (.iconst 1, 1) := by decide +kernel
theorem dL_world_16 : decode cL_world 16 = .ok (.isub, 1) := by decide +kernel
theorem dL_world_17 : decode cL_world 17 = .ok (.invokestatic 54, 3) := by decide +kernel
theorem dL_world_20 : decode cL_world 20 = .ok (.aaload, 1) := by decide +kernel
theorem dL_world_21 : decode cL_world 21 = .ok (.astore 6, 2) := by decide +kernel
theorem dL_world_23 : decode cL_world 23 = .ok (.aload 6, 2) := by decide +kernel
theorem dL_world_25 : decode cL_world 25 = .ok (.iconst 0, 1) := by decide +kernel
theorem dL_world_26 : decode cL_world 26 = .ok (.iaload, 1) := by decide +kernel
theorem dL_world_27 : decode cL_world 27 = .ok (.istore 7, 2) := by decide +kernel
theorem dL_world_29 : decode cL_world 29 = .ok (.aload 6, 2) := by decide +kernel
theorem dL_world_31 : decode cL_world 31 = .ok (.iconst 1, 1) := by decide +kernel
theorem dL_world_32 : decode cL_world 32 = .ok (.iaload, 1) := by decide +kernel
theorem dL_world_33 : decode cL_world 33 = .ok (.istore 8, 2) := by decide +kernel
theorem dL_world_35 : decode cL_world 35 = .ok (.new 28, 3) := by decide +kernel
theorem dL_world_38 : decode cL_world 38 = .ok (.dup, 1) := by decide +kernel
theorem dL_world_39 : decode cL_world 39 = .ok (.invokespecial 30, 3) := by decide +kernel
theorem dL_world_42 : decode cL_world 42 = .ok (.astore 9, 2) := by decide +kernel
theorem dL_world_44 : decode cL_world 44 = .ok (.aload 9, 2) := by decide +kernel
theorem dL_world_46 : decode cL_world 46 = .ok (.iload 7, 2) := by decide +kernel
theorem dL_world_48 : decode cL_world 48 = .ok (.iload 8, 2) := by decide +kernel
theorem dL_world_50 : decode cL_world 50 = .ok (.invokevirtual 31, 3) := by decide +kernel
theorem dL_world_53 : decode cL_world 53 = .ok (.new 58, 3) := by decide +kernel
theorem dL_world_56 : decode cL_world 56 = .ok (.dup, 1) := by decide +kernel
theorem dL_world_57 : decode cL_world 57 = .ok (.invokespecial 60, 3) := by decide +kernel
theorem dL_world_60 : decode cL_world 60 = .ok (.ldc 61, 2) := by decide +kernel
theorem dL_world_62 : decode cL_world 62 = .ok (.invokevirtual 63, 3) := by decide +kernel
theorem dL_world_65 : decode cL_world 65 = .ok (.iload 7, 2) := by decide +kernel
theorem dL_world_67 : decode cL_world 67 = .ok (.invokevirtual 67, 3) := by decide +kernel
theorem dL_world_70 : decode cL_world 70 = .ok (.ldc 70, 2) := by decide +kernel
theorem dL_world_72 : decode cL_world 72 = .ok (.invokevirtual 63, 3) := by decide +kernel
theorem dL_world_75 : decode cL_world 75 = .ok (.iload 8, 2) := by decide +kernel
theorem dL_world_77 : decode cL_world 77 = .ok (.invokevirtual 67, 3) := by decide +kernel
theorem dL_world_80 : decode cL_world 80 = .ok (.ldc 72, 2) := by decide +kernel
theorem dL_world_82 : decode cL_world 82 = .ok (.invokevirtual 63, 3) := by decide +kernel
theorem dL_world_85 : decode cL_world 85 = .ok (.invokevirtual 74, 3) := by decide +kernel
theorem dL_world_88 : decode cL_world 88 = .ok (.astore 10, 2) := by decide +kernel
theorem dL_world_90 : decode cL_world 90 = .ok (.aconst_null, 1) := by decide +kernel
theorem dL_world_91 : decode cL_world 91 = .ok (.astore 11, 2) := by decide +kernel
theorem dL_world_93 : decode cL_world 93 = .ok (.iload 5, 2) := by decide +kernel
theorem dL_world_95 : decode cL_world 95 = .ok (.iconst 5, 1) := by decide +kernel
theorem dL_world_96 : decode cL_world 96 = .ok (.ishr, 1) := by decide +kernel
theorem dL_world_97 : decode cL_world 97 = .ok (.iconst 1, 1) := by decide +kernel
theorem dL_world_98 : decode cL_world 98 = .ok (.iconst 4, 1) := by decide +kernel
theorem dL_world_99 : decode cL_world 99 = .ok (.invokestatic 54, 3) := by decide +kernel
theorem dL_world_102 : decode cL_world 102 = .ok (.istore 12, 2) := by decide +kernel
