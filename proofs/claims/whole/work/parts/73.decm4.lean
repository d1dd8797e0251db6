theorem dX11_maps_28 : decode cX11_maps 28 = .ok (.aload_n 0, 1) := by decide +kernel
theorem dX11_maps_29 : decode cX11_maps 29 = .ok (.aload_n 0, 1) := by decide +kernel
theorem dX11_maps_30 : decode cX11_maps 30 = .ok (.getfield 83, 3) := by decide +kernel
theorem dX11_maps_33 : decode cX11_maps 33 = .ok (.aload_n 0, 1) := by decide +kernel
theorem dX11_maps_34 : decode cX11_maps 34 = .ok (.getfield 86, 3) := by decide +kernel
theorem dX11_maps_37 : decode cX11_maps 37 = .ok (.iload_n 2, 1) := by decide +kernel
theorem dX11_maps_38 : decode cX11_maps 38 = .ok (.iaload, 1) := by decide +kernel
theorem dX11_maps_39 : decode cX11_maps 39 = .ok (.aload_n 0, 1) := by decide +kernel
theorem dX11_maps_40 : decode cX11_maps 40 = .ok (.getfield 86, 3) := by decide +kernel
theorem dX11_maps_43 : decode cX11_maps 43 = .ok (.iload_n 3, 1) := by decide +kernel
theorem dX11_maps_44 : decode cX11_maps 44 = .ok (.iaload, 1) := by decide +kernel
theorem dX11_maps_45 : decode cX11_maps 45 = .ok (.invokevirtual 123, 3) := by decide +kernel
theorem dX11_maps_48 : decode cX11_maps 48 = .ok (.aload_n 0, 1) := by decide +kernel
theorem dX11_maps_49 : decode cX11_maps 49 = .ok (.aload_n 0, 1) := by decide +kernel
theorem dX11_maps_50 : decode cX11_maps 50 = .ok (.aload_n 0, 1) := by decide +kernel
theorem dX11_maps_51 : decode cX11_maps 51 = .ok (.iload_n 2, 1) := by decide +kernel
theorem dX11_maps_52 : decode cX11_maps 52 = .ok (.invokevirtual 223, 3) := by decide +kernel
theorem dX11_maps_55 : decode cX11_maps 55 = .ok (.aload_n 0, 1) := by decide +kernel
theorem dX11_maps_56 : decode cX11_maps 56 = .ok (.iload_n 3, 1) := by decide +kernel
theorem dX11_maps_57 : decode cX11_maps 57 = .ok (.invokevirtual 223, 3) := by decide +kernel
theorem dX11_maps_60 : decode cX11_maps 60 = .ok (.invokevirtual 266, 3) := by decide +kernel
theorem dX11_maps_63 : decode cX11_maps 63 = .ok (.aload_n 0, 1) := by decide +kernel
theorem dX11_maps_64 : decode cX11_maps 64 = .ok (.getfield 86, 3) := by decide +kernel
theorem dX11_maps_67 : decode cX11_maps 67 = .ok (.invokevirtual 334, 3) := by decide +kernel
theorem dX11_maps_70 : decode cX11_maps 70 = .ok (.if_icmp .eq 5, 3) := by decide +kernel
theorem dX11_maps_73 : decode cX11_maps 73 = .ok (.iconst 0, 1) := by decide +kernel
theorem dX11_maps_74 : decode cX11_maps 74 = .ok (.ireturn, 1) := by decide +kernel
theorem dX11_maps_75 : decode cX11_maps 75 = .ok (.iinc 3 1, 3) := by decide +kernel
theorem dX11_maps_78 : decode cX11_maps 78 = .ok (.goto (-58), 3) := by decide +kernel
theorem dX11_maps_81 : decode cX11_maps 81 = .ok (.iinc 2 1, 3) := by decide +kernel
theorem dX11_maps_84 : decode cX11_maps 84 = .ok (.goto (-74), 3) := by decide +kernel
theorem dX11_maps_87 : decode cX11_maps 87 = .ok (.aload_n 0, 1) := by decide +kernel
theorem dX11_maps_88 : decode cX11_maps 88 = .ok (.aload_n 0, 1) := by decide +kernel
theorem dX11_maps_89 : decode cX11_maps 89 = .ok (.getfield 86, 3) := by decide +kernel
theorem dX11_maps_92 : decode cX11_maps 92 = .ok (.invokevirtual 330, 3) := by decide +kernel
theorem dX11_maps_95 : decode cX11_maps 95 = .ok (.ifCond .eq 7, 3) := by decide +kernel
theorem dX11_maps_98 : decode cX11_maps 98 = .ok (.iconst 1, 1) := by decide +kernel
theorem dX11_maps_99 : decode cX11_maps 99 = .ok (.goto 4, 3) := by decide +kernel
theorem dX11_maps_102 : decode cX11_maps 102 = .ok (.iconst 0, 1) := by decide +kernel
theorem dX11_maps_103 : decode cX11_maps 103 = .ok (.ireturn, 1) := by decide +kernel
theorem dX11_maps_104 : decode cX11_maps 104 = .ok (.iconst 0, 1) := by decide +kernel
theorem dX11_maps_105 : decode cX11_maps 105 = .ok (.istore_n 2, 1) := by decide +kernel
theorem dX11_maps_106 : decode cX11_maps 106 = .ok (.iconst 1, 1) := by decide +kernel
theorem dX11_maps_107 : decode cX11_maps 107 = .ok (.istore_n 3, 1) := by decide +kernel
theorem dX11_maps_108 : decode cX11_maps 108 = .ok (.iload_n 3, 1) := by decide +kernel
theorem dX11_maps_109 : decode cX11_maps 109 = .ok (.aload_n 0, 1) := by decide +kernel
theorem dX11_maps_110 : decode cX11_maps 110 = .ok (.getfield 112, 3) := by decide +kernel
theorem dX11_maps_113 : decode cX11_maps 113 = .ok (.if_icmp .ge 57, 3) := by decide +kernel
theorem dX11_maps_116 : decode cX11_maps 116 = .ok (.aload_n 0, 1) := by decide +kernel
theorem dX11_maps_117 : decode cX11_maps 117 = .ok (.getfield 89, 3) := by decide +kernel
theorem dX11_maps_120 : decode cX11_maps 120 = .ok (.iconst (-1), 1) := by decide +kernel
theorem dX11_maps_121 : decode cX11_maps 121 = .ok (.if_icmp .eq 18, 3) := by decide +kernel
theorem dX11_maps_124 : decode cX11_maps 124 = .ok (.iload_n 1, 1) := by decide +kernel
theorem dX11_maps_125 : decode cX11_maps 125 = .ok (.ifCond .ne 14, 3) := by decide +kernel
theorem dX11_maps_128 : decode cX11_maps 128 = .ok (.iload_n 3, 1) := by decide +kernel
theorem dX11_maps_129 : decode cX11_maps 129 = .ok (.aload_n 0, 1) := by decide +kernel
theorem dX11_maps_130 : decode cX11_maps 130 = .ok (.getfield 89, 3) := by decide +kernel
theorem dX11_maps_133 : decode cX11_maps 133 = .ok (.if_icmp .eq 6, 3) := by decide +kernel
theorem dX11_maps_136 : decode cX11_maps 136 = .ok (.goto 28, 3) := by decide +kernel
theorem dX11_maps_139 : decode cX11_maps 139 = .ok (.aload_n 0, 1) := by decide +kernel
theorem dX11_maps_140 : decode cX11_maps 140 = .ok (.getfield 86, 3) := by decide +kernel
theorem dX11_maps_143 : decode cX11_maps 143 = .ok (.iload_n 1, 1) := by decide +kernel
theorem dX11_maps_144 : decode cX11_maps 144 = .ok (.iload_n 3, 1) := by decide +kernel
theorem dX11_maps_145 : decode cX11_maps 145 = .ok (.iastore, 1) := by decide +kernel
theorem dX11_maps_146 : decode cX11_maps 146 = .ok (.aload_n 0, 1) := by decide +kernel
theorem dX11_maps_147 : decode cX11_maps 147 = .ok (.iload_n 1, 1) := by decide +kernel
theorem dX11_maps_148 : decode cX11_maps 148 = .ok (.invokevirtual 338, 3) := by decide +kernel
theorem dX11_maps_151 : decode cX11_maps 151 = .ok (.ifCond .eq 13, 3) := by decide +kernel
theorem dX11_maps_154 : decode cX11_maps 154 = .ok (.iload_n 2, 1) := by decide +kernel
theorem dX11_maps_155 : decode cX11_maps 155 = .ok (.aload_n 0, 1) := by decide +kernel
theorem dX11_maps_156 : decode cX11_maps 156 = .ok (.iload_n 1, 1) := by decide +kernel
theorem dX11_maps_157 : decode cX11_maps 157 = .ok (.iconst 1, 1) := by decide +kernel
theorem dX11_maps_158 : decode cX11_maps 158 = .ok (.iadd, 1) := by decide +kernel
theorem dX11_maps_159 : decode cX11_maps 159 = .ok (.invokevirtual 341, 3) := by decide +kernel
theorem dX11_maps_162 : decode cX11_maps 162 = .ok (.iadd, 1) := by decide +kernel
theorem dX11_maps_163 : decode cX11_maps 163 = .ok (.istore_n 2, 1) := by decide +kernel
theorem dX11_maps_164 : decode cX11_maps 164 = .ok (.iinc 3 1, 3) := by decide +kernel
theorem dX11_maps_167 : decode cX11_maps 167 = .ok (.goto (-59), 3) := by decide +kernel
theorem dX11_maps_170 : decode cX11_maps 170 = .ok (.iload_n 2, 1) := by decide +kernel
theorem dX11_maps_171 : decode cX11_maps 171 = .ok (.ireturn, 1) := by decide +kernel
theorem dX11_isFree_0 : decode cX11_isFree 0 = .ok (.iconst 0, 1) := by decide +kernel
theorem dX11_isFree_1 : decode cX11_isFree 1 = .ok (.istore_n 2, 1) := by decide +kernel
theorem dX11_isFree_2 : decode cX11_isFree 2 = .ok (.iload_n 2, 1) := by decide +kernel
theorem dX11_isFree_3 : decode cX11_isFree 3 = .ok (.aload_n 0, 1) := by decide +kernel
theorem dX11_isFree_4 : decode cX11_isFree 4 = .ok (.getfield 109, 3) := by decide +kernel
theorem dX11_isFree_7 : decode cX11_isFree 7 = .ok (.if_icmp .ge 34, 3) := by decide +kernel
theorem dX11_isFree_10 : decode cX11_isFree 10 = .ok (.iconst 0, 1) := by decide +kernel
theorem dX11_isFree_11 : decode cX11_isFree 11 = .ok (.istore_n 3, 1) := by decide +kernel
theorem dX11_isFree_12 : decode cX11_isFree 12 = .ok (.iload_n 3, 1) := by decide +kernel
theorem dX11_isFree_13 : decode cX11_isFree 13 = .ok (.aload_n 0, 1) := by decide +kernel
theorem dX11_isFree_14 : decode cX11_isFree 14 = .ok (.getfield 109, 3) := by decide +kernel
theorem dX11_isFree_17 : decode cX11_isFree 17 = .ok (.if_icmp .ge 18, 3) := by decide +kernel
theorem dX11_isFree_20 : decode cX11_isFree 20 = .ok (.aload_n 0, 1) := by decide +kernel
theorem dX11_isFree_21 : decode cX11_isFree 21 = .ok (.getfield 46, 3) := by decide +kernel
theorem dX11_isFree_24 : decode cX11_isFree 24 = .ok (.iload_n 2, 1) := by decide +kernel
theorem dX11_isFree_25 : decode cX11_isFree 25 = .ok (.aaload, 1) := by decide +kernel
theorem dX11_isFree_26 : decode cX11_isFree 26 = .ok (.iload_n 3, 1) := by decide +kernel
theorem dX11_isFree_27 : decode cX11_isFree 27 = .ok (.iconst 0, 1) := by decide +kernel
theorem dX11_isFree_28 : decode cX11_isFree 28 = .ok (.iastore, 1) := by decide +kernel
theorem dX11_isFree_29 : decode cX11_isFree 29 = .ok (.iinc 3 1, 3) := by decide +kernel
theorem dX11_isFree_32 : decode cX11_isFree 32 = .ok (.goto (-20), 3) := by decide +kernel
theorem dX11_isFree_35 : decode cX11_isFree 35 = .ok (.iinc 2 1, 3) := by decide +kernel
theorem dX11_isFree_38 : decode cX11_isFree 38 = .ok (.goto (-36), 3) := by decide +kernel
theorem dX11_isFree_41 : decode cX11_isFree 41 = .ok (.iconst 0, 1) := by decide +kernel
theorem dX11_isFree_42 : decode cX11_isFree 42 = .ok (.istore_n 2, 1) := by decide +kernel
theorem dX11_isFree_43 : decode cX11_isFree 43 = .ok (.iload_n 2, 1) := by decide +kernel
theorem dX11_isFree_44 : decode cX11_isFree 44 = .ok (.iload_n 1, 1) := by decide +kernel
theorem dX11_isFree_45 : decode cX11_isFree 45 = .ok (.if_icmp .gt 53, 3) := by decide +kernel
theorem dX11_isFree_48 : decode cX11_isFree 48 = .ok (.aload_n 0, 1) := by decide +kernel
theorem dX11_isFree_49 : decode cX11_isFree 49 = .ok (.aload_n 0, 1) := by decide +kernel
theorem dX11_isFree_50 : decode cX11_isFree 50 = .ok (.getfield 86, 3) := by decide +kernel
theorem dX11_isFree_53 : decode cX11_isFree 53 = .ok (.iload_n 2, 1) := by decide +kernel
theorem dX11_isFree_54 : decode cX11_isFree 54 = .ok (.iaload, 1) := by decide +kernel
theorem dX11_isFree_55 : decode cX11_isFree 55 = .ok (.aload_n 0, 1) := by decide +kernel
theorem dX11_isFree_56 : decode cX11_isFree 56 = .ok (.getfield 19, 3) := by decide +kernel
theorem dX11_isFree_59 : decode cX11_isFree 59 = .ok (.invokevirtual 115, 3) := by decide +kernel
theorem dX11_isFree_62 : decode cX11_isFree 62 = .ok (.iconst 0, 1) := by decide +kernel
theorem dX11_isFree_63 : decode cX11_isFree 63 = .ok (.istore_n 3, 1) := by decide +kernel
theorem dX11_isFree_64 : decode cX11_isFree 64 = .ok (.iload_n 3, 1) := by decide +kernel
theorem dX11_isFree_65 : decode cX11_isFree 65 = .ok (.aload_n 0, 1) := by decide +kernel
theorem dX11_isFree_66 : decode cX11_isFree 66 = .ok (.getfield 109, 3) := by decide +kernel
theorem dX11_isFree_69 : decode cX11_isFree 69 = .ok (.if_icmp .ge 23, 3) := by decide +kernel
theorem dX11_isFree_72 : decode cX11_isFree 72 = .ok (.aload_n 0, 1) := by decide +kernel
theorem dX11_isFree_73 : decode cX11_isFree 73 = .ok (.getfield 46, 3) := by decide +kernel
theorem dX11_isFree_76 : decode cX11_isFree 76 = .ok (.iload_n 2, 1) := by decide +kernel
theorem dX11_isFree_77 : decode cX11_isFree 77 = .ok (.aaload, 1) := by decide +kernel
theorem dX11_isFree_78 : decode cX11_isFree 78 = .ok (.iload_n 3, 1) := by decide +kernel
theorem dX11_isFree_79 : decode cX11_isFree 79 = .ok (.aload_n 0, 1) := by decide +kernel
theorem dX11_isFree_80 : decode cX11_isFree 80 = .ok (.getfield 19, 3) := by decide +kernel
theorem dX11_isFree_83 : decode cX11_isFree 83 = .ok (.iload_n 3, 1) := by decide +kernel
theorem dX11_isFree_84 : decode cX11_isFree 84 = .ok (.iaload, 1) := by decide +kernel
theorem dX11_isFree_85 : decode cX11_isFree 85 = .ok (.iastore, 1) := by decide +kernel
theorem dX11_isFree_86 : decode cX11_isFree 86 = .ok (.iinc 3 1, 3) := by decide +kernel
theorem dX11_isFree_89 : decode cX11_isFree 89 = .ok (.goto (-25), 3) := by decide +kernel
theorem dX11_isFree_92 : decode cX11_isFree 92 = .ok (.iinc 2 1, 3) := by decide +kernel
theorem dX11_isFree_95 : decode cX11_isFree 95 = .ok (.goto (-52), 3) := by decide +kernel
theorem dX11_isFree_98 : decode cX11_isFree 98 = .ok (.aload_n 0, 1) := by decide +kernel
theorem dX11_isFree_99 : decode cX11_isFree 99 = .ok (.invokevirtual 260, 3) := by decide +kernel
theorem dX11_isFree_102 : decode cX11_isFree 102 = .ok (.iload_n 1, 1) := by decide +kernel
theorem dX11_isFree_103 : decode cX11_isFree 103 = .ok (.iconst 1, 1) := by decide +kernel
theorem dX11_isFree_104 : decode cX11_isFree 104 = .ok (.iadd, 1) := by decide +kernel
theorem dX11_isFree_105 : decode cX11_isFree 105 = .ok (.if_icmp .ne 7, 3) := by decide +kernel
theorem dX11_isFree_108 : decode cX11_isFree 108 = .ok (.iconst 1, 1) := by decide +kernel
theorem dX11_isFree_109 : decode cX11_isFree 109 = .ok (.goto 4, 3) := by decide +kernel
theorem dX11_isFree_112 : decode cX11_isFree 112 = .ok (.iconst 0, 1) := by decide +kernel
theorem dX11_isFree_113 : decode cX11_isFree 113 = .ok (.ireturn, 1) := by decide +kernel
theorem dX11_same_0 : decode cX11_same 0 = .ok (.aload_n 0, 1) := by decide +kernel
theorem dX11_same_1 : decode cX11_same 1 = .ok (.iload_n 1, 1) := by decide +kernel
theorem dX11_same_2 : decode cX11_same 2 = .ok (.iload_n 2, 1) := by decide +kernel
theorem dX11_same_3 : decode cX11_same 3 = .ok (.invokevirtual 321, 3) := by decide +kernel
theorem dX11_same_6 : decode cX11_same 6 = .ok (.ifCond .eq 13, 3) := by decide +kernel
theorem dX11_same_9 : decode cX11_same 9 = .ok (.aload_n 0, 1) := by decide +kernel
theorem dX11_same_10 : decode cX11_same 10 = .ok (.iload_n 1, 1) := by decide +kernel
theorem dX11_same_11 : decode cX11_same 11 = .ok (.invokevirtual 309, 3) := by decide +kernel
theorem dX11_same_14 : decode cX11_same 14 = .ok (.bipush 27, 2) := by decide +kernel
theorem dX11_same_16 : decode cX11_same 16 = .ok (.if_icmp .le 5, 3) := by decide +kernel
theorem dX11_same_19 : decode cX11_same 19 = .ok (.iconst (-1), 1) := by decide +kernel
theorem dX11_same_20 : decode cX11_same 20 = .ok (.ireturn, 1) := by decide +kernel
theorem dX11_same_21 : decode cX11_same 21 = .ok (.aload_n 0, 1) := by decide +kernel
theorem dX11_same_22 : decode cX11_same 22 = .ok (.iload_n 1, 1) := by decide +kernel
theorem dX11_same_23 : decode cX11_same 23 = .ok (.invokevirtual 147, 3) := by decide +kernel
theorem dX11_same_26 : decode cX11_same 26 = .ok (.aload_n 0, 1) := by decide +kernel
theorem dX11_same_27 : decode cX11_same 27 = .ok (.iload_n 2, 1) := by decide +kernel
theorem dX11_same_28 : decode cX11_same 28 = .ok (.invokevirtual 324, 3) := by decide +kernel
theorem dX11_same_31 : decode cX11_same 31 = .ok (.aload_n 0, 1) := by decide +kernel
theorem dX11_same_32 : decode cX11_same 32 = .ok (.iconst 0, 1) := by decide +kernel
theorem dX11_same_33 : decode cX11_same 33 = .ok (.invokevirtual 341, 3) := by decide +kernel
theorem dX11_same_36 : decode cX11_same 36 = .ok (.ireturn, 1) := by decide +kernel
theorem dX11_principal_0 : decode cX11_principal 0 = .ok (.iconst 0, 1) := by decide +kernel
theorem dX11_principal_1 : decode cX11_principal 1 = .ok (.istore_n 3, 1) := by decide +kernel
theorem dX11_principal_2 : decode cX11_principal 2 = .ok (.iload_n 3, 1) := by decide +kernel
theorem dX11_principal_3 : decode cX11_principal 3 = .ok (.aload_n 0, 1) := by decide +kernel
theorem dX11_principal_4 : decode cX11_principal 4 = .ok (.getfield 109, 3) := by decide +kernel
theorem dX11_principal_7 : decode cX11_principal 7 = .ok (.if_icmp .ge 81, 3) := by decide +kernel
theorem dX11_principal_10 : decode cX11_principal 10 = .ok (.iconst 0, 1) := by decide +kernel
theorem dX11_principal_11 : decode cX11_principal 11 = .ok (.istore 4, 2) := by decide +kernel
theorem dX11_principal_13 : decode cX11_principal 13 = .ok (.iload 4, 2) := by decide +kernel
theorem dX11_principal_15 : decode cX11_principal 15 = .ok (.aload_n 0, 1) := by decide +kernel
theorem dX11_principal_16 : decode cX11_principal 16 = .ok (.getfield 112, 3) := by decide +kernel
theorem dX11_principal_19 : decode cX11_principal 19 = .ok (.if_icmp .ge 63, 3) := by decide +kernel
theorem dX11_principal_22 : decode cX11_principal 22 = .ok (.aload_n 0, 1) := by decide +kernel
theorem dX11_principal_23 : decode cX11_principal 23 = .ok (.aload_n 0, 1) := by decide +kernel
theorem dX11_principal_24 : decode cX11_principal 24 = .ok (.getfield 92, 3) := by decide +kernel
theorem dX11_principal_27 : decode cX11_principal 27 = .ok (.iload 4, 2) := by decide +kernel
theorem dX11_principal_29 : decode cX11_principal 29 = .ok (.iload_n 2, 1) := by decide +kernel
theorem dX11_principal_30 : decode cX11_principal 30 = .ok (.invokevirtual 123, 3) := by decide +kernel
theorem dX11_principal_33 : decode cX11_principal 33 = .ok (.aload_n 0, 1) := by decide +kernel
theorem dX11_principal_34 : decode cX11_principal 34 = .ok (.iload_n 3, 1) := by decide +kernel
theorem dX11_principal_35 : decode cX11_principal 35 = .ok (.invokevirtual 223, 3) := by decide +kernel
theorem dX11_principal_38 : decode cX11_principal 38 = .ok (.if_icmp .ne 11, 3) := by decide +kernel
theorem dX11_principal_41 : decode cX11_principal 41 = .ok (.aload_n 0, 1) := by decide +kernel
theorem dX11_principal_42 : decode cX11_principal 42 = .ok (.getfield 68, 3) := by decide +kernel
theorem dX11_principal_45 : decode cX11_principal 45 = .ok (.iload_n 3, 1) := by decide +kernel
theorem dX11_principal_46 : decode cX11_principal 46 = .ok (.iload 4, 2) := by decide +kernel
theorem dX11_principal_48 : decode cX11_principal 48 = .ok (.iastore, 1) := by decide +kernel
theorem dX11_principal_49 : decode cX11_principal 49 = .ok (.aload_n 0, 1) := by decide +kernel
theorem dX11_principal_50 : decode cX11_principal 50 = .ok (.aload_n 0, 1) := by decide +kernel
theorem dX11_principal_51 : decode cX11_principal 51 = .ok (.getfield 92, 3) := by decide +kernel
theorem dX11_principal_54 : decode cX11_principal 54 = .ok (.iload_n 1, 1) := by decide +kernel
theorem dX11_principal_55 : decode cX11_principal 55 = .ok (.iload 4, 2) := by decide +kernel
theorem dX11_principal_57 : decode cX11_principal 57 = .ok (.invokevirtual 123, 3) := by decide +kernel
theorem dX11_principal_60 : decode cX11_principal 60 = .ok (.aload_n 0, 1) := by decide +kernel
theorem dX11_principal_61 : decode cX11_principal 61 = .ok (.iload_n 3, 1) := by decide +kernel
theorem dX11_principal_62 : decode cX11_principal 62 = .ok (.invokevirtual 223, 3) := by decide +kernel
theorem dX11_principal_65 : decode cX11_principal 65 = .ok (.if_icmp .ne 11, 3) := by decide +kernel
theorem dX11_principal_68 : decode cX11_principal 68 = .ok (.aload_n 0, 1) := by decide +kernel
theorem dX11_principal_69 : decode cX11_principal 69 = .ok (.getfield 71, 3) := by decide +kernel
theorem dX11_principal_72 : decode cX11_principal 72 = .ok (.iload_n 3, 1) := by decide +kernel
theorem dX11_principal_73 : decode cX11_principal 73 = .ok (.iload 4, 2) := by decide +kernel
theorem dX11_principal_75 : decode cX11_principal 75 = .ok (.iastore, 1) := by decide +kernel
theorem dX11_principal_76 : decode cX11_principal 76 = .ok (.iinc 4 1, 3) := by decide +kernel
theorem dX11_principal_79 : decode cX11_principal 79 = .ok (.goto (-66), 3) := by decide +kernel
theorem dX11_principal_82 : decode cX11_principal 82 = .ok (.iinc 3 1, 3) := by decide +kernel
theorem dX11_principal_85 : decode cX11_principal 85 = .ok (.goto (-83), 3) := by decide +kernel
theorem dX11_principal_88 : decode cX11_principal 88 = .ok (.iconst 0, 1) := by decide +kernel
theorem dX11_principal_89 : decode cX11_principal 89 = .ok (.istore_n 3, 1) := by decide +kernel
theorem dX11_principal_90 : decode cX11_principal 90 = .ok (.iload_n 3, 1) := by decide +kernel
theorem dX11_principal_91 : decode cX11_principal 91 = .ok (.aload_n 0, 1) := by decide +kernel
theorem dX11_principal_92 : decode cX11_principal 92 = .ok (.getfield 109, 3) := by decide +kernel
theorem dX11_principal_95 : decode cX11_principal 95 = .ok (.if_icmp .ge 98, 3) := by decide +kernel
theorem dX11_principal_98 : decode cX11_principal 98 = .ok (.iconst 0, 1) := by decide +kernel
theorem dX11_principal_99 : decode cX11_principal 99 = .ok (.istore 4, 2) := by decide +kernel
theorem dX11_principal_101 : decode cX11_principal 101 = .ok (.iload 4, 2) := by decide +kernel
theorem dX11_principal_103 : decode cX11_principal 103 = .ok (.aload_n 0, 1) := by decide +kernel
theorem dX11_principal_104 : decode cX11_principal 104 = .ok (.getfield 109, 3) := by decide +kernel
theorem dX11_principal_107 : decode cX11_principal 107 = .ok (.if_icmp .ge 80, 3) := by decide +kernel
theorem dX11_principal_110 : decode cX11_principal 110 = .ok (.aload_n 0, 1) := by decide +kernel
theorem dX11_principal_111 : decode cX11_principal 111 = .ok (.aload_n 0, 1) := by decide +kernel
theorem dX11_principal_112 : decode cX11_principal 112 = .ok (.aload_n 0, 1) := by decide +kernel
theorem dX11_principal_113 : decode cX11_principal 113 = .ok (.getfield 92, 3) := by decide +kernel
theorem dX11_principal_116 : decode cX11_principal 116 = .ok (.aload_n 0, 1) := by decide +kernel
theorem dX11_principal_117 : decode cX11_principal 117 = .ok (.getfield 68, 3) := by decide +kernel
theorem dX11_principal_120 : decode cX11_principal 120 = .ok (.iload_n 3, 1) := by decide +kernel
theorem dX11_principal_121 : decode cX11_principal 121 = .ok (.iaload, 1) := by decide +kernel
theorem dX11_principal_122 : decode cX11_principal 122 = .ok (.aload_n 0, 1) := by decide +kernel
theorem dX11_principal_123 : decode cX11_principal 123 = .ok (.getfield 71, 3) := by decide +kernel
theorem dX11_principal_126 : decode cX11_principal 126 = .ok (.iload 4, 2) := by decide +kernel
theorem dX11_principal_128 : decode cX11_principal 128 = .ok (.iaload, 1) := by decide +kernel
theorem dX11_principal_129 : decode cX11_principal 129 = .ok (.invokevirtual 123, 3) := by decide +kernel
theorem dX11_principal_132 : decode cX11_principal 132 = .ok (.aload_n 0, 1) := by decide +kernel
theorem dX11_principal_133 : decode cX11_principal 133 = .ok (.getfield 25, 3) := by decide +kernel
theorem dX11_principal_136 : decode cX11_principal 136 = .ok (.invokevirtual 115, 3) := by decide +kernel
theorem dX11_principal_139 : decode cX11_principal 139 = .ok (.iconst 0, 1) := by decide +kernel
theorem dX11_principal_140 : decode cX11_principal 140 = .ok (.istore 5, 2) := by decide +kernel
theorem dX11_principal_142 : decode cX11_principal 142 = .ok (.iload 5, 2) := by decide +kernel
theorem dX11_principal_144 : decode cX11_principal 144 = .ok (.aload_n 0, 1) := by decide +kernel
theorem dX11_principal_145 : decode cX11_principal 145 = .ok (.getfield 109, 3) := by decide +kernel
theorem dX11_principal_148 : decode cX11_principal 148 = .ok (.if_icmp .ge 33, 3) := by decide +kernel
theorem dX11_principal_151 : decode cX11_principal 151 = .ok (.aload_n 0, 1) := by decide +kernel
theorem dX11_principal_152 : decode cX11_principal 152 = .ok (.getfield 83, 3) := by decide +kernel
theorem dX11_principal_155 : decode cX11_principal 155 = .ok (.bipush 25, 2) := by decide +kernel
theorem dX11_principal_157 : decode cX11_principal 157 = .ok (.iload_n 3, 1) := by decide +kernel
theorem dX11_principal_158 : decode cX11_principal 158 = .ok (.imul, 1) := by decide +kernel
theorem dX11_principal_159 : decode cX11_principal 159 = .ok (.iconst 5, 1) := by decide +kernel
theorem dX11_principal_160 : decode cX11_principal 160 = .ok (.iload 4, 2) := by decide +kernel
theorem dX11_principal_162 : decode cX11_principal 162 = .ok (.imul, 1) := by decide +kernel
theorem dX11_principal_163 : decode cX11_principal 163 = .ok (.iadd, 1) := by decide +kernel
theorem dX11_principal_164 : decode cX11_principal 164 = .ok (.iload 5, 2) := by decide +kernel
theorem dX11_principal_166 : decode cX11_principal 166 = .ok (.iadd, 1) := by decide +kernel
theorem dX11_principal_167 : decode cX11_principal 167 = .ok (.aload_n 0, 1) := by decide +kernel
theorem dX11_principal_168 : decode cX11_principal 168 = .ok (.getfield 25, 3) := by decide +kernel
theorem dX11_principal_171 : decode cX11_principal 171 = .ok (.iload 5, 2) := by decide +kernel
theorem dX11_principal_173 : decode cX11_principal 173 = .ok (.iaload, 1) := by decide +kernel
theorem dX11_principal_174 : decode cX11_principal 174 = .ok (.iastore, 1) := by decide +kernel
theorem dX11_principal_175 : decode cX11_principal 175 = .ok (.iinc 5 1, 3) := by decide +kernel
theorem dX11_principal_178 : decode cX11_principal 178 = .ok (.goto (-36), 3) := by decide +kernel
theorem dX11_principal_181 : decode cX11_principal 181 = .ok (.iinc 4 1, 3) := by decide +kernel
theorem dX11_principal_184 : decode cX11_principal 184 = .ok (.goto (-83), 3) := by decide +kernel
theorem dX11_principal_187 : decode cX11_principal 187 = .ok (.iinc 3 1, 3) := by decide +kernel
theorem dX11_principal_190 : decode cX11_principal 190 = .ok (.goto (-100), 3) := by decide +kernel
theorem dX11_principal_193 : decode cX11_principal 193 = .ok (.return_, 1) := by decide +kernel
theorem dX11_isotopes_0 : decode cX11_isotopes 0 = .ok (.aload_n 0, 1) := by decide +kernel
theorem dX11_isotopes_1 : decode cX11_isotopes 1 = .ok (.iload_n 1, 1) := by decide +kernel
theorem dX11_isotopes_2 : decode cX11_isotopes 2 = .ok (.iload_n 2, 1) := by decide +kernel
theorem dX11_isotopes_3 : decode cX11_isotopes 3 = .ok (.invokevirtual 321, 3) := by decide +kernel
theorem dX11_isotopes_6 : decode cX11_isotopes 6 = .ok (.ifCond .eq 13, 3) := by decide +kernel
theorem dX11_isotopes_9 : decode cX11_isotopes 9 = .ok (.aload_n 0, 1) := by decide +kernel
theorem dX11_isotopes_10 : decode cX11_isotopes 10 = .ok (.iload_n 1, 1) := by decide +kernel
theorem dX11_isotopes_11 : decode cX11_isotopes 11 = .ok (.invokevirtual 309, 3) := by decide +kernel
theorem dX11_isotopes_14 : decode cX11_isotopes 14 = .ok (.bipush 16, 2) := by decide +kernel
theorem dX11_isotopes_16 : decode cX11_isotopes 16 = .ok (.if_icmp .le 5, 3) := by decide +kernel
theorem dX11_isotopes_19 : decode cX11_isotopes 19 = .ok (.iconst (-1), 1) := by decide +kernel
theorem dX11_isotopes_20 : decode cX11_isotopes 20 = .ok (.ireturn, 1) := by decide +kernel
theorem dX11_isotopes_21 : decode cX11_isotopes 21 = .ok (.aload_n 0, 1) := by decide +kernel
theorem dX11_isotopes_22 : decode cX11_isotopes 22 = .ok (.iload_n 2, 1) := by decide +kernel
theorem dX11_isotopes_23 : decode cX11_isotopes 23 = .ok (.invokevirtual 147, 3) := by decide +kernel
theorem dX11_isotopes_26 : decode cX11_isotopes 26 = .ok (.aload_n 0, 1) := by decide +kernel
theorem dX11_isotopes_27 : decode cX11_isotopes 27 = .ok (.invokevirtual 275, 3) := by decide +kernel
theorem dX11_isotopes_30 : decode cX11_isotopes 30 = .ok (.iconst (-1), 1) := by decide +kernel
theorem dX11_isotopes_31 : decode cX11_isotopes 31 = .ok (.if_icmp .eq 5, 3) := by decide +kernel
theorem dX11_isotopes_34 : decode cX11_isotopes 34 = .ok (.iconst (-1), 1) := by decide +kernel
theorem dX11_isotopes_35 : decode cX11_isotopes 35 = .ok (.ireturn, 1) := by decide +kernel
theorem dX11_isotopes_36 : decode cX11_isotopes 36 = .ok (.iconst 0, 1) := by decide +kernel
theorem dX11_isotopes_37 : decode cX11_isotopes 37 = .ok (.istore_n 3, 1) := by decide +kernel
theorem dX11_isotopes_38 : decode cX11_isotopes 38 = .ok (.iload_n 3, 1) := by decide +kernel
theorem dX11_isotopes_39 : decode cX11_isotopes 39 = .ok (.bipush 125, 2) := by decide +kernel
theorem dX11_isotopes_41 : decode cX11_isotopes 41 = .ok (.if_icmp .ge 21, 3) := by decide +kernel
theorem dX11_isotopes_44 : decode cX11_isotopes 44 = .ok (.aload_n 0, 1) := by decide +kernel
theorem dX11_isotopes_45 : decode cX11_isotopes 45 = .ok (.getfield 92, 3) := by decide +kernel
theorem dX11_isotopes_48 : decode cX11_isotopes 48 = .ok (.iload_n 3, 1) := by decide +kernel
theorem dX11_isotopes_49 : decode cX11_isotopes 49 = .ok (.aload_n 0, 1) := by decide +kernel
theorem dX11_isotopes_50 : decode cX11_isotopes 50 = .ok (.getfield 16, 3) := by decide +kernel
theorem dX11_isotopes_53 : decode cX11_isotopes 53 = .ok (.iload_n 3, 1) := by decide +kernel
theorem dX11_isotopes_54 : decode cX11_isotopes 54 = .ok (.iaload, 1) := by decide +kernel
theorem dX11_isotopes_55 : decode cX11_isotopes 55 = .ok (.iastore, 1) := by decide +kernel
theorem dX11_isotopes_56 : decode cX11_isotopes 56 = .ok (.iinc 3 1, 3) := by decide +kernel
theorem dX11_isotopes_59 : decode cX11_isotopes 59 = .ok (.goto (-21), 3) := by decide +kernel
theorem dX11_isotopes_62 : decode cX11_isotopes 62 = .ok (.aload_n 0, 1) := by decide +kernel
theorem dX11_isotopes_63 : decode cX11_isotopes 63 = .ok (.iload_n 1, 1) := by decide +kernel
theorem dX11_isotopes_64 : decode cX11_isotopes 64 = .ok (.invokevirtual 147, 3) := by decide +kernel
theorem dX11_isotopes_67 : decode cX11_isotopes 67 = .ok (.aload_n 0, 1) := by decide +kernel
theorem dX11_isotopes_68 : decode cX11_isotopes 68 = .ok (.invokevirtual 275, 3) := by decide +kernel
theorem dX11_isotopes_71 : decode cX11_isotopes 71 = .ok (.iconst (-1), 1) := by decide +kernel
theorem dX11_isotopes_72 : decode cX11_isotopes 72 = .ok (.if_icmp .ne 11, 3) := by decide +kernel
theorem dX11_isotopes_75 : decode cX11_isotopes 75 = .ok (.aload_n 0, 1) := by decide +kernel
theorem dX11_isotopes_76 : decode cX11_isotopes 76 = .ok (.invokevirtual 282, 3) := by decide +kernel
theorem dX11_isotopes_79 : decode cX11_isotopes 79 = .ok (.iconst 1, 1) := by decide +kernel
theorem dX11_isotopes_80 : decode cX11_isotopes 80 = .ok (.if_icmp .eq 5, 3) := by decide +kernel
theorem dX11_isotopes_83 : decode cX11_isotopes 83 = .ok (.iconst (-1), 1) := by decide +kernel
theorem dX11_isotopes_84 : decode cX11_isotopes 84 = .ok (.ireturn, 1) := by decide +kernel
theorem dX11_isotopes_85 : decode cX11_isotopes 85 = .ok (.iconst 0, 1) := by decide +kernel
theorem dX11_isotopes_86 : decode cX11_isotopes 86 = .ok (.istore_n 3, 1) := by decide +kernel
theorem dX11_isotopes_87 : decode cX11_isotopes 87 = .ok (.iconst 1, 1) := by decide +kernel
theorem dX11_isotopes_88 : decode cX11_isotopes 88 = .ok (.istore 4, 2) := by decide +kernel
theorem dX11_isotopes_90 : decode cX11_isotopes 90 = .ok (.iload 4, 2) := by decide +kernel
theorem dX11_isotopes_92 : decode cX11_isotopes 92 = .ok (.aload_n 0, 1) := by decide +kernel
theorem dX11_isotopes_93 : decode cX11_isotopes 93 = .ok (.getfield 112, 3) := by decide +kernel
theorem dX11_isotopes_96 : decode cX11_isotopes 96 = .ok (.if_icmp .ge 59, 3) := by decide +kernel
theorem dX11_isotopes_99 : decode cX11_isotopes 99 = .ok (.iconst 1, 1) := by decide +kernel
theorem dX11_isotopes_100 : decode cX11_isotopes 100 = .ok (.istore 5, 2) := by decide +kernel
theorem dX11_isotopes_102 : decode cX11_isotopes 102 = .ok (.iload 5, 2) := by decide +kernel
theorem dX11_isotopes_104 : decode cX11_isotopes 104 = .ok (.aload_n 0, 1) := by decide +kernel
theorem dX11_isotopes_105 : decode cX11_isotopes 105 = .ok (.getfield 112, 3) := by decide +kernel
theorem dX11_isotopes_108 : decode cX11_isotopes 108 = .ok (.if_icmp .ge 41, 3) := by decide +kernel
theorem dX11_isotopes_111 : decode cX11_isotopes 111 = .ok (.aload_n 0, 1) := by decide +kernel
theorem dX11_isotopes_112 : decode cX11_isotopes 112 = .ok (.iload 4, 2) := by decide +kernel
theorem dX11_isotopes_114 : decode cX11_isotopes 114 = .ok (.iload 5, 2) := by decide +kernel
theorem dX11_isotopes_116 : decode cX11_isotopes 116 = .ok (.invokevirtual 344, 3) := by decide +kernel
theorem dX11_isotopes_119 : decode cX11_isotopes 119 = .ok (.aload_n 0, 1) := by decide +kernel
theorem dX11_isotopes_120 : decode cX11_isotopes 120 = .ok (.aload_n 0, 1) := by decide +kernel
theorem dX11_isotopes_121 : decode cX11_isotopes 121 = .ok (.aload_n 0, 1) := by decide +kernel
theorem dX11_isotopes_122 : decode cX11_isotopes 122 = .ok (.getfield 92, 3) := by decide +kernel
theorem dX11_isotopes_125 : decode cX11_isotopes 125 = .ok (.iload 4, 2) := by decide +kernel
theorem dX11_isotopes_127 : decode cX11_isotopes 127 = .ok (.iload 5, 2) := by decide +kernel
theorem dX11_isotopes_129 : decode cX11_isotopes 129 = .ok (.invokevirtual 123, 3) := by decide +kernel
theorem dX11_isotopes_132 : decode cX11_isotopes 132 = .ok (.putfield 89, 3) := by decide +kernel
theorem dX11_isotopes_135 : decode cX11_isotopes 135 = .ok (.iload_n 3, 1) := by decide +kernel
theorem dX11_isotopes_136 : decode cX11_isotopes 136 = .ok (.aload_n 0, 1) := by decide +kernel
theorem dX11_isotopes_137 : decode cX11_isotopes 137 = .ok (.iconst 0, 1) := by decide +kernel
theorem dX11_isotopes_138 : decode cX11_isotopes 138 = .ok (.invokevirtual 341, 3) := by decide +kernel
theorem dX11_isotopes_141 : decode cX11_isotopes 141 = .ok (.iadd, 1) := by decide +kernel
theorem dX11_isotopes_142 : decode cX11_isotopes 142 = .ok (.istore_n 3, 1) := by decide +kernel
theorem dX11_isotopes_143 : decode cX11_isotopes 143 = .ok (.iinc 5 1, 3) := by decide +kernel
theorem dX11_isotopes_146 : decode cX11_isotopes 146 = .ok (.goto (-44), 3) := by decide +kernel
theorem dX11_isotopes_149 : decode cX11_isotopes 149 = .ok (.iinc 4 1, 3) := by decide +kernel
theorem dX11_isotopes_152 : decode cX11_isotopes 152 = .ok (.goto (-62), 3) := by decide +kernel
theorem dX11_isotopes_155 : decode cX11_isotopes 155 = .ok (.aload_n 0, 1) := by decide +kernel
theorem dX11_isotopes_156 : decode cX11_isotopes 156 = .ok (.iconst (-1), 1) := by decide +kernel
theorem dX11_isotopes_157 : decode cX11_isotopes 157 = .ok (.putfield 89, 3) := by decide +kernel
theorem dX11_isotopes_160 : decode cX11_isotopes 160 = .ok (.iload_n 3, 1) := by decide +kernel
theorem dX11_isotopes_161 : decode cX11_isotopes 161 = .ok (.ireturn, 1) := by decide +kernel
theorem dX11_isOn_0 : decode cX11_isOn 0 = .ok (.aload_n 0, 1) := by decide +kernel
theorem dX11_isOn_1 : decode cX11_isOn 1 = .ok (.getfield 112, 3) := by decide +kernel
theorem dX11_isOn_4 : decode cX11_isOn 4 = .ok (.aload_n 0, 1) := by decide +kernel
theorem dX11_isOn_5 : decode cX11_isOn 5 = .ok (.getfield 112, 3) := by decide +kernel
theorem dX11_isOn_8 : decode cX11_isOn 8 = .ok (.imul, 1) := by decide +kernel
theorem dX11_isOn_9 : decode cX11_isOn 9 = .ok (.aload_n 0, 1) := by decide +kernel
theorem dX11_isOn_10 : decode cX11_isOn 10 = .ok (.getfield 112, 3) := by decide +kernel
theorem dX11_isOn_13 : decode cX11_isOn 13 = .ok (.iadd, 1) := by decide +kernel
theorem dX11_isOn_14 : decode cX11_isOn 14 = .ok (.istore_n 3, 1) := by decide +kernel
theorem dX11_isOn_15 : decode cX11_isOn 15 = .ok (.iload_n 1, 1) := by decide +kernel
theorem dX11_isOn_16 : decode cX11_isOn 16 = .ok (.iload_n 3, 1) := by decide +kernel
theorem dX11_isOn_17 : decode cX11_isOn 17 = .ok (.if_icmp .ne 22, 3) := by decide +kernel
theorem dX11_isOn_20 : decode cX11_isOn 20 = .ok (.iload_n 2, 1) := by decide +kernel
theorem dX11_isOn_21 : decode cX11_isOn 21 = .ok (.aload_n 0, 1) := by decide +kernel
theorem dX11_isOn_22 : decode cX11_isOn 22 = .ok (.getfield 112, 3) := by decide +kernel
theorem dX11_isOn_25 : decode cX11_isOn 25 = .ok (.aload_n 0, 1) := by decide +kernel
theorem dX11_isOn_26 : decode cX11_isOn 26 = .ok (.getfield 112, 3) := by decide +kernel
theorem dX11_isOn_29 : decode cX11_isOn 29 = .ok (.imul, 1) := by decide +kernel
theorem dX11_isOn_30 : decode cX11_isOn 30 = .ok (.if_icmp .lt 7, 3) := by decide +kernel
theorem dX11_isOn_33 : decode cX11_isOn 33 = .ok (.iconst 1, 1) := by decide +kernel
theorem dX11_isOn_34 : decode cX11_isOn 34 = .ok (.goto 4, 3) := by decide +kernel
theorem dX11_isOn_37 : decode cX11_isOn 37 = .ok (.iconst 0, 1) := by decide +kernel
theorem dX11_isOn_38 : decode cX11_isOn 38 = .ok (.ireturn, 1) := by decide +kernel
theorem dX11_isOn_39 : decode cX11_isOn 39 = .ok (.iload_n 1, 1) := by decide +kernel
theorem dX11_isOn_40 : decode cX11_isOn 40 = .ok (.aload_n 0, 1) := by decide +kernel
theorem dX11_isOn_41 : decode cX11_isOn 41 = .ok (.getfield 112, 3) := by decide +kernel
theorem dX11_isOn_44 : decode cX11_isOn 44 = .ok (.aload_n 0, 1) := by decide +kernel
theorem dX11_isOn_45 : decode cX11_isOn 45 = .ok (.getfield 112, 3) := by decide +kernel
theorem dX11_isOn_48 : decode cX11_isOn 48 = .ok (.imul, 1) := by decide +kernel
theorem dX11_isOn_49 : decode cX11_isOn 49 = .ok (.if_icmp .lt 47, 3) := by decide +kernel
theorem dX11_isOn_52 : decode cX11_isOn 52 = .ok (.iload_n 2, 1) := by decide +kernel
theorem dX11_isOn_53 : decode cX11_isOn 53 = .ok (.iload_n 3, 1) := by decide +kernel
theorem dX11_isOn_54 : decode cX11_isOn 54 = .ok (.if_icmp .eq 36, 3) := by decide +kernel
theorem dX11_isOn_57 : decode cX11_isOn 57 = .ok (.iload_n 2, 1) := by decide +kernel
theorem dX11_isOn_58 : decode cX11_isOn 58 = .ok (.aload_n 0, 1) := by decide +kernel
theorem dX11_isOn_59 : decode cX11_isOn 59 = .ok (.getfield 112, 3) := by decide +kernel
theorem dX11_isOn_62 : decode cX11_isOn 62 = .ok (.aload_n 0, 1) := by decide +kernel
theorem dX11_isOn_63 : decode cX11_isOn 63 = .ok (.getfield 112, 3) := by decide +kernel
theorem dX11_isOn_66 : decode cX11_isOn 66 = .ok (.imul, 1) := by decide +kernel
theorem dX11_isOn_67 : decode cX11_isOn 67 = .ok (.if_icmp .ge 27, 3) := by decide +kernel
theorem dX11_isOn_70 : decode cX11_isOn 70 = .ok (.iload_n 2, 1) := by decide +kernel
theorem dX11_isOn_71 : decode cX11_isOn 71 = .ok (.aload_n 0, 1) := by decide +kernel
theorem dX11_isOn_72 : decode cX11_isOn 72 = .ok (.getfield 112, 3) := by decide +kernel
theorem dX11_isOn_75 : decode cX11_isOn 75 = .ok (.idiv, 1) := by decide +kernel
theorem dX11_isOn_76 : decode cX11_isOn 76 = .ok (.iload_n 1, 1) := by decide +kernel
theorem dX11_isOn_77 : decode cX11_isOn 77 = .ok (.aload_n 0, 1) := by decide +kernel
theorem dX11_isOn_78 : decode cX11_isOn 78 = .ok (.getfield 112, 3) := by decide +kernel
theorem dX11_isOn_81 : decode cX11_isOn 81 = .ok (.aload_n 0, 1) := by decide +kernel
theorem dX11_isOn_82 : decode cX11_isOn 82 = .ok (.getfield 112, 3) := by decide +kernel
theorem dX11_isOn_85 : decode cX11_isOn 85 = .ok (.imul, 1) := by decide +kernel
theorem dX11_isOn_86 : decode cX11_isOn 86 = .ok (.isub, 1) := by decide +kernel
theorem dX11_isOn_87 : decode cX11_isOn 87 = .ok (.if_icmp .ne 7, 3) := by decide +kernel
theorem dX11_isOn_90 : decode cX11_isOn 90 = .ok (.iconst 1, 1) := by decide +kernel
theorem dX11_isOn_91 : decode cX11_isOn 91 = .ok (.goto 4, 3) := by decide +kernel
theorem dX11_isOn_94 : decode cX11_isOn 94 = .ok (.iconst 0, 1) := by decide +kernel
theorem dX11_isOn_95 : decode cX11_isOn 95 = .ok (.ireturn, 1) := by decide +kernel
theorem dX11_isOn_96 : decode cX11_isOn 96 = .ok (.iload_n 2, 1) := by decide +kernel
theorem dX11_isOn_97 : decode cX11_isOn 97 = .ok (.iload_n 3, 1) := by decide +kernel
theorem dX11_isOn_98 : decode cX11_isOn 98 = .ok (.if_icmp .ne 5, 3) := by decide +kernel
theorem dX11_isOn_101 : decode cX11_isOn 101 = .ok (.iconst 0, 1) := by decide +kernel
theorem dX11_isOn_102 : decode cX11_isOn 102 = .ok (.ireturn, 1) := by decide +kernel
theorem dX11_isOn_103 : decode cX11_isOn 103 = .ok (.iload_n 2, 1) := by decide +kernel
theorem dX11_isOn_104 : decode cX11_isOn 104 = .ok (.aload_n 0, 1) := by decide +kernel
theorem dX11_isOn_105 : decode cX11_isOn 105 = .ok (.getfield 112, 3) := by decide +kernel
theorem dX11_isOn_108 : decode cX11_isOn 108 = .ok (.aload_n 0, 1) := by decide +kernel
theorem dX11_isOn_109 : decode cX11_isOn 109 = .ok (.getfield 112, 3) := by decide +kernel
theorem dX11_isOn_112 : decode cX11_isOn 112 = .ok (.imul, 1) := by decide +kernel
theorem dX11_isOn_113 : decode cX11_isOn 113 = .ok (.if_icmp .lt 29, 3) := by decide +kernel
theorem dX11_isOn_116 : decode cX11_isOn 116 = .ok (.iload_n 1, 1) := by decide +kernel
theorem dX11_isOn_117 : decode cX11_isOn 117 = .ok (.aload_n 0, 1) := by decide +kernel
theorem dX11_isOn_118 : decode cX11_isOn 118 = .ok (.getfield 112, 3) := by decide +kernel
theorem dX11_isOn_121 : decode cX11_isOn 121 = .ok (.idiv, 1) := by decide +kernel
theorem dX11_isOn_122 : decode cX11_isOn 122 = .ok (.iload_n 2, 1) := by decide +kernel
theorem dX11_isOn_123 : decode cX11_isOn 123 = .ok (.aload_n 0, 1) := by decide +kernel
theorem dX11_isOn_124 : decode cX11_isOn 124 = .ok (.getfield 112, 3) := by decide +kernel
theorem dX11_isOn_127 : decode cX11_isOn 127 = .ok (.aload_n 0, 1) := by decide +kernel
theorem dX11_isOn_128 : decode cX11_isOn 128 = .ok (.getfield 112, 3) := by decide +kernel
theorem dX11_isOn_131 : decode cX11_isOn 131 = .ok (.imul, 1) := by decide +kernel
theorem dX11_isOn_132 : decode cX11_isOn 132 = .ok (.isub, 1) := by decide +kernel
theorem dX11_isOn_133 : decode cX11_isOn 133 = .ok (.if_icmp .ne 7, 3) := by decide +kernel
theorem dX11_isOn_136 : decode cX11_isOn 136 = .ok (.iconst 1, 1) := by decide +kernel
theorem dX11_isOn_137 : decode cX11_isOn 137 = .ok (.goto 4, 3) := by decide +kernel
theorem dX11_isOn_140 : decode cX11_isOn 140 = .ok (.iconst 0, 1) := by decide +kernel
theorem dX11_isOn_141 : decode cX11_isOn 141 = .ok (.ireturn, 1) := by decide +kernel
theorem dX11_isOn_142 : decode cX11_isOn 142 = .ok (.iload_n 1, 1) := by decide +kernel
theorem dX11_isOn_143 : decode cX11_isOn 143 = .ok (.aload_n 0, 1) := by decide +kernel
theorem dX11_isOn_144 : decode cX11_isOn 144 = .ok (.getfield 112, 3) := by decide +kernel
theorem dX11_isOn_147 : decode cX11_isOn 147 = .ok (.irem, 1) := by decide +kernel
theorem dX11_isOn_148 : decode cX11_isOn 148 = .ok (.aload_n 0, 1) := by decide +kernel
theorem dX11_isOn_149 : decode cX11_isOn 149 = .ok (.aload_n 0, 1) := by decide +kernel
theorem dX11_isOn_150 : decode cX11_isOn 150 = .ok (.iload_n 2, 1) := by decide +kernel
theorem dX11_isOn_151 : decode cX11_isOn 151 = .ok (.aload_n 0, 1) := by decide +kernel
theorem dX11_isOn_152 : decode cX11_isOn 152 = .ok (.getfield 112, 3) := by decide +kernel
theorem dX11_isOn_155 : decode cX11_isOn 155 = .ok (.idiv, 1) := by decide +kernel
theorem dX11_isOn_156 : decode cX11_isOn 156 = .ok (.iload_n 1, 1) := by decide +kernel
theorem dX11_isOn_157 : decode cX11_isOn 157 = .ok (.aload_n 0, 1) := by decide +kernel
theorem dX11_isOn_158 : decode cX11_isOn 158 = .ok (.getfield 112, 3) := by decide +kernel
theorem dX11_isOn_161 : decode cX11_isOn 161 = .ok (.idiv, 1) := by decide +kernel
theorem dX11_isOn_162 : decode cX11_isOn 162 = .ok (.invokevirtual 266, 3) := by decide +kernel
theorem dX11_isOn_165 : decode cX11_isOn 165 = .ok (.iconst 1, 1) := by decide +kernel
theorem dX11_isOn_166 : decode cX11_isOn 166 = .ok (.iload_n 2, 1) := by decide +kernel
theorem dX11_isOn_167 : decode cX11_isOn 167 = .ok (.aload_n 0, 1) := by decide +kernel
theorem dX11_isOn_168 : decode cX11_isOn 168 = .ok (.getfield 112, 3) := by decide +kernel
theorem dX11_isOn_171 : decode cX11_isOn 171 = .ok (.irem, 1) := by decide +kernel
theorem dX11_isOn_172 : decode cX11_isOn 172 = .ok (.invokevirtual 127, 3) := by decide +kernel
theorem dX11_isOn_175 : decode cX11_isOn 175 = .ok (.if_icmp .ne 7, 3) := by decide +kernel
theorem dX11_isOn_178 : decode cX11_isOn 178 = .ok (.iconst 1, 1) := by decide +kernel
theorem dX11_isOn_179 : decode cX11_isOn 179 = .ok (.goto 4, 3) := by decide +kernel
theorem dX11_isOn_182 : decode cX11_isOn 182 = .ok (.iconst 0, 1) := by decide +kernel
theorem dX11_isOn_183 : decode cX11_isOn 183 = .ok (.ireturn, 1) := by decide +kernel
theorem dX11_lineBy_0 : decode cX11_lineBy 0 = .ok (.aload_n 0, 1) := by decide +kernel
theorem dX11_lineBy_1 : decode cX11_lineBy 1 = .ok (.getfield 112, 3) := by decide +kernel
theorem dX11_lineBy_4 : decode cX11_lineBy 4 = .ok (.iload_n 1, 1) := by decide +kernel
theorem dX11_lineBy_5 : decode cX11_lineBy 5 = .ok (.imul, 1) := by decide +kernel
theorem dX11_lineBy_6 : decode cX11_lineBy 6 = .ok (.aload_n 0, 1) := by decide +kernel
theorem dX11_lineBy_7 : decode cX11_lineBy 7 = .ok (.iload_n 2, 1) := by decide +kernel
theorem dX11_lineBy_8 : decode cX11_lineBy 8 = .ok (.aload_n 0, 1) := by decide +kernel
theorem dX11_lineBy_9 : decode cX11_lineBy 9 = .ok (.getfield 112, 3) := by decide +kernel
theorem dX11_lineBy_12 : decode cX11_lineBy 12 = .ok (.irem, 1) := by decide +kernel
theorem dX11_lineBy_13 : decode cX11_lineBy 13 = .ok (.aload_n 0, 1) := by decide +kernel
theorem dX11_lineBy_14 : decode cX11_lineBy 14 = .ok (.iload_n 1, 1) := by decide +kernel
theorem dX11_lineBy_15 : decode cX11_lineBy 15 = .ok (.iload_n 2, 1) := by decide +kernel
theorem dX11_lineBy_16 : decode cX11_lineBy 16 = .ok (.aload_n 0, 1) := by decide +kernel
theorem dX11_lineBy_17 : decode cX11_lineBy 17 = .ok (.getfield 112, 3) := by decide +kernel
theorem dX11_lineBy_20 : decode cX11_lineBy 20 = .ok (.idiv, 1) := by decide +kernel
theorem dX11_lineBy_21 : decode cX11_lineBy 21 = .ok (.invokevirtual 266, 3) := by decide +kernel
theorem dX11_lineBy_24 : decode cX11_lineBy 24 = .ok (.invokevirtual 229, 3) := by decide +kernel
theorem dX11_lineBy_27 : decode cX11_lineBy 27 = .ok (.iadd, 1) := by decide +kernel
theorem dX11_lineBy_28 : decode cX11_lineBy 28 = .ok (.ireturn, 1) := by decide +kernel
theorem dX11_join_0 : decode cX11_join 0 = .ok (.aload_n 0, 1) := by decide +kernel
theorem dX11_join_1 : decode cX11_join 1 = .ok (.getfield 112, 3) := by decide +kernel
theorem dX11_join_4 : decode cX11_join 4 = .ok (.aload_n 0, 1) := by decide +kernel
theorem dX11_join_5 : decode cX11_join 5 = .ok (.getfield 112, 3) := by decide +kernel
theorem dX11_join_8 : decode cX11_join 8 = .ok (.imul, 1) := by decide +kernel
theorem dX11_join_9 : decode cX11_join 9 = .ok (.istore_n 3, 1) := by decide +kernel
theorem dX11_join_10 : decode cX11_join 10 = .ok (.iload_n 1, 1) := by decide +kernel
theorem dX11_join_11 : decode cX11_join 11 = .ok (.iload_n 3, 1) := by decide +kernel
theorem dX11_join_12 : decode cX11_join 12 = .ok (.if_icmp .lt 15, 3) := by decide +kernel
theorem dX11_join_15 : decode cX11_join 15 = .ok (.iload_n 2, 1) := by decide +kernel
theorem dX11_join_16 : decode cX11_join 16 = .ok (.iload_n 3, 1) := by decide +kernel
theorem dX11_join_17 : decode cX11_join 17 = .ok (.if_icmp .lt 10, 3) := by decide +kernel
theorem dX11_join_20 : decode cX11_join 20 = .ok (.iload_n 3, 1) := by decide +kernel
theorem dX11_join_21 : decode cX11_join 21 = .ok (.aload_n 0, 1) := by decide +kernel
theorem dX11_join_22 : decode cX11_join 22 = .ok (.getfield 112, 3) := by decide +kernel
theorem dX11_join_25 : decode cX11_join 25 = .ok (.iadd, 1) := by decide +kernel
theorem dX11_join_26 : decode cX11_join 26 = .ok (.ireturn, 1) := by decide +kernel
theorem dX11_join_27 : decode cX11_join 27 = .ok (.iload_n 1, 1) := by decide +kernel
theorem dX11_join_28 : decode cX11_join 28 = .ok (.iload_n 3, 1) := by decide +kernel
theorem dX11_join_29 : decode cX11_join 29 = .ok (.if_icmp .lt 10, 3) := by decide +kernel
theorem dX11_join_32 : decode cX11_join 32 = .ok (.aload_n 0, 1) := by decide +kernel
theorem dX11_join_33 : decode cX11_join 33 = .ok (.iload_n 2, 1) := by decide +kernel
theorem dX11_join_34 : decode cX11_join 34 = .ok (.iload_n 1, 1) := by decide +kernel
theorem dX11_join_35 : decode cX11_join 35 = .ok (.invokevirtual 347, 3) := by decide +kernel
theorem dX11_join_38 : decode cX11_join 38 = .ok (.ireturn, 1) := by decide +kernel
theorem dX11_join_39 : decode cX11_join 39 = .ok (.iload_n 2, 1) := by decide +kernel
theorem dX11_join_40 : decode cX11_join 40 = .ok (.iload_n 3, 1) := by decide +kernel
theorem dX11_join_41 : decode cX11_join 41 = .ok (.aload_n 0, 1) := by decide +kernel
theorem dX11_join_42 : decode cX11_join 42 = .ok (.getfield 112, 3) := by decide +kernel
theorem dX11_join_45 : decode cX11_join 45 = .ok (.iadd, 1) := by decide +kernel
theorem dX11_join_46 : decode cX11_join 46 = .ok (.if_icmp .ne 12, 3) := by decide +kernel
theorem dX11_join_49 : decode cX11_join 49 = .ok (.iload_n 3, 1) := by decide +kernel
theorem dX11_join_50 : decode cX11_join 50 = .ok (.iload_n 1, 1) := by decide +kernel
theorem dX11_join_51 : decode cX11_join 51 = .ok (.aload_n 0, 1) := by decide +kernel
theorem dX11_join_52 : decode cX11_join 52 = .ok (.getfield 112, 3) := by decide +kernel
theorem dX11_join_55 : decode cX11_join 55 = .ok (.idiv, 1) := by decide +kernel
theorem dX11_join_56 : decode cX11_join 56 = .ok (.iadd, 1) := by decide +kernel
theorem dX11_join_57 : decode cX11_join 57 = .ok (.ireturn, 1) := by decide +kernel
theorem dX11_join_58 : decode cX11_join 58 = .ok (.iload_n 2, 1) := by decide +kernel
theorem dX11_join_59 : decode cX11_join 59 = .ok (.iload_n 3, 1) := by decide +kernel
theorem dX11_join_60 : decode cX11_join 60 = .ok (.if_icmp .lt 12, 3) := by decide +kernel
theorem dX11_join_63 : decode cX11_join 63 = .ok (.aload_n 0, 1) := by decide +kernel
theorem dX11_join_64 : decode cX11_join 64 = .ok (.iload_n 2, 1) := by decide +kernel
theorem dX11_join_65 : decode cX11_join 65 = .ok (.iload_n 3, 1) := by decide +kernel
theorem dX11_join_66 : decode cX11_join 66 = .ok (.isub, 1) := by decide +kernel
theorem dX11_join_67 : decode cX11_join 67 = .ok (.iload_n 1, 1) := by decide +kernel
theorem dX11_join_68 : decode cX11_join 68 = .ok (.invokevirtual 350, 3) := by decide +kernel
theorem dX11_join_71 : decode cX11_join 71 = .ok (.ireturn, 1) := by decide +kernel
theorem dX11_join_72 : decode cX11_join 72 = .ok (.iload_n 1, 1) := by decide +kernel
theorem dX11_join_73 : decode cX11_join 73 = .ok (.aload_n 0, 1) := by decide +kernel
theorem dX11_join_74 : decode cX11_join 74 = .ok (.getfield 112, 3) := by decide +kernel
theorem dX11_join_77 : decode cX11_join 77 = .ok (.idiv, 1) := by decide +kernel
theorem dX11_join_78 : decode cX11_join 78 = .ok (.iload_n 2, 1) := by decide +kernel
theorem dX11_join_79 : decode cX11_join 79 = .ok (.aload_n 0, 1) := by decide +kernel
theorem dX11_join_80 : decode cX11_join 80 = .ok (.getfield 112, 3) := by decide +kernel
theorem dX11_join_83 : decode cX11_join 83 = .ok (.idiv, 1) := by decide +kernel
theorem dX11_join_84 : decode cX11_join 84 = .ok (.if_icmp .ne 12, 3) := by decide +kernel
theorem dX11_join_87 : decode cX11_join 87 = .ok (.iload_n 3, 1) := by decide +kernel
theorem dX11_join_88 : decode cX11_join 88 = .ok (.iload_n 1, 1) := by decide +kernel
theorem dX11_join_89 : decode cX11_join 89 = .ok (.aload_n 0, 1) := by decide +kernel
theorem dX11_join_90 : decode cX11_join 90 = .ok (.getfield 112, 3) := by decide +kernel
theorem dX11_join_93 : decode cX11_join 93 = .ok (.idiv, 1) := by decide +kernel
theorem dX11_join_94 : decode cX11_join 94 = .ok (.iadd, 1) := by decide +kernel
theorem dX11_join_95 : decode cX11_join 95 = .ok (.ireturn, 1) := by decide +kernel
theorem dX11_join_96 : decode cX11_join 96 = .ok (.iconst 0, 1) := by decide +kernel
theorem dX11_join_97 : decode cX11_join 97 = .ok (.istore 4, 2) := by decide +kernel
theorem dX11_join_99 : decode cX11_join 99 = .ok (.iload 4, 2) := by decide +kernel
theorem dX11_join_101 : decode cX11_join 101 = .ok (.aload_n 0, 1) := by decide +kernel
theorem dX11_join_102 : decode cX11_join 102 = .ok (.getfield 112, 3) := by decide +kernel
theorem dX11_join_105 : decode cX11_join 105 = .ok (.if_icmp .ge 32, 3) := by decide +kernel
theorem dX11_join_108 : decode cX11_join 108 = .ok (.aload_n 0, 1) := by decide +kernel
theorem dX11_join_109 : decode cX11_join 109 = .ok (.iload_n 2, 1) := by decide +kernel
theorem dX11_join_110 : decode cX11_join 110 = .ok (.aload_n 0, 1) := by decide +kernel
theorem dX11_join_111 : decode cX11_join 111 = .ok (.iload 4, 2) := by decide +kernel
theorem dX11_join_113 : decode cX11_join 113 = .ok (.iload_n 1, 1) := by decide +kernel
theorem dX11_join_114 : decode cX11_join 114 = .ok (.invokevirtual 350, 3) := by decide +kernel
theorem dX11_join_117 : decode cX11_join 117 = .ok (.invokevirtual 353, 3) := by decide +kernel
theorem dX11_join_120 : decode cX11_join 120 = .ok (.ifCond .eq 11, 3) := by decide +kernel
theorem dX11_join_123 : decode cX11_join 123 = .ok (.aload_n 0, 1) := by decide +kernel
theorem dX11_join_124 : decode cX11_join 124 = .ok (.iload 4, 2) := by decide +kernel
theorem dX11_join_126 : decode cX11_join 126 = .ok (.iload_n 1, 1) := by decide +kernel
theorem dX11_join_127 : decode cX11_join 127 = .ok (.invokevirtual 350, 3) := by decide +kernel
theorem dX11_join_130 : decode cX11_join 130 = .ok (.ireturn, 1) := by decide +kernel
theorem dX11_join_131 : decode cX11_join 131 = .ok (.iinc 4 1, 3) := by decide +kernel
theorem dX11_join_134 : decode cX11_join 134 = .ok (.goto (-35), 3) := by decide +kernel
theorem dX11_join_137 : decode cX11_join 137 = .ok (.iconst (-1), 1) := by decide +kernel
theorem dX11_join_138 : decode cX11_join 138 = .ok (.ireturn, 1) := by decide +kernel
theorem dX11_meet_0 : decode cX11_meet 0 = .ok (.aload_n 0, 1) := by decide +kernel
theorem dX11_meet_1 : decode cX11_meet 1 = .ok (.getfield 112, 3) := by decide +kernel
theorem dX11_meet_4 : decode cX11_meet 4 = .ok (.aload_n 0, 1) := by decide +kernel
theorem dX11_meet_5 : decode cX11_meet 5 = .ok (.getfield 112, 3) := by decide +kernel
theorem dX11_meet_8 : decode cX11_meet 8 = .ok (.imul, 1) := by decide +kernel
theorem dX11_meet_9 : decode cX11_meet 9 = .ok (.istore_n 3, 1) := by decide +kernel
theorem dX11_meet_10 : decode cX11_meet 10 = .ok (.iload_n 1, 1) := by decide +kernel
theorem dX11_meet_11 : decode cX11_meet 11 = .ok (.iload_n 3, 1) := by decide +kernel
theorem dX11_meet_12 : decode cX11_meet 12 = .ok (.if_icmp .lt 15, 3) := by decide +kernel
theorem dX11_meet_15 : decode cX11_meet 15 = .ok (.iload_n 2, 1) := by decide +kernel
theorem dX11_meet_16 : decode cX11_meet 16 = .ok (.iload_n 3, 1) := by decide +kernel
theorem dX11_meet_17 : decode cX11_meet 17 = .ok (.if_icmp .lt 10, 3) := by decide +kernel
theorem dX11_meet_20 : decode cX11_meet 20 = .ok (.iload_n 3, 1) := by decide +kernel
theorem dX11_meet_21 : decode cX11_meet 21 = .ok (.aload_n 0, 1) := by decide +kernel
theorem dX11_meet_22 : decode cX11_meet 22 = .ok (.getfield 112, 3) := by decide +kernel
theorem dX11_meet_25 : decode cX11_meet 25 = .ok (.iadd, 1) := by decide +kernel
theorem dX11_meet_26 : decode cX11_meet 26 = .ok (.ireturn, 1) := by decide +kernel
theorem dX11_meet_27 : decode cX11_meet 27 = .ok (.iload_n 1, 1) := by decide +kernel
theorem dX11_meet_28 : decode cX11_meet 28 = .ok (.iload_n 3, 1) := by decide +kernel
theorem dX11_meet_29 : decode cX11_meet 29 = .ok (.if_icmp .lt 10, 3) := by decide +kernel
theorem dX11_meet_32 : decode cX11_meet 32 = .ok (.aload_n 0, 1) := by decide +kernel
theorem dX11_meet_33 : decode cX11_meet 33 = .ok (.iload_n 2, 1) := by decide +kernel
theorem dX11_meet_34 : decode cX11_meet 34 = .ok (.iload_n 1, 1) := by decide +kernel
theorem dX11_meet_35 : decode cX11_meet 35 = .ok (.invokevirtual 356, 3) := by decide +kernel
theorem dX11_meet_38 : decode cX11_meet 38 = .ok (.ireturn, 1) := by decide +kernel
theorem dX11_meet_39 : decode cX11_meet 39 = .ok (.iload_n 2, 1) := by decide +kernel
theorem dX11_meet_40 : decode cX11_meet 40 = .ok (.iload_n 3, 1) := by decide +kernel
theorem dX11_meet_41 : decode cX11_meet 41 = .ok (.aload_n 0, 1) := by decide +kernel
theorem dX11_meet_42 : decode cX11_meet 42 = .ok (.getfield 112, 3) := by decide +kernel
theorem dX11_meet_45 : decode cX11_meet 45 = .ok (.iadd, 1) := by decide +kernel
theorem dX11_meet_46 : decode cX11_meet 46 = .ok (.if_icmp .ne 12, 3) := by decide +kernel
theorem dX11_meet_49 : decode cX11_meet 49 = .ok (.iload_n 3, 1) := by decide +kernel
theorem dX11_meet_50 : decode cX11_meet 50 = .ok (.iload_n 1, 1) := by decide +kernel
theorem dX11_meet_51 : decode cX11_meet 51 = .ok (.aload_n 0, 1) := by decide +kernel
theorem dX11_meet_52 : decode cX11_meet 52 = .ok (.getfield 112, 3) := by decide +kernel
theorem dX11_meet_55 : decode cX11_meet 55 = .ok (.idiv, 1) := by decide +kernel
theorem dX11_meet_56 : decode cX11_meet 56 = .ok (.iadd, 1) := by decide +kernel
theorem dX11_meet_57 : decode cX11_meet 57 = .ok (.ireturn, 1) := by decide +kernel
theorem dX11_meet_58 : decode cX11_meet 58 = .ok (.iload_n 2, 1) := by decide +kernel
theorem dX11_meet_59 : decode cX11_meet 59 = .ok (.iload_n 3, 1) := by decide +kernel
theorem dX11_meet_60 : decode cX11_meet 60 = .ok (.if_icmp .lt 37, 3) := by decide +kernel
theorem dX11_meet_63 : decode cX11_meet 63 = .ok (.aload_n 0, 1) := by decide +kernel
theorem dX11_meet_64 : decode cX11_meet 64 = .ok (.getfield 112, 3) := by decide +kernel
theorem dX11_meet_67 : decode cX11_meet 67 = .ok (.iload_n 2, 1) := by decide +kernel
theorem dX11_meet_68 : decode cX11_meet 68 = .ok (.iload_n 3, 1) := by decide +kernel
theorem dX11_meet_69 : decode cX11_meet 69 = .ok (.isub, 1) := by decide +kernel
theorem dX11_meet_70 : decode cX11_meet 70 = .ok (.imul, 1) := by decide +kernel
theorem dX11_meet_71 : decode cX11_meet 71 = .ok (.aload_n 0, 1) := by decide +kernel
theorem dX11_meet_72 : decode cX11_meet 72 = .ok (.aload_n 0, 1) := by decide +kernel
theorem dX11_meet_73 : decode cX11_meet 73 = .ok (.iload_n 1, 1) := by decide +kernel
theorem dX11_meet_74 : decode cX11_meet 74 = .ok (.aload_n 0, 1) := by decide +kernel
theorem dX11_meet_75 : decode cX11_meet 75 = .ok (.getfield 112, 3) := by decide +kernel
theorem dX11_meet_78 : decode cX11_meet 78 = .ok (.idiv, 1) := by decide +kernel
theorem dX11_meet_79 : decode cX11_meet 79 = .ok (.iload_n 2, 1) := by decide +kernel
theorem dX11_meet_80 : decode cX11_meet 80 = .ok (.iload_n 3, 1) := by decide +kernel
theorem dX11_meet_81 : decode cX11_meet 81 = .ok (.isub, 1) := by decide +kernel
theorem dX11_meet_82 : decode cX11_meet 82 = .ok (.invokevirtual 266, 3) := by decide +kernel
theorem dX11_meet_85 : decode cX11_meet 85 = .ok (.iconst 1, 1) := by decide +kernel
theorem dX11_meet_86 : decode cX11_meet 86 = .ok (.iload_n 1, 1) := by decide +kernel
theorem dX11_meet_87 : decode cX11_meet 87 = .ok (.aload_n 0, 1) := by decide +kernel
theorem dX11_meet_88 : decode cX11_meet 88 = .ok (.getfield 112, 3) := by decide +kernel
theorem dX11_meet_91 : decode cX11_meet 91 = .ok (.irem, 1) := by decide +kernel
theorem dX11_meet_92 : decode cX11_meet 92 = .ok (.invokevirtual 127, 3) := by decide +kernel
theorem dX11_meet_95 : decode cX11_meet 95 = .ok (.iadd, 1) := by decide +kernel
theorem dX11_meet_96 : decode cX11_meet 96 = .ok (.ireturn, 1) := by decide +kernel
theorem dX11_meet_97 : decode cX11_meet 97 = .ok (.iload_n 1, 1) := by decide +kernel
theorem dX11_meet_98 : decode cX11_meet 98 = .ok (.aload_n 0, 1) := by decide +kernel
theorem dX11_meet_99 : decode cX11_meet 99 = .ok (.getfield 112, 3) := by decide +kernel
theorem dX11_meet_102 : decode cX11_meet 102 = .ok (.idiv, 1) := by decide +kernel
theorem dX11_meet_103 : decode cX11_meet 103 = .ok (.iload_n 2, 1) := by decide +kernel
theorem dX11_meet_104 : decode cX11_meet 104 = .ok (.aload_n 0, 1) := by decide +kernel
theorem dX11_meet_105 : decode cX11_meet 105 = .ok (.getfield 112, 3) := by decide +kernel
theorem dX11_meet_108 : decode cX11_meet 108 = .ok (.idiv, 1) := by decide +kernel
theorem dX11_meet_109 : decode cX11_meet 109 = .ok (.if_icmp .ne 12, 3) := by decide +kernel
theorem dX11_meet_112 : decode cX11_meet 112 = .ok (.iload_n 3, 1) := by decide +kernel
theorem dX11_meet_113 : decode cX11_meet 113 = .ok (.iload_n 1, 1) := by decide +kernel
theorem dX11_meet_114 : decode cX11_meet 114 = .ok (.aload_n 0, 1) := by decide +kernel
theorem dX11_meet_115 : decode cX11_meet 115 = .ok (.getfield 112, 3) := by decide +kernel
theorem dX11_meet_118 : decode cX11_meet 118 = .ok (.idiv, 1) := by decide +kernel
theorem dX11_meet_119 : decode cX11_meet 119 = .ok (.iadd, 1) := by decide +kernel
theorem dX11_meet_120 : decode cX11_meet 120 = .ok (.ireturn, 1) := by decide +kernel
theorem dX11_meet_121 : decode cX11_meet 121 = .ok (.iconst 0, 1) := by decide +kernel
theorem dX11_meet_122 : decode cX11_meet 122 = .ok (.istore 4, 2) := by decide +kernel
theorem dX11_meet_124 : decode cX11_meet 124 = .ok (.iload 4, 2) := by decide +kernel
theorem dX11_meet_126 : decode cX11_meet 126 = .ok (.aload_n 0, 1) := by decide +kernel
theorem dX11_meet_127 : decode cX11_meet 127 = .ok (.getfield 112, 3) := by decide +kernel
theorem dX11_meet_130 : decode cX11_meet 130 = .ok (.if_icmp .ge 55, 3) := by decide +kernel
theorem dX11_meet_133 : decode cX11_meet 133 = .ok (.aload_n 0, 1) := by decide +kernel
theorem dX11_meet_134 : decode cX11_meet 134 = .ok (.getfield 112, 3) := by decide +kernel
theorem dX11_meet_137 : decode cX11_meet 137 = .ok (.iload 4, 2) := by decide +kernel
theorem dX11_meet_139 : decode cX11_meet 139 = .ok (.imul, 1) := by decide +kernel
theorem dX11_meet_140 : decode cX11_meet 140 = .ok (.aload_n 0, 1) := by decide +kernel
theorem dX11_meet_141 : decode cX11_meet 141 = .ok (.aload_n 0, 1) := by decide +kernel
theorem dX11_meet_142 : decode cX11_meet 142 = .ok (.iload_n 1, 1) := by decide +kernel
theorem dX11_meet_143 : decode cX11_meet 143 = .ok (.aload_n 0, 1) := by decide +kernel
theorem dX11_meet_144 : decode cX11_meet 144 = .ok (.getfield 112, 3) := by decide +kernel
theorem dX11_meet_147 : decode cX11_meet 147 = .ok (.idiv, 1) := by decide +kernel
theorem dX11_meet_148 : decode cX11_meet 148 = .ok (.iload 4, 2) := by decide +kernel
theorem dX11_meet_150 : decode cX11_meet 150 = .ok (.invokevirtual 266, 3) := by decide +kernel
theorem dX11_meet_153 : decode cX11_meet 153 = .ok (.iconst 1, 1) := by decide +kernel
theorem dX11_meet_154 : decode cX11_meet 154 = .ok (.iload_n 1, 1) := by decide +kernel
theorem dX11_meet_155 : decode cX11_meet 155 = .ok (.aload_n 0, 1) := by decide +kernel
theorem dX11_meet_156 : decode cX11_meet 156 = .ok (.getfield 112, 3) := by decide +kernel
theorem dX11_meet_159 : decode cX11_meet 159 = .ok (.irem, 1) := by decide +kernel
theorem dX11_meet_160 : decode cX11_meet 160 = .ok (.invokevirtual 127, 3) := by decide +kernel
theorem dX11_meet_163 : decode cX11_meet 163 = .ok (.iadd, 1) := by decide +kernel
theorem dX11_meet_164 : decode cX11_meet 164 = .ok (.istore 5, 2) := by decide +kernel
theorem dX11_meet_166 : decode cX11_meet 166 = .ok (.aload_n 0, 1) := by decide +kernel
theorem dX11_meet_167 : decode cX11_meet 167 = .ok (.iload 5, 2) := by decide +kernel
theorem dX11_meet_169 : decode cX11_meet 169 = .ok (.iload_n 2, 1) := by decide +kernel
theorem dX11_meet_170 : decode cX11_meet 170 = .ok (.invokevirtual 353, 3) := by decide +kernel
theorem dX11_meet_173 : decode cX11_meet 173 = .ok (.ifCond .eq 6, 3) := by decide +kernel
theorem dX11_meet_176 : decode cX11_meet 176 = .ok (.iload 5, 2) := by decide +kernel
theorem dX11_meet_178 : decode cX11_meet 178 = .ok (.ireturn, 1) := by decide +kernel
theorem dX11_meet_179 : decode cX11_meet 179 = .ok (.iinc 4 1, 3) := by decide +kernel
theorem dX11_meet_182 : decode cX11_meet 182 = .ok (.goto (-58), 3) := by decide +kernel
theorem dX11_meet_185 : decode cX11_meet 185 = .ok (.iconst (-1), 1) := by decide +kernel
theorem dX11_meet_186 : decode cX11_meet 186 = .ok (.ireturn, 1) := by decide +kernel
theorem dX11_plane_0 : decode cX11_plane 0 = .ok (.iload_n 1, 1) := by decide +kernel
theorem dX11_plane_1 : decode cX11_plane 1 = .ok (.invokestatic 143, 3) := by decide +kernel
theorem dX11_plane_4 : decode cX11_plane 4 = .ok (.ifCond .eq 13, 3) := by decide +kernel
theorem dX11_plane_7 : decode cX11_plane 7 = .ok (.iload 4, 2) := by decide +kernel
theorem dX11_plane_9 : decode cX11_plane 9 = .ok (.iconst 0, 1) := by decide +kernel
theorem dX11_plane_10 : decode cX11_plane 10 = .ok (.iconst 2, 1) := by decide +kernel
theorem dX11_plane_11 : decode cX11_plane 11 = .ok (.invokestatic 98, 3) := by decide +kernel
theorem dX11_plane_14 : decode cX11_plane 14 = .ok (.ifCond .ne 5, 3) := by decide +kernel
theorem dX11_plane_17 : decode cX11_plane 17 = .ok (.iconst (-1), 1) := by decide +kernel
theorem dX11_plane_18 : decode cX11_plane 18 = .ok (.ireturn, 1) := by decide +kernel
theorem dX11_plane_19 : decode cX11_plane 19 = .ok (.aload_n 0, 1) := by decide +kernel
theorem dX11_plane_20 : decode cX11_plane 20 = .ok (.iload_n 1, 1) := by decide +kernel
theorem dX11_plane_21 : decode cX11_plane 21 = .ok (.invokevirtual 147, 3) := by decide +kernel
theorem dX11_plane_24 : decode cX11_plane 24 = .ok (.iload_n 2, 1) := by decide +kernel
theorem dX11_plane_25 : decode cX11_plane 25 = .ok (.iconst 0, 1) := by decide +kernel
theorem dX11_plane_26 : decode cX11_plane 26 = .ok (.aload_n 0, 1) := by decide +kernel
theorem dX11_plane_27 : decode cX11_plane 27 = .ok (.getfield 112, 3) := by decide +kernel
theorem dX11_plane_30 : decode cX11_plane 30 = .ok (.aload_n 0, 1) := by decide +kernel
theorem dX11_plane_31 : decode cX11_plane 31 = .ok (.getfield 112, 3) := by decide +kernel
theorem dX11_plane_34 : decode cX11_plane 34 = .ok (.imul, 1) := by decide +kernel
theorem dX11_plane_35 : decode cX11_plane 35 = .ok (.aload_n 0, 1) := by decide +kernel
theorem dX11_plane_36 : decode cX11_plane 36 = .ok (.getfield 112, 3) := by decide +kernel
theorem dX11_plane_39 : decode cX11_plane 39 = .ok (.iadd, 1) := by decide +kernel
theorem dX11_plane_40 : decode cX11_plane 40 = .ok (.invokestatic 98, 3) := by decide +kernel
theorem dX11_plane_43 : decode cX11_plane 43 = .ok (.ifCond .eq 44, 3) := by decide +kernel
theorem dX11_plane_46 : decode cX11_plane 46 = .ok (.iload_n 3, 1) := by decide +kernel
theorem dX11_plane_47 : decode cX11_plane 47 = .ok (.iconst 0, 1) := by decide +kernel
theorem dX11_plane_48 : decode cX11_plane 48 = .ok (.aload_n 0, 1) := by decide +kernel
theorem dX11_plane_49 : decode cX11_plane 49 = .ok (.getfield 112, 3) := by decide +kernel
theorem dX11_plane_52 : decode cX11_plane 52 = .ok (.aload_n 0, 1) := by decide +kernel
theorem dX11_plane_53 : decode cX11_plane 53 = .ok (.getfield 112, 3) := by decide +kernel
theorem dX11_plane_56 : decode cX11_plane 56 = .ok (.imul, 1) := by decide +kernel
theorem dX11_plane_57 : decode cX11_plane 57 = .ok (.aload_n 0, 1) := by decide +kernel
theorem dX11_plane_58 : decode cX11_plane 58 = .ok (.getfield 112, 3) := by decide +kernel
theorem dX11_plane_61 : decode cX11_plane 61 = .ok (.iadd, 1) := by decide +kernel
theorem dX11_plane_62 : decode cX11_plane 62 = .ok (.invokestatic 98, 3) := by decide +kernel
theorem dX11_plane_65 : decode cX11_plane 65 = .ok (.ifCond .eq 22, 3) := by decide +kernel
theorem dX11_plane_68 : decode cX11_plane 68 = .ok (.iload 4, 2) := by decide +kernel
theorem dX11_plane_70 : decode cX11_plane 70 = .ok (.iconst 2, 1) := by decide +kernel
theorem dX11_plane_71 : decode cX11_plane 71 = .ok (.if_icmp .ge 8, 3) := by decide +kernel
theorem dX11_plane_74 : decode cX11_plane 74 = .ok (.iload_n 2, 1) := by decide +kernel
theorem dX11_plane_75 : decode cX11_plane 75 = .ok (.iload_n 3, 1) := by decide +kernel
theorem dX11_plane_76 : decode cX11_plane 76 = .ok (.if_icmp .eq 11, 3) := by decide +kernel
theorem dX11_plane_79 : decode cX11_plane 79 = .ok (.aload_n 0, 1) := by decide +kernel
theorem dX11_plane_80 : decode cX11_plane 80 = .ok (.invokevirtual 275, 3) := by decide +kernel
theorem dX11_plane_83 : decode cX11_plane 83 = .ok (.iconst (-1), 1) := by decide +kernel
theorem dX11_plane_84 : decode cX11_plane 84 = .ok (.if_icmp .eq 5, 3) := by decide +kernel
theorem dX11_plane_87 : decode cX11_plane 87 = .ok (.iconst (-1), 1) := by decide +kernel
theorem dX11_plane_88 : decode cX11_plane 88 = .ok (.ireturn, 1) := by decide +kernel
theorem dX11_plane_89 : decode cX11_plane 89 = .ok (.iload 4, 2) := by decide +kernel
theorem dX11_plane_91 : decode cX11_plane 91 = .ok (.ifCond .ne 12, 3) := by decide +kernel
theorem dX11_plane_94 : decode cX11_plane 94 = .ok (.aload_n 0, 1) := by decide +kernel
theorem dX11_plane_95 : decode cX11_plane 95 = .ok (.iload_n 2, 1) := by decide +kernel
theorem dX11_plane_96 : decode cX11_plane 96 = .ok (.iload_n 3, 1) := by decide +kernel
theorem dX11_plane_97 : decode cX11_plane 97 = .ok (.invokevirtual 347, 3) := by decide +kernel
theorem dX11_plane_100 : decode cX11_plane 100 = .ok (.goto 27, 3) := by decide +kernel
theorem dX11_plane_103 : decode cX11_plane 103 = .ok (.iload 4, 2) := by decide +kernel
theorem dX11_plane_105 : decode cX11_plane 105 = .ok (.iconst 1, 1) := by decide +kernel
theorem dX11_plane_106 : decode cX11_plane 106 = .ok (.if_icmp .ne 12, 3) := by decide +kernel
theorem dX11_plane_109 : decode cX11_plane 109 = .ok (.aload_n 0, 1) := by decide +kernel
theorem dX11_plane_110 : decode cX11_plane 110 = .ok (.iload_n 2, 1) := by decide +kernel
theorem dX11_plane_111 : decode cX11_plane 111 = .ok (.iload_n 3, 1) := by decide +kernel
theorem dX11_plane_112 : decode cX11_plane 112 = .ok (.invokevirtual 356, 3) := by decide +kernel
theorem dX11_plane_115 : decode cX11_plane 115 = .ok (.goto 12, 3) := by decide +kernel
theorem dX11_plane_118 : decode cX11_plane 118 = .ok (.aload_n 0, 1) := by decide +kernel
theorem dX11_plane_119 : decode cX11_plane 119 = .ok (.iload_n 2, 1) := by decide +kernel
theorem dX11_plane_120 : decode cX11_plane 120 = .ok (.iload_n 3, 1) := by decide +kernel
theorem dX11_plane_121 : decode cX11_plane 121 = .ok (.invokevirtual 353, 3) := by decide +kernel
theorem dX11_plane_124 : decode cX11_plane 124 = .ok (.invokestatic 278, 3) := by decide +kernel
theorem dX11_plane_127 : decode cX11_plane 127 = .ok (.ireturn, 1) := by decide +kernel
theorem dX11_areOnOne_0 : decode cX11_areOnOne 0 = .ok (.aload_n 0, 1) := by decide +kernel
theorem dX11_areOnOne_1 : decode cX11_areOnOne 1 = .ok (.iload_n 3, 1) := by decide +kernel
theorem dX11_areOnOne_2 : decode cX11_areOnOne 2 = .ok (.aload_n 0, 1) := by decide +kernel
theorem dX11_areOnOne_3 : decode cX11_areOnOne 3 = .ok (.iload_n 1, 1) := by decide +kernel
theorem dX11_areOnOne_4 : decode cX11_areOnOne 4 = .ok (.iload_n 2, 1) := by decide +kernel
theorem dX11_areOnOne_5 : decode cX11_areOnOne 5 = .ok (.invokevirtual 347, 3) := by decide +kernel
theorem dX11_areOnOne_8 : decode cX11_areOnOne 8 = .ok (.invokevirtual 353, 3) := by decide +kernel
theorem dX11_areOnOne_11 : decode cX11_areOnOne 11 = .ok (.ireturn, 1) := by decide +kernel
theorem dX11_fano_0 : decode cX11_fano 0 = .ok (.iload_n 1, 1) := by decide +kernel
theorem dX11_fano_1 : decode cX11_fano 1 = .ok (.invokestatic 143, 3) := by decide +kernel
theorem dX11_fano_4 : decode cX11_fano 4 = .ok (.ifCond .ne 5, 3) := by decide +kernel
theorem dX11_fano_7 : decode cX11_fano 7 = .ok (.iconst (-1), 1) := by decide +kernel
theorem dX11_fano_8 : decode cX11_fano 8 = .ok (.ireturn, 1) := by decide +kernel
theorem dX11_fano_9 : decode cX11_fano 9 = .ok (.aload_n 0, 1) := by decide +kernel
theorem dX11_fano_10 : decode cX11_fano 10 = .ok (.iload_n 1, 1) := by decide +kernel
theorem dX11_fano_11 : decode cX11_fano 11 = .ok (.invokevirtual 147, 3) := by decide +kernel
theorem dX11_fano_14 : decode cX11_fano 14 = .ok (.aload_n 0, 1) := by decide +kernel
theorem dX11_fano_15 : decode cX11_fano 15 = .ok (.getfield 112, 3) := by decide +kernel
theorem dX11_fano_18 : decode cX11_fano 18 = .ok (.aload_n 0, 1) := by decide +kernel
theorem dX11_fano_19 : decode cX11_fano 19 = .ok (.getfield 112, 3) := by decide +kernel
theorem dX11_fano_22 : decode cX11_fano 22 = .ok (.imul, 1) := by decide +kernel
theorem dX11_fano_23 : decode cX11_fano 23 = .ok (.aload_n 0, 1) := by decide +kernel
theorem dX11_fano_24 : decode cX11_fano 24 = .ok (.getfield 112, 3) := by decide +kernel
theorem dX11_fano_27 : decode cX11_fano 27 = .ok (.iadd, 1) := by decide +kernel
theorem dX11_fano_28 : decode cX11_fano 28 = .ok (.istore 6, 2) := by decide +kernel
theorem dX11_fano_30 : decode cX11_fano 30 = .ok (.iload_n 2, 1) := by decide +kernel
theorem dX11_fano_31 : decode cX11_fano 31 = .ok (.iconst 0, 1) := by decide +kernel
theorem dX11_fano_32 : decode cX11_fano 32 = .ok (.iload 6, 2) := by decide +kernel
theorem dX11_fano_34 : decode cX11_fano 34 = .ok (.invokestatic 98, 3) := by decide +kernel
theorem dX11_fano_37 : decode cX11_fano 37 = .ok (.ifCond .eq 35, 3) := by decide +kernel
theorem dX11_fano_40 : decode cX11_fano 40 = .ok (.iload_n 3, 1) := by decide +kernel
theorem dX11_fano_41 : decode cX11_fano 41 = .ok (.iconst 0, 1) := by decide +kernel
theorem dX11_fano_42 : decode cX11_fano 42 = .ok (.iload 6, 2) := by decide +kernel
theorem dX11_fano_44 : decode cX11_fano 44 = .ok (.invokestatic 98, 3) := by decide +kernel
theorem dX11_fano_47 : decode cX11_fano 47 = .ok (.ifCond .eq 25, 3) := by decide +kernel
theorem dX11_fano_50 : decode cX11_fano 50 = .ok (.iload 4, 2) := by decide +kernel
theorem dX11_fano_52 : decode cX11_fano 52 = .ok (.iconst 0, 1) := by decide +kernel
theorem dX11_fano_53 : decode cX11_fano 53 = .ok (.iload 6, 2) := by decide +kernel
theorem dX11_fano_55 : decode cX11_fano 55 = .ok (.invokestatic 98, 3) := by decide +kernel
theorem dX11_fano_58 : decode cX11_fano 58 = .ok (.ifCond .eq 14, 3) := by decide +kernel
theorem dX11_fano_61 : decode cX11_fano 61 = .ok (.iload 5, 2) := by decide +kernel
theorem dX11_fano_63 : decode cX11_fano 63 = .ok (.iconst 0, 1) := by decide +kernel
theorem dX11_fano_64 : decode cX11_fano 64 = .ok (.iload 6, 2) := by decide +kernel
theorem dX11_fano_66 : decode cX11_fano 66 = .ok (.invokestatic 98, 3) := by decide +kernel
theorem dX11_fano_69 : decode cX11_fano 69 = .ok (.ifCond .ne 5, 3) := by decide +kernel
theorem dX11_fano_72 : decode cX11_fano 72 = .ok (.iconst (-1), 1) := by decide +kernel
theorem dX11_fano_73 : decode cX11_fano 73 = .ok (.ireturn, 1) := by decide +kernel
theorem dX11_fano_74 : decode cX11_fano 74 = .ok (.iload_n 2, 1) := by decide +kernel
theorem dX11_fano_75 : decode cX11_fano 75 = .ok (.iload_n 3, 1) := by decide +kernel
theorem dX11_fano_76 : decode cX11_fano 76 = .ok (.if_icmp .eq 42, 3) := by decide +kernel
theorem dX11_fano_79 : decode cX11_fano 79 = .ok (.iload_n 2, 1) := by decide +kernel
theorem dX11_fano_80 : decode cX11_fano 80 = .ok (.iload 4, 2) := by decide +kernel
theorem dX11_fano_82 : decode cX11_fano 82 = .ok (.if_icmp .eq 36, 3) := by decide +kernel
theorem dX11_fano_85 : decode cX11_fano 85 = .ok (.iload_n 2, 1) := by decide +kernel
theorem dX11_fano_86 : decode cX11_fano 86 = .ok (.iload 5, 2) := by decide +kernel
theorem dX11_fano_88 : decode cX11_fano 88 = .ok (.if_icmp .eq 30, 3) := by decide +kernel
theorem dX11_fano_91 : decode cX11_fano 91 = .ok (.iload_n 3, 1) := by decide +kernel
theorem dX11_fano_92 : decode cX11_fano 92 = .ok (.iload 4, 2) := by decide +kernel
theorem dX11_fano_94 : decode cX11_fano 94 = .ok (.if_icmp .eq 24, 3) := by decide +kernel
theorem dX11_fano_97 : decode cX11_fano 97 = .ok (.iload_n 3, 1) := by decide +kernel
theorem dX11_fano_98 : decode cX11_fano 98 = .ok (.iload 5, 2) := by decide +kernel
theorem dX11_fano_100 : decode cX11_fano 100 = .ok (.if_icmp .eq 18, 3) := by decide +kernel
theorem dX11_fano_103 : decode cX11_fano 103 = .ok (.iload 4, 2) := by decide +kernel
theorem dX11_fano_105 : decode cX11_fano 105 = .ok (.iload 5, 2) := by decide +kernel
theorem dX11_fano_107 : decode cX11_fano 107 = .ok (.if_icmp .eq 11, 3) := by decide +kernel
theorem dX11_fano_110 : decode cX11_fano 110 = .ok (.aload_n 0, 1) := by decide +kernel
theorem dX11_fano_111 : decode cX11_fano 111 = .ok (.invokevirtual 275, 3) := by decide +kernel
theorem dX11_fano_114 : decode cX11_fano 114 = .ok (.iconst (-1), 1) := by decide +kernel
theorem dX11_fano_115 : decode cX11_fano 115 = .ok (.if_icmp .eq 5, 3) := by decide +kernel
theorem dX11_fano_118 : decode cX11_fano 118 = .ok (.iconst (-1), 1) := by decide +kernel
theorem dX11_fano_119 : decode cX11_fano 119 = .ok (.ireturn, 1) := by decide +kernel
theorem dX11_fano_120 : decode cX11_fano 120 = .ok (.aload_n 0, 1) := by decide +kernel
theorem dX11_fano_121 : decode cX11_fano 121 = .ok (.iload_n 2, 1) := by decide +kernel
theorem dX11_fano_122 : decode cX11_fano 122 = .ok (.iload_n 3, 1) := by decide +kernel
theorem dX11_fano_123 : decode cX11_fano 123 = .ok (.iload 4, 2) := by decide +kernel
theorem dX11_fano_125 : decode cX11_fano 125 = .ok (.invokevirtual 359, 3) := by decide +kernel
theorem dX11_fano_128 : decode cX11_fano 128 = .ok (.ifCond .ne 38, 3) := by decide +kernel
theorem dX11_fano_131 : decode cX11_fano 131 = .ok (.aload_n 0, 1) := by decide +kernel
theorem dX11_fano_132 : decode cX11_fano 132 = .ok (.iload_n 2, 1) := by decide +kernel
theorem dX11_fano_133 : decode cX11_fano 133 = .ok (.iload_n 3, 1) := by decide +kernel
theorem dX11_fano_134 : decode cX11_fano 134 = .ok (.iload 5, 2) := by decide +kernel
theorem dX11_fano_136 : decode cX11_fano 136 = .ok (.invokevirtual 359, 3) := by decide +kernel
theorem dX11_fano_139 : decode cX11_fano 139 = .ok (.ifCond .ne 27, 3) := by decide +kernel
theorem dX11_fano_142 : decode cX11_fano 142 = .ok (.aload_n 0, 1) := by decide +kernel
theorem dX11_fano_143 : decode cX11_fano 143 = .ok (.iload_n 2, 1) := by decide +kernel
theorem dX11_fano_144 : decode cX11_fano 144 = .ok (.iload 4, 2) := by decide +kernel
theorem dX11_fano_146 : decode cX11_fano 146 = .ok (.iload 5, 2) := by decide +kernel
theorem dX11_fano_148 : decode cX11_fano 148 = .ok (.invokevirtual 359, 3) := by decide +kernel
theorem dX11_fano_151 : decode cX11_fano 151 = .ok (.ifCond .ne 15, 3) := by decide +kernel
theorem dX11_fano_154 : decode cX11_fano 154 = .ok (.aload_n 0, 1) := by decide +kernel
theorem dX11_fano_155 : decode cX11_fano 155 = .ok (.iload_n 3, 1) := by decide +kernel
theorem dX11_fano_156 : decode cX11_fano 156 = .ok (.iload 4, 2) := by decide +kernel
theorem dX11_fano_158 : decode cX11_fano 158 = .ok (.iload 5, 2) := by decide +kernel
theorem dX11_fano_160 : decode cX11_fano 160 = .ok (.invokevirtual 359, 3) := by decide +kernel
theorem dX11_fano_163 : decode cX11_fano 163 = .ok (.ifCond .eq 5, 3) := by decide +kernel
theorem dX11_fano_166 : decode cX11_fano 166 = .ok (.iconst (-1), 1) := by decide +kernel
theorem dX11_fano_167 : decode cX11_fano 167 = .ok (.ireturn, 1) := by decide +kernel
theorem dX11_fano_168 : decode cX11_fano 168 = .ok (.aload_n 0, 1) := by decide +kernel
theorem dX11_fano_169 : decode cX11_fano 169 = .ok (.aload_n 0, 1) := by decide +kernel
theorem dX11_fano_170 : decode cX11_fano 170 = .ok (.iload_n 2, 1) := by decide +kernel
theorem dX11_fano_171 : decode cX11_fano 171 = .ok (.iload_n 3, 1) := by decide +kernel
theorem dX11_fano_172 : decode cX11_fano 172 = .ok (.invokevirtual 347, 3) := by decide +kernel
theorem dX11_fano_175 : decode cX11_fano 175 = .ok (.aload_n 0, 1) := by decide +kernel
theorem dX11_fano_176 : decode cX11_fano 176 = .ok (.iload 4, 2) := by decide +kernel
theorem dX11_fano_178 : decode cX11_fano 178 = .ok (.iload 5, 2) := by decide +kernel
theorem dX11_fano_180 : decode cX11_fano 180 = .ok (.invokevirtual 347, 3) := by decide +kernel
theorem dX11_fano_183 : decode cX11_fano 183 = .ok (.invokevirtual 356, 3) := by decide +kernel
theorem dX11_fano_186 : decode cX11_fano 186 = .ok (.istore 7, 2) := by decide +kernel
theorem dX11_fano_188 : decode cX11_fano 188 = .ok (.aload_n 0, 1) := by decide +kernel
theorem dX11_fano_189 : decode cX11_fano 189 = .ok (.aload_n 0, 1) := by decide +kernel
theorem dX11_fano_190 : decode cX11_fano 190 = .ok (.iload_n 2, 1) := by decide +kernel
theorem dX11_fano_191 : decode cX11_fano 191 = .ok (.iload 4, 2) := by decide +kernel
theorem dX11_fano_193 : decode cX11_fano 193 = .ok (.invokevirtual 347, 3) := by decide +kernel
theorem dX11_fano_196 : decode cX11_fano 196 = .ok (.aload_n 0, 1) := by decide +kernel
theorem dX11_fano_197 : decode cX11_fano 197 = .ok (.iload_n 3, 1) := by decide +kernel
theorem dX11_fano_198 : decode cX11_fano 198 = .ok (.iload 5, 2) := by decide +kernel
theorem dX11_fano_200 : decode cX11_fano 200 = .ok (.invokevirtual 347, 3) := by decide +kernel
theorem dX11_fano_203 : decode cX11_fano 203 = .ok (.invokevirtual 356, 3) := by decide +kernel
theorem dX11_fano_206 : decode cX11_fano 206 = .ok (.istore 8, 2) := by decide +kernel
theorem dX11_fano_208 : decode cX11_fano 208 = .ok (.aload_n 0, 1) := by decide +kernel
theorem dX11_fano_209 : decode cX11_fano 209 = .ok (.aload_n 0, 1) := by decide +kernel
theorem dX11_fano_210 : decode cX11_fano 210 = .ok (.iload_n 2, 1) := by decide +kernel
theorem dX11_fano_211 : decode cX11_fano 211 = .ok (.iload 5, 2) := by decide +kernel
theorem dX11_fano_213 : decode cX11_fano 213 = .ok (.invokevirtual 347, 3) := by decide +kernel
theorem dX11_fano_216 : decode cX11_fano 216 = .ok (.aload_n 0, 1) := by decide +kernel
theorem dX11_fano_217 : decode cX11_fano 217 = .ok (.iload_n 3, 1) := by decide +kernel
theorem dX11_fano_218 : decode cX11_fano 218 = .ok (.iload 4, 2) := by decide +kernel
theorem dX11_fano_220 : decode cX11_fano 220 = .ok (.invokevirtual 347, 3) := by decide +kernel
theorem dX11_fano_223 : decode cX11_fano 223 = .ok (.invokevirtual 356, 3) := by decide +kernel
theorem dX11_fano_226 : decode cX11_fano 226 = .ok (.istore 9, 2) := by decide +kernel
theorem dX11_fano_228 : decode cX11_fano 228 = .ok (.aload_n 0, 1) := by decide +kernel
theorem dX11_fano_229 : decode cX11_fano 229 = .ok (.iload 7, 2) := by decide +kernel
theorem dX11_fano_231 : decode cX11_fano 231 = .ok (.iload 8, 2) := by decide +kernel
theorem dX11_fano_233 : decode cX11_fano 233 = .ok (.iload 9, 2) := by decide +kernel
theorem dX11_fano_235 : decode cX11_fano 235 = .ok (.invokevirtual 359, 3) := by decide +kernel
theorem dX11_fano_238 : decode cX11_fano 238 = .ok (.invokestatic 278, 3) := by decide +kernel
theorem dX11_fano_241 : decode cX11_fano 241 = .ok (.ireturn, 1) := by decide +kernel
theorem dX11_parted_0 : decode cX11_parted 0 = .ok (.aload_n 0, 1) := by decide +kernel
theorem dX11_parted_1 : decode cX11_parted 1 = .ok (.iload_n 1, 1) := by decide +kernel
theorem dX11_parted_2 : decode cX11_parted 2 = .ok (.iload_n 2, 1) := by decide +kernel
theorem dX11_parted_3 : decode cX11_parted 3 = .ok (.invokevirtual 321, 3) := by decide +kernel
theorem dX11_parted_6 : decode cX11_parted 6 = .ok (.ifCond .ne 6, 3) := by decide +kernel
theorem dX11_parted_9 : decode cX11_parted 9 = .ok (.bipush (-2), 2) := by decide +kernel
theorem dX11_parted_11 : decode cX11_parted 11 = .ok (.ireturn, 1) := by decide +kernel
theorem dX11_parted_12 : decode cX11_parted 12 = .ok (.aload_n 0, 1) := by decide +kernel
theorem dX11_parted_13 : decode cX11_parted 13 = .ok (.getfield 7, 3) := by decide +kernel
theorem dX11_parted_16 : decode cX11_parted 16 = .ok (.sipush 130, 3) := by decide +kernel
theorem dX11_parted_19 : decode cX11_parted 19 = .ok (.iload_n 1, 1) := by decide +kernel
theorem dX11_parted_20 : decode cX11_parted 20 = .ok (.imul, 1) := by decide +kernel
theorem dX11_parted_21 : decode cX11_parted 21 = .ok (.iconst 1, 1) := by decide +kernel
theorem dX11_parted_22 : decode cX11_parted 22 = .ok (.iadd, 1) := by decide +kernel
theorem dX11_parted_23 : decode cX11_parted 23 = .ok (.iaload, 1) := by decide +kernel
theorem dX11_parted_24 : decode cX11_parted 24 = .ok (.istore_n 3, 1) := by decide +kernel
theorem dX11_parted_25 : decode cX11_parted 25 = .ok (.iconst 0, 1) := by decide +kernel
theorem dX11_parted_26 : decode cX11_parted 26 = .ok (.istore 4, 2) := by decide +kernel
theorem dX11_parted_28 : decode cX11_parted 28 = .ok (.iload 4, 2) := by decide +kernel
theorem dX11_parted_30 : decode cX11_parted 30 = .ok (.iconst 3, 1) := by decide +kernel
theorem dX11_parted_31 : decode cX11_parted 31 = .ok (.if_icmp .ge 77, 3) := by decide +kernel
theorem dX11_parted_34 : decode cX11_parted 34 = .ok (.iconst 0, 1) := by decide +kernel
theorem dX11_parted_35 : decode cX11_parted 35 = .ok (.istore 5, 2) := by decide +kernel
theorem dX11_parted_37 : decode cX11_parted 37 = .ok (.iload 5, 2) := by decide +kernel
theorem dX11_parted_39 : decode cX11_parted 39 = .ok (.iload_n 3, 1) := by decide +kernel
theorem dX11_parted_40 : decode cX11_parted 40 = .ok (.if_icmp .gt 25, 3) := by decide +kernel
theorem dX11_parted_43 : decode cX11_parted 43 = .ok (.aload_n 0, 1) := by decide +kernel
theorem dX11_parted_44 : decode cX11_parted 44 = .ok (.getfield 95, 3) := by decide +kernel
theorem dX11_parted_47 : decode cX11_parted 47 = .ok (.iload 5, 2) := by decide +kernel
theorem dX11_parted_49 : decode cX11_parted 49 = .ok (.aload_n 0, 1) := by decide +kernel
theorem dX11_parted_50 : decode cX11_parted 50 = .ok (.iload_n 1, 1) := by decide +kernel
theorem dX11_parted_51 : decode cX11_parted 51 = .ok (.iload 4, 2) := by decide +kernel
theorem dX11_parted_53 : decode cX11_parted 53 = .ok (.iload 5, 2) := by decide +kernel
theorem dX11_parted_55 : decode cX11_parted 55 = .ok (.invokevirtual 362, 3) := by decide +kernel
theorem dX11_parted_58 : decode cX11_parted 58 = .ok (.iastore, 1) := by decide +kernel
theorem dX11_parted_59 : decode cX11_parted 59 = .ok (.iinc 5 1, 3) := by decide +kernel
theorem dX11_parted_62 : decode cX11_parted 62 = .ok (.goto (-25), 3) := by decide +kernel
theorem dX11_parted_65 : decode cX11_parted 65 = .ok (.iconst 0, 1) := by decide +kernel
theorem dX11_parted_66 : decode cX11_parted 66 = .ok (.istore 5, 2) := by decide +kernel
theorem dX11_parted_68 : decode cX11_parted 68 = .ok (.iload 5, 2) := by decide +kernel
theorem dX11_parted_70 : decode cX11_parted 70 = .ok (.iload_n 3, 1) := by decide +kernel
theorem dX11_parted_71 : decode cX11_parted 71 = .ok (.if_icmp .gt 31, 3) := by decide +kernel
theorem dX11_parted_74 : decode cX11_parted 74 = .ok (.aload_n 0, 1) := by decide +kernel
theorem dX11_parted_75 : decode cX11_parted 75 = .ok (.iload_n 2, 1) := by decide +kernel
theorem dX11_parted_76 : decode cX11_parted 76 = .ok (.iload 4, 2) := by decide +kernel
theorem dX11_parted_78 : decode cX11_parted 78 = .ok (.iload 5, 2) := by decide +kernel
theorem dX11_parted_80 : decode cX11_parted 80 = .ok (.invokevirtual 362, 3) := by decide +kernel
theorem dX11_parted_83 : decode cX11_parted 83 = .ok (.aload_n 0, 1) := by decide +kernel
theorem dX11_parted_84 : decode cX11_parted 84 = .ok (.getfield 95, 3) := by decide +kernel
theorem dX11_parted_87 : decode cX11_parted 87 = .ok (.iload 5, 2) := by decide +kernel
theorem dX11_parted_89 : decode cX11_parted 89 = .ok (.iaload, 1) := by decide +kernel
theorem dX11_parted_90 : decode cX11_parted 90 = .ok (.if_icmp .eq 6, 3) := by decide +kernel
theorem dX11_parted_93 : decode cX11_parted 93 = .ok (.iload 4, 2) := by decide +kernel
theorem dX11_parted_95 : decode cX11_parted 95 = .ok (.ireturn, 1) := by decide +kernel
theorem dX11_parted_96 : decode cX11_parted 96 = .ok (.iinc 5 1, 3) := by decide +kernel
theorem dX11_parted_99 : decode cX11_parted 99 = .ok (.goto (-31), 3) := by decide +kernel
theorem dX11_parted_102 : decode cX11_parted 102 = .ok (.iinc 4 1, 3) := by decide +kernel
theorem dX11_parted_105 : decode cX11_parted 105 = .ok (.goto (-77), 3) := by decide +kernel
theorem dX11_parted_108 : decode cX11_parted 108 = .ok (.aload_n 0, 1) := by decide +kernel
theorem dX11_parted_109 : decode cX11_parted 109 = .ok (.iload_n 1, 1) := by decide +kernel
theorem dX11_parted_110 : decode cX11_parted 110 = .ok (.bipush 17, 2) := by decide +kernel
theorem dX11_parted_112 : decode cX11_parted 112 = .ok (.invokevirtual 365, 3) := by decide +kernel
theorem dX11_parted_115 : decode cX11_parted 115 = .ok (.aload_n 0, 1) := by decide +kernel
theorem dX11_parted_116 : decode cX11_parted 116 = .ok (.iload_n 2, 1) := by decide +kernel
theorem dX11_parted_117 : decode cX11_parted 117 = .ok (.bipush 17, 2) := by decide +kernel
theorem dX11_parted_119 : decode cX11_parted 119 = .ok (.invokevirtual 365, 3) := by decide +kernel
theorem dX11_parted_122 : decode cX11_parted 122 = .ok (.if_icmp .eq 7, 3) := by decide +kernel
theorem dX11_parted_125 : decode cX11_parted 125 = .ok (.iconst 3, 1) := by decide +kernel
theorem dX11_parted_126 : decode cX11_parted 126 = .ok (.goto 4, 3) := by decide +kernel
theorem dX11_parted_129 : decode cX11_parted 129 = .ok (.iconst (-1), 1) := by decide +kernel
theorem dX11_parted_130 : decode cX11_parted 130 = .ok (.ireturn, 1) := by decide +kernel
theorem dX11_laysCube_0 : decode cX11_laysCube 0 = .ok (.iconst 0, 1) := by decide +kernel
theorem dX11_laysCube_1 : decode cX11_laysCube 1 = .ok (.istore_n 2, 1) := by decide +kernel
theorem dX11_laysCube_2 : decode cX11_laysCube 2 = .ok (.iload_n 2, 1) := by decide +kernel
theorem dX11_laysCube_3 : decode cX11_laysCube 3 = .ok (.bipush 125, 2) := by decide +kernel
theorem dX11_laysCube_5 : decode cX11_laysCube 5 = .ok (.if_icmp .ge 16, 3) := by decide +kernel
theorem dX11_laysCube_8 : decode cX11_laysCube 8 = .ok (.aload_n 0, 1) := by decide +kernel
theorem dX11_laysCube_9 : decode cX11_laysCube 9 = .ok (.getfield 16, 3) := by decide +kernel
theorem dX11_laysCube_12 : decode cX11_laysCube 12 = .ok (.iload_n 2, 1) := by decide +kernel
theorem dX11_laysCube_13 : decode cX11_laysCube 13 = .ok (.iconst 0, 1) := by decide +kernel
theorem dX11_laysCube_14 : decode cX11_laysCube 14 = .ok (.iastore, 1) := by decide +kernel
theorem dX11_laysCube_15 : decode cX11_laysCube 15 = .ok (.iinc 2 1, 3) := by decide +kernel
theorem dX11_laysCube_18 : decode cX11_laysCube 18 = .ok (.goto (-16), 3) := by decide +kernel
theorem dX11_laysCube_21 : decode cX11_laysCube 21 = .ok (.iconst 0, 1) := by decide +kernel
theorem dX11_laysCube_22 : decode cX11_laysCube 22 = .ok (.istore_n 2, 1) := by decide +kernel
theorem dX11_laysCube_23 : decode cX11_laysCube 23 = .ok (.iload_n 2, 1) := by decide +kernel
theorem dX11_laysCube_24 : decode cX11_laysCube 24 = .ok (.aload_n 0, 1) := by decide +kernel
theorem dX11_laysCube_25 : decode cX11_laysCube 25 = .ok (.getfield 109, 3) := by decide +kernel
theorem dX11_laysCube_28 : decode cX11_laysCube 28 = .ok (.if_icmp .ge 32, 3) := by decide +kernel
theorem dX11_laysCube_31 : decode cX11_laysCube 31 = .ok (.aload_n 0, 1) := by decide +kernel
theorem dX11_laysCube_32 : decode cX11_laysCube 32 = .ok (.getfield 16, 3) := by decide +kernel
theorem dX11_laysCube_35 : decode cX11_laysCube 35 = .ok (.iconst 5, 1) := by decide +kernel
theorem dX11_laysCube_36 : decode cX11_laysCube 36 = .ok (.iload_n 2, 1) := by decide +kernel
theorem dX11_laysCube_37 : decode cX11_laysCube 37 = .ok (.imul, 1) := by decide +kernel
theorem dX11_laysCube_38 : decode cX11_laysCube 38 = .ok (.iload_n 2, 1) := by decide +kernel
theorem dX11_laysCube_39 : decode cX11_laysCube 39 = .ok (.iadd, 1) := by decide +kernel
theorem dX11_laysCube_40 : decode cX11_laysCube 40 = .ok (.iconst 1, 1) := by decide +kernel
theorem dX11_laysCube_41 : decode cX11_laysCube 41 = .ok (.iastore, 1) := by decide +kernel
theorem dX11_laysCube_42 : decode cX11_laysCube 42 = .ok (.aload_n 0, 1) := by decide +kernel
theorem dX11_laysCube_43 : decode cX11_laysCube 43 = .ok (.getfield 16, 3) := by decide +kernel
theorem dX11_laysCube_46 : decode cX11_laysCube 46 = .ok (.bipush 25, 2) := by decide +kernel
theorem dX11_laysCube_48 : decode cX11_laysCube 48 = .ok (.iload_n 2, 1) := by decide +kernel
theorem dX11_laysCube_49 : decode cX11_laysCube 49 = .ok (.imul, 1) := by decide +kernel
theorem dX11_laysCube_50 : decode cX11_laysCube 50 = .ok (.iload_n 2, 1) := by decide +kernel
theorem dX11_laysCube_51 : decode cX11_laysCube 51 = .ok (.iadd, 1) := by decide +kernel
theorem dX11_laysCube_52 : decode cX11_laysCube 52 = .ok (.iconst 1, 1) := by decide +kernel
theorem dX11_laysCube_53 : decode cX11_laysCube 53 = .ok (.iastore, 1) := by decide +kernel
theorem dX11_laysCube_54 : decode cX11_laysCube 54 = .ok (.iinc 2 1, 3) := by decide +kernel
theorem dX11_laysCube_57 : decode cX11_laysCube 57 = .ok (.goto (-34), 3) := by decide +kernel
theorem dX11_laysCube_60 : decode cX11_laysCube 60 = .ok (.iload_n 1, 1) := by decide +kernel
theorem dX11_laysCube_61 : decode cX11_laysCube 61 = .ok (.istore_n 2, 1) := by decide +kernel
theorem dX11_laysCube_62 : decode cX11_laysCube 62 = .ok (.aload_n 0, 1) := by decide +kernel
theorem dX11_laysCube_63 : decode cX11_laysCube 63 = .ok (.getfield 109, 3) := by decide +kernel
theorem dX11_laysCube_66 : decode cX11_laysCube 66 = .ok (.iconst 1, 1) := by decide +kernel
theorem dX11_laysCube_67 : decode cX11_laysCube 67 = .ok (.isub, 1) := by decide +kernel
theorem dX11_laysCube_68 : decode cX11_laysCube 68 = .ok (.istore_n 3, 1) := by decide +kernel
theorem dX11_laysCube_69 : decode cX11_laysCube 69 = .ok (.iload_n 3, 1) := by decide +kernel
theorem dX11_laysCube_70 : decode cX11_laysCube 70 = .ok (.ifCond .le 77, 3) := by decide +kernel
theorem dX11_laysCube_73 : decode cX11_laysCube 73 = .ok (.aload_n 0, 1) := by decide +kernel
theorem dX11_laysCube_74 : decode cX11_laysCube 74 = .ok (.getfield 109, 3) := by decide +kernel
theorem dX11_laysCube_77 : decode cX11_laysCube 77 = .ok (.iconst 1, 1) := by decide +kernel
theorem dX11_laysCube_78 : decode cX11_laysCube 78 = .ok (.isub, 1) := by decide +kernel
theorem dX11_laysCube_79 : decode cX11_laysCube 79 = .ok (.istore 4, 2) := by decide +kernel
theorem dX11_laysCube_81 : decode cX11_laysCube 81 = .ok (.iload 4, 2) := by decide +kernel
theorem dX11_laysCube_83 : decode cX11_laysCube 83 = .ok (.ifCond .le 58, 3) := by decide +kernel
theorem dX11_laysCube_86 : decode cX11_laysCube 86 = .ok (.aload_n 0, 1) := by decide +kernel
theorem dX11_laysCube_87 : decode cX11_laysCube 87 = .ok (.getfield 109, 3) := by decide +kernel
theorem dX11_laysCube_90 : decode cX11_laysCube 90 = .ok (.iconst 1, 1) := by decide +kernel
theorem dX11_laysCube_91 : decode cX11_laysCube 91 = .ok (.isub, 1) := by decide +kernel
theorem dX11_laysCube_92 : decode cX11_laysCube 92 = .ok (.istore 5, 2) := by decide +kernel
theorem dX11_laysCube_94 : decode cX11_laysCube 94 = .ok (.iload 5, 2) := by decide +kernel
theorem dX11_laysCube_96 : decode cX11_laysCube 96 = .ok (.ifCond .lt 39, 3) := by decide +kernel
theorem dX11_laysCube_99 : decode cX11_laysCube 99 = .ok (.aload_n 0, 1) := by decide +kernel
theorem dX11_laysCube_100 : decode cX11_laysCube 100 = .ok (.getfield 16, 3) := by decide +kernel
theorem dX11_laysCube_103 : decode cX11_laysCube 103 = .ok (.bipush 25, 2) := by decide +kernel
theorem dX11_laysCube_105 : decode cX11_laysCube 105 = .ok (.iload_n 3, 1) := by decide +kernel
theorem dX11_laysCube_106 : decode cX11_laysCube 106 = .ok (.imul, 1) := by decide +kernel
theorem dX11_laysCube_107 : decode cX11_laysCube 107 = .ok (.iconst 5, 1) := by decide +kernel
theorem dX11_laysCube_108 : decode cX11_laysCube 108 = .ok (.iload 4, 2) := by decide +kernel
theorem dX11_laysCube_110 : decode cX11_laysCube 110 = .ok (.imul, 1) := by decide +kernel
theorem dX11_laysCube_111 : decode cX11_laysCube 111 = .ok (.iadd, 1) := by decide +kernel
theorem dX11_laysCube_112 : decode cX11_laysCube 112 = .ok (.iload 5, 2) := by decide +kernel
theorem dX11_laysCube_114 : decode cX11_laysCube 114 = .ok (.iadd, 1) := by decide +kernel
theorem dX11_laysCube_115 : decode cX11_laysCube 115 = .ok (.iload_n 2, 1) := by decide +kernel
theorem dX11_laysCube_116 : decode cX11_laysCube 116 = .ok (.aload_n 0, 1) := by decide +kernel
theorem dX11_laysCube_117 : decode cX11_laysCube 117 = .ok (.getfield 106, 3) := by decide +kernel
theorem dX11_laysCube_120 : decode cX11_laysCube 120 = .ok (.irem, 1) := by decide +kernel
theorem dX11_laysCube_121 : decode cX11_laysCube 121 = .ok (.iastore, 1) := by decide +kernel
theorem dX11_laysCube_122 : decode cX11_laysCube 122 = .ok (.iload_n 2, 1) := by decide +kernel
theorem dX11_laysCube_123 : decode cX11_laysCube 123 = .ok (.aload_n 0, 1) := by decide +kernel
theorem dX11_laysCube_124 : decode cX11_laysCube 124 = .ok (.getfield 106, 3) := by decide +kernel
theorem dX11_laysCube_127 : decode cX11_laysCube 127 = .ok (.idiv, 1) := by decide +kernel
theorem dX11_laysCube_128 : decode cX11_laysCube 128 = .ok (.istore_n 2, 1) := by decide +kernel
theorem dX11_laysCube_129 : decode cX11_laysCube 129 = .ok (.iinc 5 (-1), 3) := by decide +kernel
theorem dX11_laysCube_132 : decode cX11_laysCube 132 = .ok (.goto (-38), 3) := by decide +kernel
theorem dX11_laysCube_135 : decode cX11_laysCube 135 = .ok (.iinc 4 (-1), 3) := by decide +kernel
theorem dX11_laysCube_138 : decode cX11_laysCube 138 = .ok (.goto (-57), 3) := by decide +kernel
theorem dX11_laysCube_141 : decode cX11_laysCube 141 = .ok (.iinc 3 (-1), 3) := by decide +kernel
theorem dX11_laysCube_144 : decode cX11_laysCube 144 = .ok (.goto (-75), 3) := by decide +kernel
theorem dX11_laysCube_147 : decode cX11_laysCube 147 = .ok (.return_, 1) := by decide +kernel
theorem dX11_isList_0 : decode cX11_isList 0 = .ok (.iload_n 2, 1) := by decide +kernel
theorem dX11_isList_1 : decode cX11_isList 1 = .ok (.iconst 2, 1) := by decide +kernel
theorem dX11_isList_2 : decode cX11_isList 2 = .ok (.if_icmp .ne 18, 3) := by decide +kernel
theorem dX11_isList_5 : decode cX11_isList 5 = .ok (.iload_n 1, 1) := by decide +kernel
theorem dX11_isList_6 : decode cX11_isList 6 = .ok (.iconst 2, 1) := by decide +kernel
theorem dX11_isList_7 : decode cX11_isList 7 = .ok (.if_icmp .eq 23, 3) := by decide +kernel
theorem dX11_isList_10 : decode cX11_isList 10 = .ok (.iload_n 1, 1) := by decide +kernel
theorem dX11_isList_11 : decode cX11_isList 11 = .ok (.iconst 3, 1) := by decide +kernel
theorem dX11_isList_12 : decode cX11_isList 12 = .ok (.if_icmp .eq 18, 3) := by decide +kernel
theorem dX11_isList_15 : decode cX11_isList 15 = .ok (.iload_n 1, 1) := by decide +kernel
theorem dX11_isList_16 : decode cX11_isList 16 = .ok (.iconst 5, 1) := by decide +kernel
theorem dX11_isList_17 : decode cX11_isList 17 = .ok (.if_icmp .eq 13, 3) := by decide +kernel
theorem dX11_isList_20 : decode cX11_isList 20 = .ok (.iload_n 2, 1) := by decide +kernel
theorem dX11_isList_21 : decode cX11_isList 21 = .ok (.iconst 3, 1) := by decide +kernel
theorem dX11_isList_22 : decode cX11_isList 22 = .ok (.if_icmp .ne 12, 3) := by decide +kernel
theorem dX11_isList_25 : decode cX11_isList 25 = .ok (.iload_n 1, 1) := by decide +kernel
theorem dX11_isList_26 : decode cX11_isList 26 = .ok (.iconst 2, 1) := by decide +kernel
theorem dX11_isList_27 : decode cX11_isList 27 = .ok (.if_icmp .ne 7, 3) := by decide +kernel
theorem dX11_isList_30 : decode cX11_isList 30 = .ok (.iconst 1, 1) := by decide +kernel
theorem dX11_isList_31 : decode cX11_isList 31 = .ok (.goto 4, 3) := by decide +kernel
theorem dX11_isList_34 : decode cX11_isList 34 = .ok (.iconst 0, 1) := by decide +kernel
theorem dX11_isList_35 : decode cX11_isList 35 = .ok (.ireturn, 1) := by decide +kernel
theorem dX11_sizes_0 : decode cX11_sizes 0 = .ok (.aload_n 0, 1) := by decide +kernel
theorem dX11_sizes_1 : decode cX11_sizes 1 = .ok (.iload_n 1, 1) := by decide +kernel
theorem dX11_sizes_2 : decode cX11_sizes 2 = .ok (.putfield 106, 3) := by decide +kernel
theorem dX11_sizes_5 : decode cX11_sizes 5 = .ok (.aload_n 0, 1) := by decide +kernel
theorem dX11_sizes_6 : decode cX11_sizes 6 = .ok (.iload_n 2, 1) := by decide +kernel
theorem dX11_sizes_7 : decode cX11_sizes 7 = .ok (.putfield 109, 3) := by decide +kernel
theorem dX11_sizes_10 : decode cX11_sizes 10 = .ok (.aload_n 0, 1) := by decide +kernel
theorem dX11_sizes_11 : decode cX11_sizes 11 = .ok (.aload_n 0, 1) := by decide +kernel
theorem dX11_sizes_12 : decode cX11_sizes 12 = .ok (.getfield 106, 3) := by decide +kernel
theorem dX11_sizes_15 : decode cX11_sizes 15 = .ok (.aload_n 0, 1) := by decide +kernel
theorem dX11_sizes_16 : decode cX11_sizes 16 = .ok (.getfield 109, 3) := by decide +kernel
theorem dX11_sizes_19 : decode cX11_sizes 19 = .ok (.invokestatic 102, 3) := by decide +kernel
theorem dX11_sizes_22 : decode cX11_sizes 22 = .ok (.putfield 112, 3) := by decide +kernel
theorem dX11_sizes_25 : decode cX11_sizes 25 = .ok (.return_, 1) := by decide +kernel
theorem dX11_list_0 : decode cX11_list 0 = .ok (.aload_n 0, 1) := by decide +kernel
theorem dX11_list_1 : decode cX11_list 1 = .ok (.iload_n 1, 1) := by decide +kernel
theorem dX11_list_2 : decode cX11_list 2 = .ok (.iload_n 2, 1) := by decide +kernel
theorem dX11_list_3 : decode cX11_list 3 = .ok (.invokevirtual 368, 3) := by decide +kernel
theorem dX11_list_6 : decode cX11_list 6 = .ok (.ifCond .eq 12, 3) := by decide +kernel
theorem dX11_list_9 : decode cX11_list 9 = .ok (.iload_n 3, 1) := by decide +kernel
theorem dX11_list_10 : decode cX11_list 10 = .ok (.iconst 0, 1) := by decide +kernel
theorem dX11_list_11 : decode cX11_list 11 = .ok (.iconst 2, 1) := by decide +kernel
theorem dX11_list_12 : decode cX11_list 12 = .ok (.invokestatic 98, 3) := by decide +kernel
theorem dX11_list_15 : decode cX11_list 15 = .ok (.ifCond .ne 5, 3) := by decide +kernel
theorem dX11_list_18 : decode cX11_list 18 = .ok (.iconst (-1), 1) := by decide +kernel
theorem dX11_list_19 : decode cX11_list 19 = .ok (.ireturn, 1) := by decide +kernel
theorem dX11_list_20 : decode cX11_list 20 = .ok (.aload_n 0, 1) := by decide +kernel
theorem dX11_list_21 : decode cX11_list 21 = .ok (.iload_n 1, 1) := by decide +kernel
theorem dX11_list_22 : decode cX11_list 22 = .ok (.iload_n 2, 1) := by decide +kernel
theorem dX11_list_23 : decode cX11_list 23 = .ok (.invokevirtual 371, 3) := by decide +kernel
theorem dX11_list_26 : decode cX11_list 26 = .ok (.aload_n 0, 1) := by decide +kernel
theorem dX11_list_27 : decode cX11_list 27 = .ok (.getfield 106, 3) := by decide +kernel
theorem dX11_list_30 : decode cX11_list 30 = .ok (.aload_n 0, 1) := by decide +kernel
theorem dX11_list_31 : decode cX11_list 31 = .ok (.getfield 109, 3) := by decide +kernel
theorem dX11_list_34 : decode cX11_list 34 = .ok (.iconst 1, 1) := by decide +kernel
theorem dX11_list_35 : decode cX11_list 35 = .ok (.isub, 1) := by decide +kernel
theorem dX11_list_36 : decode cX11_list 36 = .ok (.aload_n 0, 1) := by decide +kernel
theorem dX11_list_37 : decode cX11_list 37 = .ok (.getfield 109, 3) := by decide +kernel
theorem dX11_list_40 : decode cX11_list 40 = .ok (.iconst 1, 1) := by decide +kernel
theorem dX11_list_41 : decode cX11_list 41 = .ok (.isub, 1) := by decide +kernel
theorem dX11_list_42 : decode cX11_list 42 = .ok (.imul, 1) := by decide +kernel
theorem dX11_list_43 : decode cX11_list 43 = .ok (.aload_n 0, 1) := by decide +kernel
theorem dX11_list_44 : decode cX11_list 44 = .ok (.getfield 109, 3) := by decide +kernel
theorem dX11_list_47 : decode cX11_list 47 = .ok (.imul, 1) := by decide +kernel
theorem dX11_list_48 : decode cX11_list 48 = .ok (.invokestatic 102, 3) := by decide +kernel
theorem dX11_list_51 : decode cX11_list 51 = .ok (.istore 4, 2) := by decide +kernel
theorem dX11_list_53 : decode cX11_list 53 = .ok (.iconst 0, 1) := by decide +kernel
theorem dX11_list_54 : decode cX11_list 54 = .ok (.istore 5, 2) := by decide +kernel
theorem dX11_list_56 : decode cX11_list 56 = .ok (.iconst 0, 1) := by decide +kernel
theorem dX11_list_57 : decode cX11_list 57 = .ok (.istore 6, 2) := by decide +kernel
theorem dX11_list_59 : decode cX11_list 59 = .ok (.iload 6, 2) := by decide +kernel
theorem dX11_list_61 : decode cX11_list 61 = .ok (.iload 4, 2) := by decide +kernel
theorem dX11_list_63 : decode cX11_list 63 = .ok (.if_icmp .ge 62, 3) := by decide +kernel
theorem dX11_list_66 : decode cX11_list 66 = .ok (.aload_n 0, 1) := by decide +kernel
theorem dX11_list_67 : decode cX11_list 67 = .ok (.iload 6, 2) := by decide +kernel
theorem dX11_list_69 : decode cX11_list 69 = .ok (.invokevirtual 374, 3) := by decide +kernel
theorem dX11_list_72 : decode cX11_list 72 = .ok (.iload 5, 2) := by decide +kernel
theorem dX11_list_74 : decode cX11_list 74 = .ok (.aload_n 0, 1) := by decide +kernel
theorem dX11_list_75 : decode cX11_list 75 = .ok (.invokevirtual 275, 3) := by decide +kernel
theorem dX11_list_78 : decode cX11_list 78 = .ok (.iconst (-1), 1) := by decide +kernel
theorem dX11_list_79 : decode cX11_list 79 = .ok (.if_icmp .ne 36, 3) := by decide +kernel
theorem dX11_list_82 : decode cX11_list 82 = .ok (.iload_n 3, 1) := by decide +kernel
theorem dX11_list_83 : decode cX11_list 83 = .ok (.ifCond .eq 28, 3) := by decide +kernel
theorem dX11_list_86 : decode cX11_list 86 = .ok (.iload_n 3, 1) := by decide +kernel
theorem dX11_list_87 : decode cX11_list 87 = .ok (.iconst 1, 1) := by decide +kernel
theorem dX11_list_88 : decode cX11_list 88 = .ok (.if_icmp .ne 10, 3) := by decide +kernel
theorem dX11_list_91 : decode cX11_list 91 = .ok (.aload_n 0, 1) := by decide +kernel
theorem dX11_list_92 : decode cX11_list 92 = .ok (.invokevirtual 285, 3) := by decide +kernel
theorem dX11_list_95 : decode cX11_list 95 = .ok (.ifCond .ne 16, 3) := by decide +kernel
theorem dX11_list_98 : decode cX11_list 98 = .ok (.iload_n 3, 1) := by decide +kernel
theorem dX11_list_99 : decode cX11_list 99 = .ok (.iconst 2, 1) := by decide +kernel
theorem dX11_list_100 : decode cX11_list 100 = .ok (.if_icmp .ne 15, 3) := by decide +kernel
theorem dX11_list_103 : decode cX11_list 103 = .ok (.aload_n 0, 1) := by decide +kernel
theorem dX11_list_104 : decode cX11_list 104 = .ok (.invokevirtual 288, 3) := by decide +kernel
theorem dX11_list_107 : decode cX11_list 107 = .ok (.iconst (-1), 1) := by decide +kernel
theorem dX11_list_108 : decode cX11_list 108 = .ok (.if_icmp .ne 7, 3) := by decide +kernel
theorem dX11_list_111 : decode cX11_list 111 = .ok (.iconst 1, 1) := by decide +kernel
theorem dX11_list_112 : decode cX11_list 112 = .ok (.goto 4, 3) := by decide +kernel
theorem dX11_list_115 : decode cX11_list 115 = .ok (.iconst 0, 1) := by decide +kernel
theorem dX11_list_116 : decode cX11_list 116 = .ok (.iadd, 1) := by decide +kernel
theorem dX11_list_117 : decode cX11_list 117 = .ok (.istore 5, 2) := by decide +kernel
theorem dX11_list_119 : decode cX11_list 119 = .ok (.iinc 6 1, 3) := by decide +kernel
theorem dX11_list_122 : decode cX11_list 122 = .ok (.goto (-63), 3) := by decide +kernel
theorem dX11_list_125 : decode cX11_list 125 = .ok (.iload 5, 2) := by decide +kernel
theorem dX11_list_127 : decode cX11_list 127 = .ok (.ireturn, 1) := by decide +kernel
theorem dX11_take_0 : decode cX11_take 0 = .ok (.aload_n 0, 1) := by decide +kernel
theorem dX11_take_1 : decode cX11_take 1 = .ok (.iload_n 1, 1) := by decide +kernel
theorem dX11_take_2 : decode cX11_take 2 = .ok (.iload_n 2, 1) := by decide +kernel
theorem dX11_take_3 : decode cX11_take 3 = .ok (.invokevirtual 368, 3) := by decide +kernel
theorem dX11_take_6 : decode cX11_take 6 = .ok (.ifCond .eq 15, 3) := by decide +kernel
theorem dX11_take_9 : decode cX11_take 9 = .ok (.iload_n 3, 1) := by decide +kernel
theorem dX11_take_10 : decode cX11_take 10 = .ok (.ifCond .lt 11, 3) := by decide +kernel
theorem dX11_take_13 : decode cX11_take 13 = .ok (.iload 4, 2) := by decide +kernel
theorem dX11_take_15 : decode cX11_take 15 = .ok (.invokestatic 143, 3) := by decide +kernel
theorem dX11_take_18 : decode cX11_take 18 = .ok (.ifCond .ne 5, 3) := by decide +kernel
theorem dX11_take_21 : decode cX11_take 21 = .ok (.iconst 0, 1) := by decide +kernel
theorem dX11_take_22 : decode cX11_take 22 = .ok (.ireturn, 1) := by decide +kernel
theorem dX11_take_23 : decode cX11_take 23 = .ok (.aload_n 0, 1) := by decide +kernel
theorem dX11_take_24 : decode cX11_take 24 = .ok (.iload_n 1, 1) := by decide +kernel
theorem dX11_take_25 : decode cX11_take 25 = .ok (.iload_n 2, 1) := by decide +kernel
theorem dX11_take_26 : decode cX11_take 26 = .ok (.invokevirtual 371, 3) := by decide +kernel
theorem dX11_take_29 : decode cX11_take 29 = .ok (.aload_n 0, 1) := by decide +kernel
theorem dX11_take_30 : decode cX11_take 30 = .ok (.getfield 106, 3) := by decide +kernel
theorem dX11_take_33 : decode cX11_take 33 = .ok (.aload_n 0, 1) := by decide +kernel
theorem dX11_take_34 : decode cX11_take 34 = .ok (.getfield 109, 3) := by decide +kernel
theorem dX11_take_37 : decode cX11_take 37 = .ok (.iconst 1, 1) := by decide +kernel
theorem dX11_take_38 : decode cX11_take 38 = .ok (.isub, 1) := by decide +kernel
theorem dX11_take_39 : decode cX11_take 39 = .ok (.aload_n 0, 1) := by decide +kernel
theorem dX11_take_40 : decode cX11_take 40 = .ok (.getfield 109, 3) := by decide +kernel
theorem dX11_take_43 : decode cX11_take 43 = .ok (.iconst 1, 1) := by decide +kernel
theorem dX11_take_44 : decode cX11_take 44 = .ok (.isub, 1) := by decide +kernel
theorem dX11_take_45 : decode cX11_take 45 = .ok (.imul, 1) := by decide +kernel
theorem dX11_take_46 : decode cX11_take 46 = .ok (.aload_n 0, 1) := by decide +kernel
theorem dX11_take_47 : decode cX11_take 47 = .ok (.getfield 109, 3) := by decide +kernel
theorem dX11_take_50 : decode cX11_take 50 = .ok (.imul, 1) := by decide +kernel
theorem dX11_take_51 : decode cX11_take 51 = .ok (.invokestatic 102, 3) := by decide +kernel
theorem dX11_take_54 : decode cX11_take 54 = .ok (.istore 5, 2) := by decide +kernel
theorem dX11_take_56 : decode cX11_take 56 = .ok (.iload_n 3, 1) := by decide +kernel
theorem dX11_take_57 : decode cX11_take 57 = .ok (.istore 6, 2) := by decide +kernel
theorem dX11_take_59 : decode cX11_take 59 = .ok (.iconst 0, 1) := by decide +kernel
theorem dX11_take_60 : decode cX11_take 60 = .ok (.istore 7, 2) := by decide +kernel
theorem dX11_take_62 : decode cX11_take 62 = .ok (.iload 7, 2) := by decide +kernel
theorem dX11_take_64 : decode cX11_take 64 = .ok (.iload 5, 2) := by decide +kernel
theorem dX11_take_66 : decode cX11_take 66 = .ok (.if_icmp .ge 46, 3) := by decide +kernel
theorem dX11_take_69 : decode cX11_take 69 = .ok (.aload_n 0, 1) := by decide +kernel
theorem dX11_take_70 : decode cX11_take 70 = .ok (.iload 7, 2) := by decide +kernel
theorem dX11_take_72 : decode cX11_take 72 = .ok (.invokevirtual 374, 3) := by decide +kernel
theorem dX11_take_75 : decode cX11_take 75 = .ok (.aload_n 0, 1) := by decide +kernel
theorem dX11_take_76 : decode cX11_take 76 = .ok (.invokevirtual 275, 3) := by decide +kernel
theorem dX11_take_79 : decode cX11_take 79 = .ok (.iconst (-1), 1) := by decide +kernel
theorem dX11_take_80 : decode cX11_take 80 = .ok (.if_icmp .eq 6, 3) := by decide +kernel
theorem dX11_take_83 : decode cX11_take 83 = .ok (.goto 23, 3) := by decide +kernel
theorem dX11_take_86 : decode cX11_take 86 = .ok (.iload 6, 2) := by decide +kernel
theorem dX11_take_88 : decode cX11_take 88 = .ok (.ifCond .ne 15, 3) := by decide +kernel
theorem dX11_take_91 : decode cX11_take 91 = .ok (.aload_n 0, 1) := by decide +kernel
theorem dX11_take_92 : decode cX11_take 92 = .ok (.iload 4, 2) := by decide +kernel
theorem dX11_take_94 : decode cX11_take 94 = .ok (.aload_n 0, 1) := by decide +kernel
theorem dX11_take_95 : decode cX11_take 95 = .ok (.getfield 16, 3) := by decide +kernel
theorem dX11_take_98 : decode cX11_take 98 = .ok (.invokevirtual 154, 3) := by decide +kernel
theorem dX11_take_101 : decode cX11_take 101 = .ok (.iconst 1, 1) := by decide +kernel
theorem dX11_take_102 : decode cX11_take 102 = .ok (.ireturn, 1) := by decide +kernel
theorem dX11_take_103 : decode cX11_take 103 = .ok (.iinc 6 (-1), 3) := by decide +kernel
theorem dX11_take_106 : decode cX11_take 106 = .ok (.iinc 7 1, 3) := by decide +kernel
theorem dX11_take_109 : decode cX11_take 109 = .ok (.goto (-47), 3) := by decide +kernel
theorem dX11_take_112 : decode cX11_take 112 = .ok (.iconst 0, 1) := by decide +kernel
theorem dX11_take_113 : decode cX11_take 113 = .ok (.ireturn, 1) := by decide +kernel
theorem dX11_image_0 : decode cX11_image 0 = .ok (.iload_n 1, 1) := by decide +kernel
theorem dX11_image_1 : decode cX11_image 1 = .ok (.ifCond .ne 12, 3) := by decide +kernel
theorem dX11_image_4 : decode cX11_image 4 = .ok (.aload_n 0, 1) := by decide +kernel
theorem dX11_image_5 : decode cX11_image 5 = .ok (.getfield 377, 3) := by decide +kernel
theorem dX11_image_8 : decode cX11_image 8 = .ok (.ifCond .ne 5, 3) := by decide +kernel
theorem dX11_image_11 : decode cX11_image 11 = .ok (.iconst 0, 1) := by decide +kernel
theorem dX11_image_12 : decode cX11_image 12 = .ok (.ireturn, 1) := by decide +kernel
theorem dX11_image_13 : decode cX11_image 13 = .ok (.iconst 0, 1) := by decide +kernel
theorem dX11_image_14 : decode cX11_image 14 = .ok (.istore_n 2, 1) := by decide +kernel
theorem dX11_image_15 : decode cX11_image 15 = .ok (.iload_n 2, 1) := by decide +kernel
theorem dX11_image_16 : decode cX11_image 16 = .ok (.sipush 6070, 3) := by decide +kernel
theorem dX11_image_19 : decode cX11_image 19 = .ok (.if_icmp .ge 40, 3) := by decide +kernel
theorem dX11_image_22 : decode cX11_image 22 = .ok (.iload_n 1, 1) := by decide +kernel
theorem dX11_image_23 : decode cX11_image 23 = .ok (.ifCond .eq 18, 3) := by decide +kernel
theorem dX11_image_26 : decode cX11_image 26 = .ok (.aload_n 0, 1) := by decide +kernel
theorem dX11_image_27 : decode cX11_image 27 = .ok (.getfield 13, 3) := by decide +kernel
theorem dX11_image_30 : decode cX11_image 30 = .ok (.iload_n 2, 1) := by decide +kernel
theorem dX11_image_31 : decode cX11_image 31 = .ok (.aload_n 0, 1) := by decide +kernel
theorem dX11_image_32 : decode cX11_image 32 = .ok (.getfield 7, 3) := by decide +kernel
theorem dX11_image_35 : decode cX11_image 35 = .ok (.iload_n 2, 1) := by decide +kernel
theorem dX11_image_36 : decode cX11_image 36 = .ok (.iaload, 1) := by decide +kernel
theorem dX11_image_37 : decode cX11_image 37 = .ok (.iastore, 1) := by decide +kernel
theorem dX11_image_38 : decode cX11_image 38 = .ok (.goto 15, 3) := by decide +kernel
theorem dX11_image_41 : decode cX11_image 41 = .ok (.aload_n 0, 1) := by decide +kernel
theorem dX11_image_42 : decode cX11_image 42 = .ok (.getfield 7, 3) := by decide +kernel
theorem dX11_image_45 : decode cX11_image 45 = .ok (.iload_n 2, 1) := by decide +kernel
theorem dX11_image_46 : decode cX11_image 46 = .ok (.aload_n 0, 1) := by decide +kernel
theorem dX11_image_47 : decode cX11_image 47 = .ok (.getfield 13, 3) := by decide +kernel
theorem dX11_image_50 : decode cX11_image 50 = .ok (.iload_n 2, 1) := by decide +kernel
theorem dX11_image_51 : decode cX11_image 51 = .ok (.iaload, 1) := by decide +kernel
theorem dX11_image_52 : decode cX11_image 52 = .ok (.iastore, 1) := by decide +kernel
theorem dX11_image_53 : decode cX11_image 53 = .ok (.iinc 2 1, 3) := by decide +kernel
theorem dX11_image_56 : decode cX11_image 56 = .ok (.goto (-41), 3) := by decide +kernel
theorem dX11_image_59 : decode cX11_image 59 = .ok (.aload_n 0, 1) := by decide +kernel
theorem dX11_image_60 : decode cX11_image 60 = .ok (.iconst 1, 1) := by decide +kernel
theorem dX11_image_61 : decode cX11_image 61 = .ok (.putfield 377, 3) := by decide +kernel
theorem dX11_image_64 : decode cX11_image 64 = .ok (.iconst 1, 1) := by decide +kernel
theorem dX11_image_65 : decode cX11_image 65 = .ok (.ireturn, 1) := by decide +kernel
theorem dX11_look_0 : decode cX11_look 0 = .ok (.iload_n 1, 1) := by decide +kernel
theorem dX11_look_1 : decode cX11_look 1 = .ok (.ifCond .ne 14, 3) := by decide +kernel
theorem dX11_look_4 : decode cX11_look 4 = .ok (.aload_n 0, 1) := by decide +kernel
theorem dX11_look_5 : decode cX11_look 5 = .ok (.getfield 7, 3) := by decide +kernel
theorem dX11_look_8 : decode cX11_look 8 = .ok (.sipush 820, 3) := by decide +kernel
theorem dX11_look_11 : decode cX11_look 11 = .ok (.iaload, 1) := by decide +kernel
theorem dX11_look_12 : decode cX11_look 12 = .ok (.goto 47, 3) := by decide +kernel
theorem dX11_look_15 : decode cX11_look 15 = .ok (.iload_n 1, 1) := by decide +kernel
theorem dX11_look_16 : decode cX11_look 16 = .ok (.iconst 1, 1) := by decide +kernel
theorem dX11_look_17 : decode cX11_look 17 = .ok (.if_icmp .ne 14, 3) := by decide +kernel
theorem dX11_look_20 : decode cX11_look 20 = .ok (.aload_n 0, 1) := by decide +kernel
theorem dX11_look_21 : decode cX11_look 21 = .ok (.getfield 7, 3) := by decide +kernel
theorem dX11_look_24 : decode cX11_look 24 = .ok (.sipush 821, 3) := by decide +kernel
theorem dX11_look_27 : decode cX11_look 27 = .ok (.iaload, 1) := by decide +kernel
theorem dX11_look_28 : decode cX11_look 28 = .ok (.goto 31, 3) := by decide +kernel
theorem dX11_look_31 : decode cX11_look 31 = .ok (.iload_n 1, 1) := by decide +kernel
theorem dX11_look_32 : decode cX11_look 32 = .ok (.bipush 10, 2) := by decide +kernel
theorem dX11_look_34 : decode cX11_look 34 = .ok (.bipush 24, 2) := by decide +kernel
theorem dX11_look_36 : decode cX11_look 36 = .ok (.invokestatic 98, 3) := by decide +kernel
theorem dX11_look_39 : decode cX11_look 39 = .ok (.ifCond .eq 19, 3) := by decide +kernel
theorem dX11_look_42 : decode cX11_look 42 = .ok (.aload_n 0, 1) := by decide +kernel
theorem dX11_look_43 : decode cX11_look 43 = .ok (.getfield 7, 3) := by decide +kernel
theorem dX11_look_46 : decode cX11_look 46 = .ok (.sipush 800, 3) := by decide +kernel
theorem dX11_look_49 : decode cX11_look 49 = .ok (.iload_n 1, 1) := by decide +kernel
theorem dX11_look_50 : decode cX11_look 50 = .ok (.iadd, 1) := by decide +kernel
theorem dX11_look_51 : decode cX11_look 51 = .ok (.bipush 10, 2) := by decide +kernel
theorem dX11_look_53 : decode cX11_look 53 = .ok (.isub, 1) := by decide +kernel
theorem dX11_look_54 : decode cX11_look 54 = .ok (.iaload, 1) := by decide +kernel
theorem dX11_look_55 : decode cX11_look 55 = .ok (.goto 4, 3) := by decide +kernel
theorem dX11_look_58 : decode cX11_look 58 = .ok (.iconst (-1), 1) := by decide +kernel
theorem dX11_look_59 : decode cX11_look 59 = .ok (.ireturn, 1) := by decide +kernel
