theorem dX11_init_0 : decode cX11_init 0 = .ok (.aload_n 0, 1) := by decide +kernel
theorem dX11_init_1 : decode cX11_init 1 = .ok (.invokespecial 1, 3) := by decide +kernel
theorem dX11_init_4 : decode cX11_init 4 = .ok (.aload_n 0, 1) := by decide +kernel
theorem dX11_init_5 : decode cX11_init 5 = .ok (.iconst 2, 1) := by decide +kernel
theorem dX11_init_6 : decode cX11_init 6 = .ok (.putfield 7, 3) := by decide +kernel
theorem dX11_init_9 : decode cX11_init 9 = .ok (.aload_n 0, 1) := by decide +kernel
theorem dX11_init_10 : decode cX11_init 10 = .ok (.iconst 1, 1) := by decide +kernel
theorem dX11_init_11 : decode cX11_init 11 = .ok (.putfield 13, 3) := by decide +kernel
theorem dX11_init_14 : decode cX11_init 14 = .ok (.aload_n 0, 1) := by decide +kernel
theorem dX11_init_15 : decode cX11_init 15 = .ok (.iconst 2, 1) := by decide +kernel
theorem dX11_init_16 : decode cX11_init 16 = .ok (.putfield 16, 3) := by decide +kernel
theorem dX11_init_19 : decode cX11_init 19 = .ok (.aload_n 0, 1) := by decide +kernel
theorem dX11_init_20 : decode cX11_init 20 = .ok (.iconst 5, 1) := by decide +kernel
theorem dX11_init_21 : decode cX11_init 21 = .ok (.iconst 5, 1) := by decide +kernel
theorem dX11_init_22 : decode cX11_init 22 = .ok (.iconst 5, 1) := by decide +kernel
theorem dX11_init_23 : decode cX11_init 23 = .ok (.multianewarray 19 3, 4) := by decide +kernel
theorem dX11_init_27 : decode cX11_init 27 = .ok (.putfield 21, 3) := by decide +kernel
theorem dX11_init_30 : decode cX11_init 30 = .ok (.return_, 1) := by decide +kernel
theorem dX11_copy_0 : decode cX11_copy 0 = .ok (.new 8, 3) := by decide +kernel
theorem dX11_copy_3 : decode cX11_copy 3 = .ok (.dup, 1) := by decide +kernel
theorem dX11_copy_4 : decode cX11_copy 4 = .ok (.invokespecial 24, 3) := by decide +kernel
theorem dX11_copy_7 : decode cX11_copy 7 = .ok (.astore_n 1, 1) := by decide +kernel
theorem dX11_copy_8 : decode cX11_copy 8 = .ok (.aload_n 1, 1) := by decide +kernel
theorem dX11_copy_9 : decode cX11_copy 9 = .ok (.aload_n 0, 1) := by decide +kernel
theorem dX11_copy_10 : decode cX11_copy 10 = .ok (.getfield 7, 3) := by decide +kernel
theorem dX11_copy_13 : decode cX11_copy 13 = .ok (.aload_n 0, 1) := by decide +kernel
theorem dX11_copy_14 : decode cX11_copy 14 = .ok (.getfield 13, 3) := by decide +kernel
theorem dX11_copy_17 : decode cX11_copy 17 = .ok (.invokevirtual 25, 3) := by decide +kernel
theorem dX11_copy_20 : decode cX11_copy 20 = .ok (.iconst 0, 1) := by decide +kernel
theorem dX11_copy_21 : decode cX11_copy 21 = .ok (.istore_n 2, 1) := by decide +kernel
theorem dX11_copy_22 : decode cX11_copy 22 = .ok (.iload_n 2, 1) := by decide +kernel
theorem dX11_copy_23 : decode cX11_copy 23 = .ok (.iconst 5, 1) := by decide +kernel
theorem dX11_copy_24 : decode cX11_copy 24 = .ok (.if_icmp .ge 59, 3) := by decide +kernel
theorem dX11_copy_27 : decode cX11_copy 27 = .ok (.iconst 0, 1) := by decide +kernel
theorem dX11_copy_28 : decode cX11_copy 28 = .ok (.istore_n 3, 1) := by decide +kernel
theorem dX11_copy_29 : decode cX11_copy 29 = .ok (.iload_n 3, 1) := by decide +kernel
theorem dX11_copy_30 : decode cX11_copy 30 = .ok (.iconst 5, 1) := by decide +kernel
theorem dX11_copy_31 : decode cX11_copy 31 = .ok (.if_icmp .ge 46, 3) := by decide +kernel
theorem dX11_copy_34 : decode cX11_copy 34 = .ok (.iconst 0, 1) := by decide +kernel
theorem dX11_copy_35 : decode cX11_copy 35 = .ok (.istore 4, 2) := by decide +kernel
theorem dX11_copy_37 : decode cX11_copy 37 = .ok (.iload 4, 2) := by decide +kernel
theorem dX11_copy_39 : decode cX11_copy 39 = .ok (.iconst 5, 1) := by decide +kernel
theorem dX11_copy_40 : decode cX11_copy 40 = .ok (.if_icmp .ge 31, 3) := by decide +kernel
theorem dX11_copy_43 : decode cX11_copy 43 = .ok (.aload_n 1, 1) := by decide +kernel
theorem dX11_copy_44 : decode cX11_copy 44 = .ok (.getfield 21, 3) := by decide +kernel
theorem dX11_copy_47 : decode cX11_copy 47 = .ok (.iload_n 2, 1) := by decide +kernel
theorem dX11_copy_48 : decode cX11_copy 48 = .ok (.aaload, 1) := by decide +kernel
theorem dX11_copy_49 : decode cX11_copy 49 = .ok (.iload_n 3, 1) := by decide +kernel
theorem dX11_copy_50 : decode cX11_copy 50 = .ok (.aaload, 1) := by decide +kernel
theorem dX11_copy_51 : decode cX11_copy 51 = .ok (.iload 4, 2) := by decide +kernel
theorem dX11_copy_53 : decode cX11_copy 53 = .ok (.aload_n 0, 1) := by decide +kernel
theorem dX11_copy_54 : decode cX11_copy 54 = .ok (.getfield 21, 3) := by decide +kernel
theorem dX11_copy_57 : decode cX11_copy 57 = .ok (.iload_n 2, 1) := by decide +kernel
theorem dX11_copy_58 : decode cX11_copy 58 = .ok (.aaload, 1) := by decide +kernel
theorem dX11_copy_59 : decode cX11_copy 59 = .ok (.iload_n 3, 1) := by decide +kernel
theorem dX11_copy_60 : decode cX11_copy 60 = .ok (.aaload, 1) := by decide +kernel
theorem dX11_copy_61 : decode cX11_copy 61 = .ok (.iload 4, 2) := by decide +kernel
theorem dX11_copy_63 : decode cX11_copy 63 = .ok (.iaload, 1) := by decide +kernel
theorem dX11_copy_64 : decode cX11_copy 64 = .ok (.iastore, 1) := by decide +kernel
theorem dX11_copy_65 : decode cX11_copy 65 = .ok (.iinc 4 1, 3) := by decide +kernel
theorem dX11_copy_68 : decode cX11_copy 68 = .ok (.goto (-31), 3) := by decide +kernel
theorem dX11_copy_71 : decode cX11_copy 71 = .ok (.iinc 3 1, 3) := by decide +kernel
theorem dX11_copy_74 : decode cX11_copy 74 = .ok (.goto (-45), 3) := by decide +kernel
theorem dX11_copy_77 : decode cX11_copy 77 = .ok (.iinc 2 1, 3) := by decide +kernel
theorem dX11_copy_80 : decode cX11_copy 80 = .ok (.goto (-58), 3) := by decide +kernel
theorem dX11_copy_83 : decode cX11_copy 83 = .ok (.aload_n 1, 1) := by decide +kernel
theorem dX11_copy_84 : decode cX11_copy 84 = .ok (.areturn, 1) := by decide +kernel
theorem dX11_sizes_0 : decode cX11_sizes 0 = .ok (.aload_n 0, 1) := by decide +kernel
theorem dX11_sizes_1 : decode cX11_sizes 1 = .ok (.iload_n 1, 1) := by decide +kernel
theorem dX11_sizes_2 : decode cX11_sizes 2 = .ok (.putfield 7, 3) := by decide +kernel
theorem dX11_sizes_5 : decode cX11_sizes 5 = .ok (.aload_n 0, 1) := by decide +kernel
theorem dX11_sizes_6 : decode cX11_sizes 6 = .ok (.iload_n 2, 1) := by decide +kernel
theorem dX11_sizes_7 : decode cX11_sizes 7 = .ok (.putfield 13, 3) := by decide +kernel
theorem dX11_sizes_10 : decode cX11_sizes 10 = .ok (.aload_n 0, 1) := by decide +kernel
theorem dX11_sizes_11 : decode cX11_sizes 11 = .ok (.iconst 1, 1) := by decide +kernel
theorem dX11_sizes_12 : decode cX11_sizes 12 = .ok (.putfield 16, 3) := by decide +kernel
theorem dX11_sizes_15 : decode cX11_sizes 15 = .ok (.iconst 0, 1) := by decide +kernel
theorem dX11_sizes_16 : decode cX11_sizes 16 = .ok (.istore_n 3, 1) := by decide +kernel
theorem dX11_sizes_17 : decode cX11_sizes 17 = .ok (.iload_n 3, 1) := by decide +kernel
theorem dX11_sizes_18 : decode cX11_sizes 18 = .ok (.aload_n 0, 1) := by decide +kernel
theorem dX11_sizes_19 : decode cX11_sizes 19 = .ok (.getfield 13, 3) := by decide +kernel
theorem dX11_sizes_22 : decode cX11_sizes 22 = .ok (.if_icmp .ge 22, 3) := by decide +kernel
theorem dX11_sizes_25 : decode cX11_sizes 25 = .ok (.aload_n 0, 1) := by decide +kernel
theorem dX11_sizes_26 : decode cX11_sizes 26 = .ok (.dup, 1) := by decide +kernel
theorem dX11_sizes_27 : decode cX11_sizes 27 = .ok (.getfield 16, 3) := by decide +kernel
theorem dX11_sizes_30 : decode cX11_sizes 30 = .ok (.aload_n 0, 1) := by decide +kernel
theorem dX11_sizes_31 : decode cX11_sizes 31 = .ok (.getfield 7, 3) := by decide +kernel
theorem dX11_sizes_34 : decode cX11_sizes 34 = .ok (.imul, 1) := by decide +kernel
theorem dX11_sizes_35 : decode cX11_sizes 35 = .ok (.putfield 16, 3) := by decide +kernel
theorem dX11_sizes_38 : decode cX11_sizes 38 = .ok (.iinc 3 1, 3) := by decide +kernel
theorem dX11_sizes_41 : decode cX11_sizes 41 = .ok (.goto (-24), 3) := by decide +kernel
theorem dX11_sizes_44 : decode cX11_sizes 44 = .ok (.return_, 1) := by decide +kernel
theorem dX11_digit_0 : decode cX11_digit 0 = .ok (.iconst 0, 1) := by decide +kernel
theorem dX11_digit_1 : decode cX11_digit 1 = .ok (.istore_n 3, 1) := by decide +kernel
theorem dX11_digit_2 : decode cX11_digit 2 = .ok (.iload_n 3, 1) := by decide +kernel
theorem dX11_digit_3 : decode cX11_digit 3 = .ok (.iload_n 2, 1) := by decide +kernel
theorem dX11_digit_4 : decode cX11_digit 4 = .ok (.if_icmp .ge 16, 3) := by decide +kernel
theorem dX11_digit_7 : decode cX11_digit 7 = .ok (.iload_n 1, 1) := by decide +kernel
theorem dX11_digit_8 : decode cX11_digit 8 = .ok (.aload_n 0, 1) := by decide +kernel
theorem dX11_digit_9 : decode cX11_digit 9 = .ok (.getfield 7, 3) := by decide +kernel
theorem dX11_digit_12 : decode cX11_digit 12 = .ok (.idiv, 1) := by decide +kernel
theorem dX11_digit_13 : decode cX11_digit 13 = .ok (.istore_n 1, 1) := by decide +kernel
theorem dX11_digit_14 : decode cX11_digit 14 = .ok (.iinc 3 1, 3) := by decide +kernel
theorem dX11_digit_17 : decode cX11_digit 17 = .ok (.goto (-15), 3) := by decide +kernel
theorem dX11_digit_20 : decode cX11_digit 20 = .ok (.iload_n 1, 1) := by decide +kernel
theorem dX11_digit_21 : decode cX11_digit 21 = .ok (.aload_n 0, 1) := by decide +kernel
theorem dX11_digit_22 : decode cX11_digit 22 = .ok (.getfield 7, 3) := by decide +kernel
theorem dX11_digit_25 : decode cX11_digit 25 = .ok (.irem, 1) := by decide +kernel
theorem dX11_digit_26 : decode cX11_digit 26 = .ok (.ireturn, 1) := by decide +kernel
theorem dX11_plus_0 : decode cX11_plus 0 = .ok (.iconst 0, 1) := by decide +kernel
theorem dX11_plus_1 : decode cX11_plus 1 = .ok (.istore_n 3, 1) := by decide +kernel
theorem dX11_plus_2 : decode cX11_plus 2 = .ok (.iconst 1, 1) := by decide +kernel
theorem dX11_plus_3 : decode cX11_plus 3 = .ok (.istore 4, 2) := by decide +kernel
theorem dX11_plus_5 : decode cX11_plus 5 = .ok (.iconst 0, 1) := by decide +kernel
theorem dX11_plus_6 : decode cX11_plus 6 = .ok (.istore 5, 2) := by decide +kernel
theorem dX11_plus_8 : decode cX11_plus 8 = .ok (.iload 5, 2) := by decide +kernel
theorem dX11_plus_10 : decode cX11_plus 10 = .ok (.aload_n 0, 1) := by decide +kernel
theorem dX11_plus_11 : decode cX11_plus 11 = .ok (.getfield 13, 3) := by decide +kernel
theorem dX11_plus_14 : decode cX11_plus 14 = .ok (.if_icmp .ge 44, 3) := by decide +kernel
theorem dX11_plus_17 : decode cX11_plus 17 = .ok (.iload_n 3, 1) := by decide +kernel
theorem dX11_plus_18 : decode cX11_plus 18 = .ok (.aload_n 0, 1) := by decide +kernel
theorem dX11_plus_19 : decode cX11_plus 19 = .ok (.iload_n 1, 1) := by decide +kernel
theorem dX11_plus_20 : decode cX11_plus 20 = .ok (.iload 5, 2) := by decide +kernel
theorem dX11_plus_22 : decode cX11_plus 22 = .ok (.invokevirtual 29, 3) := by decide +kernel
theorem dX11_plus_25 : decode cX11_plus 25 = .ok (.aload_n 0, 1) := by decide +kernel
theorem dX11_plus_26 : decode cX11_plus 26 = .ok (.iload_n 2, 1) := by decide +kernel
theorem dX11_plus_27 : decode cX11_plus 27 = .ok (.iload 5, 2) := by decide +kernel
theorem dX11_plus_29 : decode cX11_plus 29 = .ok (.invokevirtual 29, 3) := by decide +kernel
theorem dX11_plus_32 : decode cX11_plus 32 = .ok (.iadd, 1) := by decide +kernel
theorem dX11_plus_33 : decode cX11_plus 33 = .ok (.aload_n 0, 1) := by decide +kernel
theorem dX11_plus_34 : decode cX11_plus 34 = .ok (.getfield 7, 3) := by decide +kernel
theorem dX11_plus_37 : decode cX11_plus 37 = .ok (.irem, 1) := by decide +kernel
theorem dX11_plus_38 : decode cX11_plus 38 = .ok (.iload 4, 2) := by decide +kernel
theorem dX11_plus_40 : decode cX11_plus 40 = .ok (.imul, 1) := by decide +kernel
theorem dX11_plus_41 : decode cX11_plus 41 = .ok (.iadd, 1) := by decide +kernel
theorem dX11_plus_42 : decode cX11_plus 42 = .ok (.istore_n 3, 1) := by decide +kernel
theorem dX11_plus_43 : decode cX11_plus 43 = .ok (.iload 4, 2) := by decide +kernel
theorem dX11_plus_45 : decode cX11_plus 45 = .ok (.aload_n 0, 1) := by decide +kernel
theorem dX11_plus_46 : decode cX11_plus 46 = .ok (.getfield 7, 3) := by decide +kernel
theorem dX11_plus_49 : decode cX11_plus 49 = .ok (.imul, 1) := by decide +kernel
theorem dX11_plus_50 : decode cX11_plus 50 = .ok (.istore 4, 2) := by decide +kernel
theorem dX11_plus_52 : decode cX11_plus 52 = .ok (.iinc 5 1, 3) := by decide +kernel
theorem dX11_plus_55 : decode cX11_plus 55 = .ok (.goto (-47), 3) := by decide +kernel
theorem dX11_plus_58 : decode cX11_plus 58 = .ok (.iload_n 3, 1) := by decide +kernel
theorem dX11_plus_59 : decode cX11_plus 59 = .ok (.ireturn, 1) := by decide +kernel
theorem dX11_minus_0 : decode cX11_minus 0 = .ok (.iload_n 1, 1) := by decide +kernel
theorem dX11_minus_1 : decode cX11_minus 1 = .ok (.istore_n 3, 1) := by decide +kernel
theorem dX11_minus_2 : decode cX11_minus 2 = .ok (.iconst 1, 1) := by decide +kernel
theorem dX11_minus_3 : decode cX11_minus 3 = .ok (.istore 4, 2) := by decide +kernel
theorem dX11_minus_5 : decode cX11_minus 5 = .ok (.iload 4, 2) := by decide +kernel
theorem dX11_minus_7 : decode cX11_minus 7 = .ok (.aload_n 0, 1) := by decide +kernel
theorem dX11_minus_8 : decode cX11_minus 8 = .ok (.getfield 7, 3) := by decide +kernel
theorem dX11_minus_11 : decode cX11_minus 11 = .ok (.if_icmp .ge 16, 3) := by decide +kernel
theorem dX11_minus_14 : decode cX11_minus 14 = .ok (.aload_n 0, 1) := by decide +kernel
theorem dX11_minus_15 : decode cX11_minus 15 = .ok (.iload_n 3, 1) := by decide +kernel
theorem dX11_minus_16 : decode cX11_minus 16 = .ok (.iload_n 2, 1) := by decide +kernel
theorem dX11_minus_17 : decode cX11_minus 17 = .ok (.invokevirtual 33, 3) := by decide +kernel
theorem dX11_minus_20 : decode cX11_minus 20 = .ok (.istore_n 3, 1) := by decide +kernel
theorem dX11_minus_21 : decode cX11_minus 21 = .ok (.iinc 4 1, 3) := by decide +kernel
theorem dX11_minus_24 : decode cX11_minus 24 = .ok (.goto (-19), 3) := by decide +kernel
theorem dX11_minus_27 : decode cX11_minus 27 = .ok (.iload_n 3, 1) := by decide +kernel
theorem dX11_minus_28 : decode cX11_minus 28 = .ok (.ireturn, 1) := by decide +kernel
theorem dX11_lays_0 : decode cX11_lays 0 = .ok (.aload_n 0, 1) := by decide +kernel
theorem dX11_lays_1 : decode cX11_lays 1 = .ok (.aload_n 0, 1) := by decide +kernel
theorem dX11_lays_2 : decode cX11_lays 2 = .ok (.getfield 16, 3) := by decide +kernel
theorem dX11_lays_5 : decode cX11_lays 5 = .ok (.aload_n 0, 1) := by decide +kernel
theorem dX11_lays_6 : decode cX11_lays 6 = .ok (.getfield 16, 3) := by decide +kernel
theorem dX11_lays_9 : decode cX11_lays 9 = .ok (.multianewarray 36 2, 4) := by decide +kernel
theorem dX11_lays_13 : decode cX11_lays 13 = .ok (.putfield 38, 3) := by decide +kernel
theorem dX11_lays_16 : decode cX11_lays 16 = .ok (.aload_n 0, 1) := by decide +kernel
theorem dX11_lays_17 : decode cX11_lays 17 = .ok (.getfield 13, 3) := by decide +kernel
theorem dX11_lays_20 : decode cX11_lays 20 = .ok (.newarray .int, 2) := by decide +kernel
theorem dX11_lays_22 : decode cX11_lays 22 = .ok (.astore_n 1, 1) := by decide +kernel
theorem dX11_lays_23 : decode cX11_lays 23 = .ok (.aload_n 1, 1) := by decide +kernel
theorem dX11_lays_24 : decode cX11_lays 24 = .ok (.iconst 0, 1) := by decide +kernel
theorem dX11_lays_25 : decode cX11_lays 25 = .ok (.iconst 1, 1) := by decide +kernel
theorem dX11_lays_26 : decode cX11_lays 26 = .ok (.iastore, 1) := by decide +kernel
theorem dX11_lays_27 : decode cX11_lays 27 = .ok (.iconst 1, 1) := by decide +kernel
theorem dX11_lays_28 : decode cX11_lays 28 = .ok (.istore_n 2, 1) := by decide +kernel
theorem dX11_lays_29 : decode cX11_lays 29 = .ok (.iload_n 2, 1) := by decide +kernel
theorem dX11_lays_30 : decode cX11_lays 30 = .ok (.aload_n 0, 1) := by decide +kernel
theorem dX11_lays_31 : decode cX11_lays 31 = .ok (.getfield 13, 3) := by decide +kernel
theorem dX11_lays_34 : decode cX11_lays 34 = .ok (.if_icmp .ge 22, 3) := by decide +kernel
theorem dX11_lays_37 : decode cX11_lays 37 = .ok (.aload_n 1, 1) := by decide +kernel
theorem dX11_lays_38 : decode cX11_lays 38 = .ok (.iload_n 2, 1) := by decide +kernel
theorem dX11_lays_39 : decode cX11_lays 39 = .ok (.aload_n 1, 1) := by decide +kernel
theorem dX11_lays_40 : decode cX11_lays 40 = .ok (.iload_n 2, 1) := by decide +kernel
theorem dX11_lays_41 : decode cX11_lays 41 = .ok (.iconst 1, 1) := by decide +kernel
theorem dX11_lays_42 : decode cX11_lays 42 = .ok (.isub, 1) := by decide +kernel
theorem dX11_lays_43 : decode cX11_lays 43 = .ok (.iaload, 1) := by decide +kernel
theorem dX11_lays_44 : decode cX11_lays 44 = .ok (.aload_n 0, 1) := by decide +kernel
theorem dX11_lays_45 : decode cX11_lays 45 = .ok (.getfield 7, 3) := by decide +kernel
theorem dX11_lays_48 : decode cX11_lays 48 = .ok (.imul, 1) := by decide +kernel
theorem dX11_lays_49 : decode cX11_lays 49 = .ok (.iastore, 1) := by decide +kernel
theorem dX11_lays_50 : decode cX11_lays 50 = .ok (.iinc 2 1, 3) := by decide +kernel
theorem dX11_lays_53 : decode cX11_lays 53 = .ok (.goto (-24), 3) := by decide +kernel
theorem dX11_lays_56 : decode cX11_lays 56 = .ok (.iconst 0, 1) := by decide +kernel
theorem dX11_lays_57 : decode cX11_lays 57 = .ok (.istore_n 2, 1) := by decide +kernel
theorem dX11_lays_58 : decode cX11_lays 58 = .ok (.iload_n 2, 1) := by decide +kernel
theorem dX11_lays_59 : decode cX11_lays 59 = .ok (.aload_n 0, 1) := by decide +kernel
theorem dX11_lays_60 : decode cX11_lays 60 = .ok (.getfield 13, 3) := by decide +kernel
theorem dX11_lays_63 : decode cX11_lays 63 = .ok (.if_icmp .ge 81, 3) := by decide +kernel
theorem dX11_lays_66 : decode cX11_lays 66 = .ok (.iconst 0, 1) := by decide +kernel
theorem dX11_lays_67 : decode cX11_lays 67 = .ok (.istore_n 3, 1) := by decide +kernel
theorem dX11_lays_68 : decode cX11_lays 68 = .ok (.iload_n 3, 1) := by decide +kernel
theorem dX11_lays_69 : decode cX11_lays 69 = .ok (.aload_n 0, 1) := by decide +kernel
theorem dX11_lays_70 : decode cX11_lays 70 = .ok (.getfield 13, 3) := by decide +kernel
theorem dX11_lays_73 : decode cX11_lays 73 = .ok (.if_icmp .ge 65, 3) := by decide +kernel
theorem dX11_lays_76 : decode cX11_lays 76 = .ok (.iconst 0, 1) := by decide +kernel
theorem dX11_lays_77 : decode cX11_lays 77 = .ok (.istore 4, 2) := by decide +kernel
theorem dX11_lays_79 : decode cX11_lays 79 = .ok (.iconst 0, 1) := by decide +kernel
theorem dX11_lays_80 : decode cX11_lays 80 = .ok (.istore 5, 2) := by decide +kernel
theorem dX11_lays_82 : decode cX11_lays 82 = .ok (.iload 5, 2) := by decide +kernel
theorem dX11_lays_84 : decode cX11_lays 84 = .ok (.aload_n 0, 1) := by decide +kernel
theorem dX11_lays_85 : decode cX11_lays 85 = .ok (.getfield 13, 3) := by decide +kernel
theorem dX11_lays_88 : decode cX11_lays 88 = .ok (.if_icmp .ge 30, 3) := by decide +kernel
theorem dX11_lays_91 : decode cX11_lays 91 = .ok (.iload 4, 2) := by decide +kernel
theorem dX11_lays_93 : decode cX11_lays 93 = .ok (.aload_n 0, 1) := by decide +kernel
theorem dX11_lays_94 : decode cX11_lays 94 = .ok (.getfield 21, 3) := by decide +kernel
theorem dX11_lays_97 : decode cX11_lays 97 = .ok (.iload_n 2, 1) := by decide +kernel
theorem dX11_lays_98 : decode cX11_lays 98 = .ok (.aaload, 1) := by decide +kernel
theorem dX11_lays_99 : decode cX11_lays 99 = .ok (.iload_n 3, 1) := by decide +kernel
theorem dX11_lays_100 : decode cX11_lays 100 = .ok (.aaload, 1) := by decide +kernel
theorem dX11_lays_101 : decode cX11_lays 101 = .ok (.iload 5, 2) := by decide +kernel
theorem dX11_lays_103 : decode cX11_lays 103 = .ok (.iaload, 1) := by decide +kernel
theorem dX11_lays_104 : decode cX11_lays 104 = .ok (.aload_n 1, 1) := by decide +kernel
theorem dX11_lays_105 : decode cX11_lays 105 = .ok (.iload 5, 2) := by decide +kernel
theorem dX11_lays_107 : decode cX11_lays 107 = .ok (.iaload, 1) := by decide +kernel
theorem dX11_lays_108 : decode cX11_lays 108 = .ok (.imul, 1) := by decide +kernel
theorem dX11_lays_109 : decode cX11_lays 109 = .ok (.iadd, 1) := by decide +kernel
theorem dX11_lays_110 : decode cX11_lays 110 = .ok (.istore 4, 2) := by decide +kernel
theorem dX11_lays_112 : decode cX11_lays 112 = .ok (.iinc 5 1, 3) := by decide +kernel
theorem dX11_lays_115 : decode cX11_lays 115 = .ok (.goto (-33), 3) := by decide +kernel
theorem dX11_lays_118 : decode cX11_lays 118 = .ok (.aload_n 0, 1) := by decide +kernel
theorem dX11_lays_119 : decode cX11_lays 119 = .ok (.getfield 38, 3) := by decide +kernel
theorem dX11_lays_122 : decode cX11_lays 122 = .ok (.aload_n 1, 1) := by decide +kernel
theorem dX11_lays_123 : decode cX11_lays 123 = .ok (.iload_n 2, 1) := by decide +kernel
theorem dX11_lays_124 : decode cX11_lays 124 = .ok (.iaload, 1) := by decide +kernel
theorem dX11_lays_125 : decode cX11_lays 125 = .ok (.aaload, 1) := by decide +kernel
theorem dX11_lays_126 : decode cX11_lays 126 = .ok (.aload_n 1, 1) := by decide +kernel
theorem dX11_lays_127 : decode cX11_lays 127 = .ok (.iload_n 3, 1) := by decide +kernel
theorem dX11_lays_128 : decode cX11_lays 128 = .ok (.iaload, 1) := by decide +kernel
theorem dX11_lays_129 : decode cX11_lays 129 = .ok (.iload 4, 2) := by decide +kernel
theorem dX11_lays_131 : decode cX11_lays 131 = .ok (.iastore, 1) := by decide +kernel
theorem dX11_lays_132 : decode cX11_lays 132 = .ok (.iinc 3 1, 3) := by decide +kernel
theorem dX11_lays_135 : decode cX11_lays 135 = .ok (.goto (-67), 3) := by decide +kernel
theorem dX11_lays_138 : decode cX11_lays 138 = .ok (.iinc 2 1, 3) := by decide +kernel
theorem dX11_lays_141 : decode cX11_lays 141 = .ok (.goto (-83), 3) := by decide +kernel
theorem dX11_lays_144 : decode cX11_lays 144 = .ok (.iconst 0, 1) := by decide +kernel
theorem dX11_lays_145 : decode cX11_lays 145 = .ok (.istore_n 2, 1) := by decide +kernel
theorem dX11_lays_146 : decode cX11_lays 146 = .ok (.iload_n 2, 1) := by decide +kernel
theorem dX11_lays_147 : decode cX11_lays 147 = .ok (.aload_n 0, 1) := by decide +kernel
theorem dX11_lays_148 : decode cX11_lays 148 = .ok (.getfield 13, 3) := by decide +kernel
theorem dX11_lays_151 : decode cX11_lays 151 = .ok (.if_icmp .ge 97, 3) := by decide +kernel
theorem dX11_lays_154 : decode cX11_lays 154 = .ok (.iconst 1, 1) := by decide +kernel
theorem dX11_lays_155 : decode cX11_lays 155 = .ok (.istore_n 3, 1) := by decide +kernel
theorem dX11_lays_156 : decode cX11_lays 156 = .ok (.iload_n 3, 1) := by decide +kernel
theorem dX11_lays_157 : decode cX11_lays 157 = .ok (.aload_n 0, 1) := by decide +kernel
theorem dX11_lays_158 : decode cX11_lays 158 = .ok (.getfield 16, 3) := by decide +kernel
theorem dX11_lays_161 : decode cX11_lays 161 = .ok (.if_icmp .ge 81, 3) := by decide +kernel
theorem dX11_lays_164 : decode cX11_lays 164 = .ok (.aload_n 0, 1) := by decide +kernel
theorem dX11_lays_165 : decode cX11_lays 165 = .ok (.getfield 13, 3) := by decide +kernel
theorem dX11_lays_168 : decode cX11_lays 168 = .ok (.iconst 1, 1) := by decide +kernel
theorem dX11_lays_169 : decode cX11_lays 169 = .ok (.isub, 1) := by decide +kernel
theorem dX11_lays_170 : decode cX11_lays 170 = .ok (.istore 4, 2) := by decide +kernel
theorem dX11_lays_172 : decode cX11_lays 172 = .ok (.aload_n 1, 1) := by decide +kernel
theorem dX11_lays_173 : decode cX11_lays 173 = .ok (.iload 4, 2) := by decide +kernel
theorem dX11_lays_175 : decode cX11_lays 175 = .ok (.iaload, 1) := by decide +kernel
theorem dX11_lays_176 : decode cX11_lays 176 = .ok (.iload_n 3, 1) := by decide +kernel
theorem dX11_lays_177 : decode cX11_lays 177 = .ok (.if_icmp .le 9, 3) := by decide +kernel
theorem dX11_lays_180 : decode cX11_lays 180 = .ok (.iinc 4 (-1), 3) := by decide +kernel
theorem dX11_lays_183 : decode cX11_lays 183 = .ok (.goto (-11), 3) := by decide +kernel
theorem dX11_lays_186 : decode cX11_lays 186 = .ok (.aload_n 1, 1) := by decide +kernel
theorem dX11_lays_187 : decode cX11_lays 187 = .ok (.iload 4, 2) := by decide +kernel
theorem dX11_lays_189 : decode cX11_lays 189 = .ok (.iaload, 1) := by decide +kernel
theorem dX11_lays_190 : decode cX11_lays 190 = .ok (.iload_n 3, 1) := by decide +kernel
theorem dX11_lays_191 : decode cX11_lays 191 = .ok (.if_icmp .eq 45, 3) := by decide +kernel
theorem dX11_lays_194 : decode cX11_lays 194 = .ok (.aload_n 0, 1) := by decide +kernel
theorem dX11_lays_195 : decode cX11_lays 195 = .ok (.getfield 38, 3) := by decide +kernel
theorem dX11_lays_198 : decode cX11_lays 198 = .ok (.aload_n 1, 1) := by decide +kernel
theorem dX11_lays_199 : decode cX11_lays 199 = .ok (.iload_n 2, 1) := by decide +kernel
theorem dX11_lays_200 : decode cX11_lays 200 = .ok (.iaload, 1) := by decide +kernel
theorem dX11_lays_201 : decode cX11_lays 201 = .ok (.aaload, 1) := by decide +kernel
theorem dX11_lays_202 : decode cX11_lays 202 = .ok (.iload_n 3, 1) := by decide +kernel
theorem dX11_lays_203 : decode cX11_lays 203 = .ok (.aload_n 0, 1) := by decide +kernel
theorem dX11_lays_204 : decode cX11_lays 204 = .ok (.aload_n 0, 1) := by decide +kernel
theorem dX11_lays_205 : decode cX11_lays 205 = .ok (.getfield 38, 3) := by decide +kernel
theorem dX11_lays_208 : decode cX11_lays 208 = .ok (.aload_n 1, 1) := by decide +kernel
theorem dX11_lays_209 : decode cX11_lays 209 = .ok (.iload_n 2, 1) := by decide +kernel
theorem dX11_lays_210 : decode cX11_lays 210 = .ok (.iaload, 1) := by decide +kernel
theorem dX11_lays_211 : decode cX11_lays 211 = .ok (.aaload, 1) := by decide +kernel
theorem dX11_lays_212 : decode cX11_lays 212 = .ok (.iload_n 3, 1) := by decide +kernel
theorem dX11_lays_213 : decode cX11_lays 213 = .ok (.aload_n 1, 1) := by decide +kernel
theorem dX11_lays_214 : decode cX11_lays 214 = .ok (.iload 4, 2) := by decide +kernel
theorem dX11_lays_216 : decode cX11_lays 216 = .ok (.iaload, 1) := by decide +kernel
theorem dX11_lays_217 : decode cX11_lays 217 = .ok (.isub, 1) := by decide +kernel
theorem dX11_lays_218 : decode cX11_lays 218 = .ok (.iaload, 1) := by decide +kernel
theorem dX11_lays_219 : decode cX11_lays 219 = .ok (.aload_n 0, 1) := by decide +kernel
theorem dX11_lays_220 : decode cX11_lays 220 = .ok (.getfield 38, 3) := by decide +kernel
theorem dX11_lays_223 : decode cX11_lays 223 = .ok (.aload_n 1, 1) := by decide +kernel
theorem dX11_lays_224 : decode cX11_lays 224 = .ok (.iload_n 2, 1) := by decide +kernel
theorem dX11_lays_225 : decode cX11_lays 225 = .ok (.iaload, 1) := by decide +kernel
theorem dX11_lays_226 : decode cX11_lays 226 = .ok (.aaload, 1) := by decide +kernel
theorem dX11_lays_227 : decode cX11_lays 227 = .ok (.aload_n 1, 1) := by decide +kernel
theorem dX11_lays_228 : decode cX11_lays 228 = .ok (.iload 4, 2) := by decide +kernel
theorem dX11_lays_230 : decode cX11_lays 230 = .ok (.iaload, 1) := by decide +kernel
theorem dX11_lays_231 : decode cX11_lays 231 = .ok (.iaload, 1) := by decide +kernel
theorem dX11_lays_232 : decode cX11_lays 232 = .ok (.invokevirtual 33, 3) := by decide +kernel
theorem dX11_lays_235 : decode cX11_lays 235 = .ok (.iastore, 1) := by decide +kernel
theorem dX11_lays_236 : decode cX11_lays 236 = .ok (.iinc 3 1, 3) := by decide +kernel
theorem dX11_lays_239 : decode cX11_lays 239 = .ok (.goto (-83), 3) := by decide +kernel
theorem dX11_lays_242 : decode cX11_lays 242 = .ok (.iinc 2 1, 3) := by decide +kernel
theorem dX11_lays_245 : decode cX11_lays 245 = .ok (.goto (-99), 3) := by decide +kernel
theorem dX11_lays_248 : decode cX11_lays 248 = .ok (.iconst 1, 1) := by decide +kernel
theorem dX11_lays_249 : decode cX11_lays 249 = .ok (.istore_n 2, 1) := by decide +kernel
theorem dX11_lays_250 : decode cX11_lays 250 = .ok (.iload_n 2, 1) := by decide +kernel
theorem dX11_lays_251 : decode cX11_lays 251 = .ok (.aload_n 0, 1) := by decide +kernel
theorem dX11_lays_252 : decode cX11_lays 252 = .ok (.getfield 16, 3) := by decide +kernel
theorem dX11_lays_255 : decode cX11_lays 255 = .ok (.if_icmp .ge 91, 3) := by decide +kernel
theorem dX11_lays_258 : decode cX11_lays 258 = .ok (.aload_n 0, 1) := by decide +kernel
theorem dX11_lays_259 : decode cX11_lays 259 = .ok (.getfield 13, 3) := by decide +kernel
theorem dX11_lays_262 : decode cX11_lays 262 = .ok (.iconst 1, 1) := by decide +kernel
theorem dX11_lays_263 : decode cX11_lays 263 = .ok (.isub, 1) := by decide +kernel
theorem dX11_lays_264 : decode cX11_lays 264 = .ok (.istore_n 3, 1) := by decide +kernel
theorem dX11_lays_265 : decode cX11_lays 265 = .ok (.aload_n 1, 1) := by decide +kernel
theorem dX11_lays_266 : decode cX11_lays 266 = .ok (.iload_n 3, 1) := by decide +kernel
theorem dX11_lays_267 : decode cX11_lays 267 = .ok (.iaload, 1) := by decide +kernel
theorem dX11_lays_268 : decode cX11_lays 268 = .ok (.iload_n 2, 1) := by decide +kernel
theorem dX11_lays_269 : decode cX11_lays 269 = .ok (.if_icmp .le 9, 3) := by decide +kernel
theorem dX11_lays_272 : decode cX11_lays 272 = .ok (.iinc 3 (-1), 3) := by decide +kernel
theorem dX11_lays_275 : decode cX11_lays 275 = .ok (.goto (-10), 3) := by decide +kernel
theorem dX11_lays_278 : decode cX11_lays 278 = .ok (.aload_n 1, 1) := by decide +kernel
theorem dX11_lays_279 : decode cX11_lays 279 = .ok (.iload_n 3, 1) := by decide +kernel
theorem dX11_lays_280 : decode cX11_lays 280 = .ok (.iaload, 1) := by decide +kernel
theorem dX11_lays_281 : decode cX11_lays 281 = .ok (.iload_n 2, 1) := by decide +kernel
theorem dX11_lays_282 : decode cX11_lays 282 = .ok (.if_icmp .eq 58, 3) := by decide +kernel
theorem dX11_lays_285 : decode cX11_lays 285 = .ok (.iconst 0, 1) := by decide +kernel
theorem dX11_lays_286 : decode cX11_lays 286 = .ok (.istore 4, 2) := by decide +kernel
theorem dX11_lays_288 : decode cX11_lays 288 = .ok (.iload 4, 2) := by decide +kernel
theorem dX11_lays_290 : decode cX11_lays 290 = .ok (.aload_n 0, 1) := by decide +kernel
theorem dX11_lays_291 : decode cX11_lays 291 = .ok (.getfield 16, 3) := by decide +kernel
theorem dX11_lays_294 : decode cX11_lays 294 = .ok (.if_icmp .ge 46, 3) := by decide +kernel
theorem dX11_lays_297 : decode cX11_lays 297 = .ok (.aload_n 0, 1) := by decide +kernel
theorem dX11_lays_298 : decode cX11_lays 298 = .ok (.getfield 38, 3) := by decide +kernel
theorem dX11_lays_301 : decode cX11_lays 301 = .ok (.iload_n 2, 1) := by decide +kernel
theorem dX11_lays_302 : decode cX11_lays 302 = .ok (.aaload, 1) := by decide +kernel
theorem dX11_lays_303 : decode cX11_lays 303 = .ok (.iload 4, 2) := by decide +kernel
theorem dX11_lays_305 : decode cX11_lays 305 = .ok (.aload_n 0, 1) := by decide +kernel
theorem dX11_lays_306 : decode cX11_lays 306 = .ok (.aload_n 0, 1) := by decide +kernel
theorem dX11_lays_307 : decode cX11_lays 307 = .ok (.getfield 38, 3) := by decide +kernel
theorem dX11_lays_310 : decode cX11_lays 310 = .ok (.iload_n 2, 1) := by decide +kernel
theorem dX11_lays_311 : decode cX11_lays 311 = .ok (.aload_n 1, 1) := by decide +kernel
theorem dX11_lays_312 : decode cX11_lays 312 = .ok (.iload_n 3, 1) := by decide +kernel
theorem dX11_lays_313 : decode cX11_lays 313 = .ok (.iaload, 1) := by decide +kernel
theorem dX11_lays_314 : decode cX11_lays 314 = .ok (.isub, 1) := by decide +kernel
theorem dX11_lays_315 : decode cX11_lays 315 = .ok (.aaload, 1) := by decide +kernel
theorem dX11_lays_316 : decode cX11_lays 316 = .ok (.iload 4, 2) := by decide +kernel
theorem dX11_lays_318 : decode cX11_lays 318 = .ok (.iaload, 1) := by decide +kernel
theorem dX11_lays_319 : decode cX11_lays 319 = .ok (.aload_n 0, 1) := by decide +kernel
theorem dX11_lays_320 : decode cX11_lays 320 = .ok (.getfield 38, 3) := by decide +kernel
theorem dX11_lays_323 : decode cX11_lays 323 = .ok (.aload_n 1, 1) := by decide +kernel
theorem dX11_lays_324 : decode cX11_lays 324 = .ok (.iload_n 3, 1) := by decide +kernel
theorem dX11_lays_325 : decode cX11_lays 325 = .ok (.iaload, 1) := by decide +kernel
theorem dX11_lays_326 : decode cX11_lays 326 = .ok (.aaload, 1) := by decide +kernel
theorem dX11_lays_327 : decode cX11_lays 327 = .ok (.iload 4, 2) := by decide +kernel
theorem dX11_lays_329 : decode cX11_lays 329 = .ok (.iaload, 1) := by decide +kernel
theorem dX11_lays_330 : decode cX11_lays 330 = .ok (.invokevirtual 33, 3) := by decide +kernel
theorem dX11_lays_333 : decode cX11_lays 333 = .ok (.iastore, 1) := by decide +kernel
theorem dX11_lays_334 : decode cX11_lays 334 = .ok (.iinc 4 1, 3) := by decide +kernel
theorem dX11_lays_337 : decode cX11_lays 337 = .ok (.goto (-49), 3) := by decide +kernel
theorem dX11_lays_340 : decode cX11_lays 340 = .ok (.iinc 2 1, 3) := by decide +kernel
theorem dX11_lays_343 : decode cX11_lays 343 = .ok (.goto (-93), 3) := by decide +kernel
theorem dX11_lays_346 : decode cX11_lays 346 = .ok (.return_, 1) := by decide +kernel
theorem dX11_fail_0 : decode cX11_fail 0 = .ok (.iconst 1, 1) := by decide +kernel
theorem dX11_fail_1 : decode cX11_fail 1 = .ok (.istore_n 1, 1) := by decide +kernel
theorem dX11_fail_2 : decode cX11_fail 2 = .ok (.iload_n 1, 1) := by decide +kernel
theorem dX11_fail_3 : decode cX11_fail 3 = .ok (.aload_n 0, 1) := by decide +kernel
theorem dX11_fail_4 : decode cX11_fail 4 = .ok (.getfield 16, 3) := by decide +kernel
theorem dX11_fail_7 : decode cX11_fail 7 = .ok (.if_icmp .ge 45, 3) := by decide +kernel
theorem dX11_fail_10 : decode cX11_fail 10 = .ok (.iconst 1, 1) := by decide +kernel
theorem dX11_fail_11 : decode cX11_fail 11 = .ok (.istore_n 2, 1) := by decide +kernel
theorem dX11_fail_12 : decode cX11_fail 12 = .ok (.iload_n 2, 1) := by decide +kernel
theorem dX11_fail_13 : decode cX11_fail 13 = .ok (.aload_n 0, 1) := by decide +kernel
theorem dX11_fail_14 : decode cX11_fail 14 = .ok (.getfield 16, 3) := by decide +kernel
theorem dX11_fail_17 : decode cX11_fail 17 = .ok (.if_icmp .ge 29, 3) := by decide +kernel
theorem dX11_fail_20 : decode cX11_fail 20 = .ok (.aload_n 0, 1) := by decide +kernel
theorem dX11_fail_21 : decode cX11_fail 21 = .ok (.getfield 38, 3) := by decide +kernel
theorem dX11_fail_24 : decode cX11_fail 24 = .ok (.iload_n 1, 1) := by decide +kernel
theorem dX11_fail_25 : decode cX11_fail 25 = .ok (.aaload, 1) := by decide +kernel
theorem dX11_fail_26 : decode cX11_fail 26 = .ok (.iload_n 2, 1) := by decide +kernel
theorem dX11_fail_27 : decode cX11_fail 27 = .ok (.iaload, 1) := by decide +kernel
theorem dX11_fail_28 : decode cX11_fail 28 = .ok (.ifCond .ne 12, 3) := by decide +kernel
theorem dX11_fail_31 : decode cX11_fail 31 = .ok (.aload_n 0, 1) := by decide +kernel
theorem dX11_fail_32 : decode cX11_fail 32 = .ok (.getfield 16, 3) := by decide +kernel
theorem dX11_fail_35 : decode cX11_fail 35 = .ok (.iload_n 1, 1) := by decide +kernel
theorem dX11_fail_36 : decode cX11_fail 36 = .ok (.imul, 1) := by decide +kernel
theorem dX11_fail_37 : decode cX11_fail 37 = .ok (.iload_n 2, 1) := by decide +kernel
theorem dX11_fail_38 : decode cX11_fail 38 = .ok (.iadd, 1) := by decide +kernel
theorem dX11_fail_39 : decode cX11_fail 39 = .ok (.ireturn, 1) := by decide +kernel
theorem dX11_fail_40 : decode cX11_fail 40 = .ok (.iinc 2 1, 3) := by decide +kernel
theorem dX11_fail_43 : decode cX11_fail 43 = .ok (.goto (-31), 3) := by decide +kernel
theorem dX11_fail_46 : decode cX11_fail 46 = .ok (.iinc 1 1, 3) := by decide +kernel
theorem dX11_fail_49 : decode cX11_fail 49 = .ok (.goto (-47), 3) := by decide +kernel
theorem dX11_fail_52 : decode cX11_fail 52 = .ok (.iconst (-1), 1) := by decide +kernel
theorem dX11_fail_53 : decode cX11_fail 53 = .ok (.ireturn, 1) := by decide +kernel
theorem dX11_unit_0 : decode cX11_unit 0 = .ok (.iconst 0, 1) := by decide +kernel
theorem dX11_unit_1 : decode cX11_unit 1 = .ok (.istore_n 1, 1) := by decide +kernel
theorem dX11_unit_2 : decode cX11_unit 2 = .ok (.iload_n 1, 1) := by decide +kernel
theorem dX11_unit_3 : decode cX11_unit 3 = .ok (.aload_n 0, 1) := by decide +kernel
theorem dX11_unit_4 : decode cX11_unit 4 = .ok (.getfield 16, 3) := by decide +kernel
theorem dX11_unit_7 : decode cX11_unit 7 = .ok (.if_icmp .ge 67, 3) := by decide +kernel
theorem dX11_unit_10 : decode cX11_unit 10 = .ok (.iconst 1, 1) := by decide +kernel
theorem dX11_unit_11 : decode cX11_unit 11 = .ok (.istore_n 2, 1) := by decide +kernel
theorem dX11_unit_12 : decode cX11_unit 12 = .ok (.iconst 0, 1) := by decide +kernel
theorem dX11_unit_13 : decode cX11_unit 13 = .ok (.istore_n 3, 1) := by decide +kernel
theorem dX11_unit_14 : decode cX11_unit 14 = .ok (.iload_n 3, 1) := by decide +kernel
theorem dX11_unit_15 : decode cX11_unit 15 = .ok (.aload_n 0, 1) := by decide +kernel
theorem dX11_unit_16 : decode cX11_unit 16 = .ok (.getfield 16, 3) := by decide +kernel
theorem dX11_unit_19 : decode cX11_unit 19 = .ok (.if_icmp .ge 43, 3) := by decide +kernel
theorem dX11_unit_22 : decode cX11_unit 22 = .ok (.iload_n 2, 1) := by decide +kernel
theorem dX11_unit_23 : decode cX11_unit 23 = .ok (.ifCond .eq 39, 3) := by decide +kernel
theorem dX11_unit_26 : decode cX11_unit 26 = .ok (.aload_n 0, 1) := by decide +kernel
theorem dX11_unit_27 : decode cX11_unit 27 = .ok (.getfield 38, 3) := by decide +kernel
theorem dX11_unit_30 : decode cX11_unit 30 = .ok (.iload_n 1, 1) := by decide +kernel
theorem dX11_unit_31 : decode cX11_unit 31 = .ok (.aaload, 1) := by decide +kernel
theorem dX11_unit_32 : decode cX11_unit 32 = .ok (.iload_n 3, 1) := by decide +kernel
theorem dX11_unit_33 : decode cX11_unit 33 = .ok (.iaload, 1) := by decide +kernel
theorem dX11_unit_34 : decode cX11_unit 34 = .ok (.iload_n 3, 1) := by decide +kernel
theorem dX11_unit_35 : decode cX11_unit 35 = .ok (.if_icmp .ne 19, 3) := by decide +kernel
theorem dX11_unit_38 : decode cX11_unit 38 = .ok (.aload_n 0, 1) := by decide +kernel
theorem dX11_unit_39 : decode cX11_unit 39 = .ok (.getfield 38, 3) := by decide +kernel
theorem dX11_unit_42 : decode cX11_unit 42 = .ok (.iload_n 3, 1) := by decide +kernel
theorem dX11_unit_43 : decode cX11_unit 43 = .ok (.aaload, 1) := by decide +kernel
theorem dX11_unit_44 : decode cX11_unit 44 = .ok (.iload_n 1, 1) := by decide +kernel
theorem dX11_unit_45 : decode cX11_unit 45 = .ok (.iaload, 1) := by decide +kernel
theorem dX11_unit_46 : decode cX11_unit 46 = .ok (.iload_n 3, 1) := by decide +kernel
theorem dX11_unit_47 : decode cX11_unit 47 = .ok (.if_icmp .ne 7, 3) := by decide +kernel
theorem dX11_unit_50 : decode cX11_unit 50 = .ok (.iconst 1, 1) := by decide +kernel
theorem dX11_unit_51 : decode cX11_unit 51 = .ok (.goto 4, 3) := by decide +kernel
theorem dX11_unit_54 : decode cX11_unit 54 = .ok (.iconst 0, 1) := by decide +kernel
theorem dX11_unit_55 : decode cX11_unit 55 = .ok (.istore_n 2, 1) := by decide +kernel
theorem dX11_unit_56 : decode cX11_unit 56 = .ok (.iinc 3 1, 3) := by decide +kernel
theorem dX11_unit_59 : decode cX11_unit 59 = .ok (.goto (-45), 3) := by decide +kernel
theorem dX11_unit_62 : decode cX11_unit 62 = .ok (.iload_n 2, 1) := by decide +kernel
theorem dX11_unit_63 : decode cX11_unit 63 = .ok (.ifCond .eq 5, 3) := by decide +kernel
theorem dX11_unit_66 : decode cX11_unit 66 = .ok (.iload_n 1, 1) := by decide +kernel
theorem dX11_unit_67 : decode cX11_unit 67 = .ok (.ireturn, 1) := by decide +kernel
theorem dX11_unit_68 : decode cX11_unit 68 = .ok (.iinc 1 1, 3) := by decide +kernel
theorem dX11_unit_71 : decode cX11_unit 71 = .ok (.goto (-69), 3) := by decide +kernel
theorem dX11_unit_74 : decode cX11_unit 74 = .ok (.iconst (-1), 1) := by decide +kernel
theorem dX11_unit_75 : decode cX11_unit 75 = .ok (.ireturn, 1) := by decide +kernel
theorem dX11_turned_0 : decode cX11_turned 0 = .ok (.aload_n 0, 1) := by decide +kernel
theorem dX11_turned_1 : decode cX11_turned 1 = .ok (.invokevirtual 41, 3) := by decide +kernel
theorem dX11_turned_4 : decode cX11_turned 4 = .ok (.astore_n 2, 1) := by decide +kernel
theorem dX11_turned_5 : decode cX11_turned 5 = .ok (.iconst 0, 1) := by decide +kernel
theorem dX11_turned_6 : decode cX11_turned 6 = .ok (.istore_n 3, 1) := by decide +kernel
theorem dX11_turned_7 : decode cX11_turned 7 = .ok (.iload_n 3, 1) := by decide +kernel
theorem dX11_turned_8 : decode cX11_turned 8 = .ok (.iconst 5, 1) := by decide +kernel
theorem dX11_turned_9 : decode cX11_turned 9 = .ok (.if_icmp .ge 162, 3) := by decide +kernel
theorem dX11_turned_12 : decode cX11_turned 12 = .ok (.iconst 0, 1) := by decide +kernel
theorem dX11_turned_13 : decode cX11_turned 13 = .ok (.istore 4, 2) := by decide +kernel
theorem dX11_turned_15 : decode cX11_turned 15 = .ok (.iload 4, 2) := by decide +kernel
theorem dX11_turned_17 : decode cX11_turned 17 = .ok (.iconst 5, 1) := by decide +kernel
theorem dX11_turned_18 : decode cX11_turned 18 = .ok (.if_icmp .ge 147, 3) := by decide +kernel
theorem dX11_turned_21 : decode cX11_turned 21 = .ok (.iconst 0, 1) := by decide +kernel
theorem dX11_turned_22 : decode cX11_turned 22 = .ok (.istore 5, 2) := by decide +kernel
theorem dX11_turned_24 : decode cX11_turned 24 = .ok (.iload 5, 2) := by decide +kernel
theorem dX11_turned_26 : decode cX11_turned 26 = .ok (.iconst 5, 1) := by decide +kernel
theorem dX11_turned_27 : decode cX11_turned 27 = .ok (.if_icmp .ge 132, 3) := by decide +kernel
theorem dX11_turned_30 : decode cX11_turned 30 = .ok (.aload_n 2, 1) := by decide +kernel
theorem dX11_turned_31 : decode cX11_turned 31 = .ok (.getfield 21, 3) := by decide +kernel
theorem dX11_turned_34 : decode cX11_turned 34 = .ok (.iload_n 3, 1) := by decide +kernel
theorem dX11_turned_35 : decode cX11_turned 35 = .ok (.aaload, 1) := by decide +kernel
theorem dX11_turned_36 : decode cX11_turned 36 = .ok (.iload 4, 2) := by decide +kernel
theorem dX11_turned_38 : decode cX11_turned 38 = .ok (.aaload, 1) := by decide +kernel
theorem dX11_turned_39 : decode cX11_turned 39 = .ok (.iload 5, 2) := by decide +kernel
theorem dX11_turned_41 : decode cX11_turned 41 = .ok (.iload_n 1, 1) := by decide +kernel
theorem dX11_turned_42 : decode cX11_turned 42 = .ok (.ifCond .ne 18, 3) := by decide +kernel
theorem dX11_turned_45 : decode cX11_turned 45 = .ok (.aload_n 0, 1) := by decide +kernel
theorem dX11_turned_46 : decode cX11_turned 46 = .ok (.getfield 21, 3) := by decide +kernel
theorem dX11_turned_49 : decode cX11_turned 49 = .ok (.iload_n 3, 1) := by decide +kernel
theorem dX11_turned_50 : decode cX11_turned 50 = .ok (.aaload, 1) := by decide +kernel
theorem dX11_turned_51 : decode cX11_turned 51 = .ok (.iload 4, 2) := by decide +kernel
theorem dX11_turned_53 : decode cX11_turned 53 = .ok (.aaload, 1) := by decide +kernel
theorem dX11_turned_54 : decode cX11_turned 54 = .ok (.iload 5, 2) := by decide +kernel
theorem dX11_turned_56 : decode cX11_turned 56 = .ok (.iaload, 1) := by decide +kernel
theorem dX11_turned_57 : decode cX11_turned 57 = .ok (.goto 95, 3) := by decide +kernel
theorem dX11_turned_60 : decode cX11_turned 60 = .ok (.iload_n 1, 1) := by decide +kernel
theorem dX11_turned_61 : decode cX11_turned 61 = .ok (.iconst 1, 1) := by decide +kernel
theorem dX11_turned_62 : decode cX11_turned 62 = .ok (.if_icmp .ne 18, 3) := by decide +kernel
theorem dX11_turned_65 : decode cX11_turned 65 = .ok (.aload_n 0, 1) := by decide +kernel
theorem dX11_turned_66 : decode cX11_turned 66 = .ok (.getfield 21, 3) := by decide +kernel
theorem dX11_turned_69 : decode cX11_turned 69 = .ok (.iload 4, 2) := by decide +kernel
theorem dX11_turned_71 : decode cX11_turned 71 = .ok (.aaload, 1) := by decide +kernel
theorem dX11_turned_72 : decode cX11_turned 72 = .ok (.iload_n 3, 1) := by decide +kernel
theorem dX11_turned_73 : decode cX11_turned 73 = .ok (.aaload, 1) := by decide +kernel
theorem dX11_turned_74 : decode cX11_turned 74 = .ok (.iload 5, 2) := by decide +kernel
theorem dX11_turned_76 : decode cX11_turned 76 = .ok (.iaload, 1) := by decide +kernel
theorem dX11_turned_77 : decode cX11_turned 77 = .ok (.goto 75, 3) := by decide +kernel
theorem dX11_turned_80 : decode cX11_turned 80 = .ok (.iload_n 1, 1) := by decide +kernel
theorem dX11_turned_81 : decode cX11_turned 81 = .ok (.iconst 2, 1) := by decide +kernel
theorem dX11_turned_82 : decode cX11_turned 82 = .ok (.if_icmp .ne 18, 3) := by decide +kernel
theorem dX11_turned_85 : decode cX11_turned 85 = .ok (.aload_n 0, 1) := by decide +kernel
theorem dX11_turned_86 : decode cX11_turned 86 = .ok (.getfield 21, 3) := by decide +kernel
theorem dX11_turned_89 : decode cX11_turned 89 = .ok (.iload 5, 2) := by decide +kernel
theorem dX11_turned_91 : decode cX11_turned 91 = .ok (.aaload, 1) := by decide +kernel
theorem dX11_turned_92 : decode cX11_turned 92 = .ok (.iload 4, 2) := by decide +kernel
theorem dX11_turned_94 : decode cX11_turned 94 = .ok (.aaload, 1) := by decide +kernel
theorem dX11_turned_95 : decode cX11_turned 95 = .ok (.iload_n 3, 1) := by decide +kernel
theorem dX11_turned_96 : decode cX11_turned 96 = .ok (.iaload, 1) := by decide +kernel
theorem dX11_turned_97 : decode cX11_turned 97 = .ok (.goto 55, 3) := by decide +kernel
theorem dX11_turned_100 : decode cX11_turned 100 = .ok (.iload_n 1, 1) := by decide +kernel
theorem dX11_turned_101 : decode cX11_turned 101 = .ok (.iconst 3, 1) := by decide +kernel
theorem dX11_turned_102 : decode cX11_turned 102 = .ok (.if_icmp .ne 18, 3) := by decide +kernel
theorem dX11_turned_105 : decode cX11_turned 105 = .ok (.aload_n 0, 1) := by decide +kernel
theorem dX11_turned_106 : decode cX11_turned 106 = .ok (.getfield 21, 3) := by decide +kernel
theorem dX11_turned_109 : decode cX11_turned 109 = .ok (.iload_n 3, 1) := by decide +kernel
theorem dX11_turned_110 : decode cX11_turned 110 = .ok (.aaload, 1) := by decide +kernel
theorem dX11_turned_111 : decode cX11_turned 111 = .ok (.iload 5, 2) := by decide +kernel
theorem dX11_turned_113 : decode cX11_turned 113 = .ok (.aaload, 1) := by decide +kernel
theorem dX11_turned_114 : decode cX11_turned 114 = .ok (.iload 4, 2) := by decide +kernel
theorem dX11_turned_116 : decode cX11_turned 116 = .ok (.iaload, 1) := by decide +kernel
theorem dX11_turned_117 : decode cX11_turned 117 = .ok (.goto 35, 3) := by decide +kernel
theorem dX11_turned_120 : decode cX11_turned 120 = .ok (.iload_n 1, 1) := by decide +kernel
theorem dX11_turned_121 : decode cX11_turned 121 = .ok (.iconst 4, 1) := by decide +kernel
theorem dX11_turned_122 : decode cX11_turned 122 = .ok (.if_icmp .ne 18, 3) := by decide +kernel
theorem dX11_turned_125 : decode cX11_turned 125 = .ok (.aload_n 0, 1) := by decide +kernel
theorem dX11_turned_126 : decode cX11_turned 126 = .ok (.getfield 21, 3) := by decide +kernel
theorem dX11_turned_129 : decode cX11_turned 129 = .ok (.iload 5, 2) := by decide +kernel
theorem dX11_turned_131 : decode cX11_turned 131 = .ok (.aaload, 1) := by decide +kernel
theorem dX11_turned_132 : decode cX11_turned 132 = .ok (.iload_n 3, 1) := by decide +kernel
theorem dX11_turned_133 : decode cX11_turned 133 = .ok (.aaload, 1) := by decide +kernel
theorem dX11_turned_134 : decode cX11_turned 134 = .ok (.iload 4, 2) := by decide +kernel
theorem dX11_turned_136 : decode cX11_turned 136 = .ok (.iaload, 1) := by decide +kernel
theorem dX11_turned_137 : decode cX11_turned 137 = .ok (.goto 15, 3) := by decide +kernel
theorem dX11_turned_140 : decode cX11_turned 140 = .ok (.aload_n 0, 1) := by decide +kernel
theorem dX11_turned_141 : decode cX11_turned 141 = .ok (.getfield 21, 3) := by decide +kernel
theorem dX11_turned_144 : decode cX11_turned 144 = .ok (.iload 4, 2) := by decide +kernel
theorem dX11_turned_146 : decode cX11_turned 146 = .ok (.aaload, 1) := by decide +kernel
theorem dX11_turned_147 : decode cX11_turned 147 = .ok (.iload 5, 2) := by decide +kernel
theorem dX11_turned_149 : decode cX11_turned 149 = .ok (.aaload, 1) := by decide +kernel
theorem dX11_turned_150 : decode cX11_turned 150 = .ok (.iload_n 3, 1) := by decide +kernel
theorem dX11_turned_151 : decode cX11_turned 151 = .ok (.iaload, 1) := by decide +kernel
theorem dX11_turned_152 : decode cX11_turned 152 = .ok (.iastore, 1) := by decide +kernel
theorem dX11_turned_153 : decode cX11_turned 153 = .ok (.iinc 5 1, 3) := by decide +kernel
theorem dX11_turned_156 : decode cX11_turned 156 = .ok (.goto (-132), 3) := by decide +kernel
theorem dX11_turned_159 : decode cX11_turned 159 = .ok (.iinc 4 1, 3) := by decide +kernel
theorem dX11_turned_162 : decode cX11_turned 162 = .ok (.goto (-147), 3) := by decide +kernel
theorem dX11_turned_165 : decode cX11_turned 165 = .ok (.iinc 3 1, 3) := by decide +kernel
theorem dX11_turned_168 : decode cX11_turned 168 = .ok (.goto (-161), 3) := by decide +kernel
theorem dX11_turned_171 : decode cX11_turned 171 = .ok (.aload_n 2, 1) := by decide +kernel
theorem dX11_turned_172 : decode cX11_turned 172 = .ok (.areturn, 1) := by decide +kernel
theorem dX11_isSame_0 : decode cX11_isSame 0 = .ok (.iconst 0, 1) := by decide +kernel
theorem dX11_isSame_1 : decode cX11_isSame 1 = .ok (.istore_n 3, 1) := by decide +kernel
theorem dX11_isSame_2 : decode cX11_isSame 2 = .ok (.iload_n 3, 1) := by decide +kernel
theorem dX11_isSame_3 : decode cX11_isSame 3 = .ok (.aload_n 0, 1) := by decide +kernel
theorem dX11_isSame_4 : decode cX11_isSame 4 = .ok (.getfield 13, 3) := by decide +kernel
theorem dX11_isSame_7 : decode cX11_isSame 7 = .ok (.if_icmp .ge 72, 3) := by decide +kernel
theorem dX11_isSame_10 : decode cX11_isSame 10 = .ok (.iconst 0, 1) := by decide +kernel
theorem dX11_isSame_11 : decode cX11_isSame 11 = .ok (.istore 4, 2) := by decide +kernel
theorem dX11_isSame_13 : decode cX11_isSame 13 = .ok (.iload 4, 2) := by decide +kernel
theorem dX11_isSame_15 : decode cX11_isSame 15 = .ok (.aload_n 0, 1) := by decide +kernel
theorem dX11_isSame_16 : decode cX11_isSame 16 = .ok (.getfield 13, 3) := by decide +kernel
theorem dX11_isSame_19 : decode cX11_isSame 19 = .ok (.if_icmp .ge 54, 3) := by decide +kernel
theorem dX11_isSame_22 : decode cX11_isSame 22 = .ok (.iconst 0, 1) := by decide +kernel
theorem dX11_isSame_23 : decode cX11_isSame 23 = .ok (.istore 5, 2) := by decide +kernel
theorem dX11_isSame_25 : decode cX11_isSame 25 = .ok (.iload 5, 2) := by decide +kernel
theorem dX11_isSame_27 : decode cX11_isSame 27 = .ok (.aload_n 0, 1) := by decide +kernel
theorem dX11_isSame_28 : decode cX11_isSame 28 = .ok (.getfield 13, 3) := by decide +kernel
theorem dX11_isSame_31 : decode cX11_isSame 31 = .ok (.if_icmp .ge 36, 3) := by decide +kernel
theorem dX11_isSame_34 : decode cX11_isSame 34 = .ok (.aload_n 1, 1) := by decide +kernel
theorem dX11_isSame_35 : decode cX11_isSame 35 = .ok (.iload_n 2, 1) := by decide +kernel
theorem dX11_isSame_36 : decode cX11_isSame 36 = .ok (.iload_n 3, 1) := by decide +kernel
theorem dX11_isSame_37 : decode cX11_isSame 37 = .ok (.iload 4, 2) := by decide +kernel
theorem dX11_isSame_39 : decode cX11_isSame 39 = .ok (.iload 5, 2) := by decide +kernel
theorem dX11_isSame_41 : decode cX11_isSame 41 = .ok (.invokevirtual 45, 3) := by decide +kernel
theorem dX11_isSame_44 : decode cX11_isSame 44 = .ok (.aload_n 0, 1) := by decide +kernel
theorem dX11_isSame_45 : decode cX11_isSame 45 = .ok (.getfield 21, 3) := by decide +kernel
theorem dX11_isSame_48 : decode cX11_isSame 48 = .ok (.iload_n 3, 1) := by decide +kernel
theorem dX11_isSame_49 : decode cX11_isSame 49 = .ok (.aaload, 1) := by decide +kernel
theorem dX11_isSame_50 : decode cX11_isSame 50 = .ok (.iload 4, 2) := by decide +kernel
theorem dX11_isSame_52 : decode cX11_isSame 52 = .ok (.aaload, 1) := by decide +kernel
theorem dX11_isSame_53 : decode cX11_isSame 53 = .ok (.iload 5, 2) := by decide +kernel
theorem dX11_isSame_55 : decode cX11_isSame 55 = .ok (.iaload, 1) := by decide +kernel
theorem dX11_isSame_56 : decode cX11_isSame 56 = .ok (.if_icmp .eq 5, 3) := by decide +kernel
theorem dX11_isSame_59 : decode cX11_isSame 59 = .ok (.iconst 0, 1) := by decide +kernel
theorem dX11_isSame_60 : decode cX11_isSame 60 = .ok (.ireturn, 1) := by decide +kernel
theorem dX11_isSame_61 : decode cX11_isSame 61 = .ok (.iinc 5 1, 3) := by decide +kernel
theorem dX11_isSame_64 : decode cX11_isSame 64 = .ok (.goto (-39), 3) := by decide +kernel
theorem dX11_isSame_67 : decode cX11_isSame 67 = .ok (.iinc 4 1, 3) := by decide +kernel
theorem dX11_isSame_70 : decode cX11_isSame 70 = .ok (.goto (-57), 3) := by decide +kernel
theorem dX11_isSame_73 : decode cX11_isSame 73 = .ok (.iinc 3 1, 3) := by decide +kernel
theorem dX11_isSame_76 : decode cX11_isSame 76 = .ok (.goto (-74), 3) := by decide +kernel
theorem dX11_isSame_79 : decode cX11_isSame 79 = .ok (.aload_n 1, 1) := by decide +kernel
theorem dX11_isSame_80 : decode cX11_isSame 80 = .ok (.iload_n 2, 1) := by decide +kernel
theorem dX11_isSame_81 : decode cX11_isSame 81 = .ok (.iconst 0, 1) := by decide +kernel
theorem dX11_isSame_82 : decode cX11_isSame 82 = .ok (.invokevirtual 51, 3) := by decide +kernel
theorem dX11_isSame_85 : decode cX11_isSame 85 = .ok (.aload_n 0, 1) := by decide +kernel
theorem dX11_isSame_86 : decode cX11_isSame 86 = .ok (.getfield 7, 3) := by decide +kernel
theorem dX11_isSame_89 : decode cX11_isSame 89 = .ok (.if_icmp .ne 48, 3) := by decide +kernel
theorem dX11_isSame_92 : decode cX11_isSame 92 = .ok (.aload_n 1, 1) := by decide +kernel
theorem dX11_isSame_93 : decode cX11_isSame 93 = .ok (.iload_n 2, 1) := by decide +kernel
theorem dX11_isSame_94 : decode cX11_isSame 94 = .ok (.iconst 1, 1) := by decide +kernel
theorem dX11_isSame_95 : decode cX11_isSame 95 = .ok (.invokevirtual 51, 3) := by decide +kernel
theorem dX11_isSame_98 : decode cX11_isSame 98 = .ok (.aload_n 0, 1) := by decide +kernel
theorem dX11_isSame_99 : decode cX11_isSame 99 = .ok (.getfield 13, 3) := by decide +kernel
theorem dX11_isSame_102 : decode cX11_isSame 102 = .ok (.if_icmp .ne 35, 3) := by decide +kernel
theorem dX11_isSame_105 : decode cX11_isSame 105 = .ok (.aload_n 1, 1) := by decide +kernel
theorem dX11_isSame_106 : decode cX11_isSame 106 = .ok (.iload_n 2, 1) := by decide +kernel
theorem dX11_isSame_107 : decode cX11_isSame 107 = .ok (.iconst 2, 1) := by decide +kernel
theorem dX11_isSame_108 : decode cX11_isSame 108 = .ok (.invokevirtual 51, 3) := by decide +kernel
theorem dX11_isSame_111 : decode cX11_isSame 111 = .ok (.aload_n 0, 1) := by decide +kernel
theorem dX11_isSame_112 : decode cX11_isSame 112 = .ok (.getfield 16, 3) := by decide +kernel
theorem dX11_isSame_115 : decode cX11_isSame 115 = .ok (.if_icmp .ne 22, 3) := by decide +kernel
theorem dX11_isSame_118 : decode cX11_isSame 118 = .ok (.aload_n 1, 1) := by decide +kernel
theorem dX11_isSame_119 : decode cX11_isSame 119 = .ok (.iload_n 2, 1) := by decide +kernel
theorem dX11_isSame_120 : decode cX11_isSame 120 = .ok (.aload_n 0, 1) := by decide +kernel
theorem dX11_isSame_121 : decode cX11_isSame 121 = .ok (.getfield 13, 3) := by decide +kernel
theorem dX11_isSame_124 : decode cX11_isSame 124 = .ok (.iconst 0, 1) := by decide +kernel
theorem dX11_isSame_125 : decode cX11_isSame 125 = .ok (.iconst 0, 1) := by decide +kernel
theorem dX11_isSame_126 : decode cX11_isSame 126 = .ok (.invokevirtual 45, 3) := by decide +kernel
theorem dX11_isSame_129 : decode cX11_isSame 129 = .ok (.iconst (-1), 1) := by decide +kernel
theorem dX11_isSame_130 : decode cX11_isSame 130 = .ok (.if_icmp .ne 7, 3) := by decide +kernel
theorem dX11_isSame_133 : decode cX11_isSame 133 = .ok (.iconst 1, 1) := by decide +kernel
theorem dX11_isSame_134 : decode cX11_isSame 134 = .ok (.goto 4, 3) := by decide +kernel
theorem dX11_isSame_137 : decode cX11_isSame 137 = .ok (.iconst 0, 1) := by decide +kernel
theorem dX11_isSame_138 : decode cX11_isSame 138 = .ok (.ireturn, 1) := by decide +kernel
