theorem dX7_init_0 : decode cX7_init 0 = .ok (.aload_n 0, 1) := by decide +kernel
theorem dX7_init_1 : decode cX7_init 1 = .ok (.invokespecial 3, 3) := by decide +kernel
theorem dX7_init_4 : decode cX7_init 4 = .ok (.aload_n 0, 1) := by decide +kernel
theorem dX7_init_5 : decode cX7_init 5 = .ok (.iconst 5, 1) := by decide +kernel
theorem dX7_init_6 : decode cX7_init 6 = .ok (.newarray .int, 2) := by decide +kernel
theorem dX7_init_8 : decode cX7_init 8 = .ok (.putfield 9, 3) := by decide +kernel
theorem dX7_init_11 : decode cX7_init 11 = .ok (.aload_n 0, 1) := by decide +kernel
theorem dX7_init_12 : decode cX7_init 12 = .ok (.iconst 5, 1) := by decide +kernel
theorem dX7_init_13 : decode cX7_init 13 = .ok (.newarray .int, 2) := by decide +kernel
theorem dX7_init_15 : decode cX7_init 15 = .ok (.putfield 15, 3) := by decide +kernel
theorem dX7_init_18 : decode cX7_init 18 = .ok (.aload_n 0, 1) := by decide +kernel
theorem dX7_init_19 : decode cX7_init 19 = .ok (.bipush 125, 2) := by decide +kernel
theorem dX7_init_21 : decode cX7_init 21 = .ok (.newarray .int, 2) := by decide +kernel
theorem dX7_init_23 : decode cX7_init 23 = .ok (.putfield 18, 3) := by decide +kernel
theorem dX7_init_26 : decode cX7_init 26 = .ok (.aload_n 0, 1) := by decide +kernel
theorem dX7_init_27 : decode cX7_init 27 = .ok (.sipush 243, 3) := by decide +kernel
theorem dX7_init_30 : decode cX7_init 30 = .ok (.newarray .int, 2) := by decide +kernel
theorem dX7_init_32 : decode cX7_init 32 = .ok (.putfield 21, 3) := by decide +kernel
theorem dX7_init_35 : decode cX7_init 35 = .ok (.aload_n 0, 1) := by decide +kernel
theorem dX7_init_36 : decode cX7_init 36 = .ok (.sipush 243, 3) := by decide +kernel
theorem dX7_init_39 : decode cX7_init 39 = .ok (.newarray .boolean, 2) := by decide +kernel
theorem dX7_init_41 : decode cX7_init 41 = .ok (.putfield 24, 3) := by decide +kernel
theorem dX7_init_44 : decode cX7_init 44 = .ok (.aload_n 0, 1) := by decide +kernel
theorem dX7_init_45 : decode cX7_init 45 = .ok (.aload_n 1, 1) := by decide +kernel
theorem dX7_init_46 : decode cX7_init 46 = .ok (.putfield 28, 3) := by decide +kernel
theorem dX7_init_49 : decode cX7_init 49 = .ok (.aload_n 0, 1) := by decide +kernel
theorem dX7_init_50 : decode cX7_init 50 = .ok (.aload_n 2, 1) := by decide +kernel
theorem dX7_init_51 : decode cX7_init 51 = .ok (.putfield 32, 3) := by decide +kernel
theorem dX7_init_54 : decode cX7_init 54 = .ok (.return_, 1) := by decide +kernel
theorem dX7_divides_0 : decode cX7_divides 0 = .ok (.aload_n 0, 1) := by decide +kernel
theorem dX7_divides_1 : decode cX7_divides 1 = .ok (.aload_n 1, 1) := by decide +kernel
theorem dX7_divides_2 : decode cX7_divides 2 = .ok (.invokevirtual 36, 3) := by decide +kernel
theorem dX7_divides_5 : decode cX7_divides 5 = .ok (.iconst (-1), 1) := by decide +kernel
theorem dX7_divides_6 : decode cX7_divides 6 = .ok (.if_icmp .ne 7, 3) := by decide +kernel
theorem dX7_divides_9 : decode cX7_divides 9 = .ok (.iconst 1, 1) := by decide +kernel
theorem dX7_divides_10 : decode cX7_divides 10 = .ok (.goto 4, 3) := by decide +kernel
theorem dX7_divides_13 : decode cX7_divides 13 = .ok (.iconst 0, 1) := by decide +kernel
theorem dX7_divides_14 : decode cX7_divides 14 = .ok (.ireturn, 1) := by decide +kernel
theorem dX7_failing_0 : decode cX7_failing 0 = .ok (.aload_n 1, 1) := by decide +kernel
theorem dX7_failing_1 : decode cX7_failing 1 = .ok (.invokevirtual 40, 3) := by decide +kernel
theorem dX7_failing_4 : decode cX7_failing 4 = .ok (.bipush (-2), 2) := by decide +kernel
theorem dX7_failing_6 : decode cX7_failing 6 = .ok (.if_icmp .ne 39, 3) := by decide +kernel
theorem dX7_failing_9 : decode cX7_failing 9 = .ok (.aload_n 0, 1) := by decide +kernel
theorem dX7_failing_10 : decode cX7_failing 10 = .ok (.getfield 32, 3) := by decide +kernel
theorem dX7_failing_13 : decode cX7_failing 13 = .ok (.aload_n 1, 1) := by decide +kernel
theorem dX7_failing_14 : decode cX7_failing 14 = .ok (.iconst 0, 1) := by decide +kernel
theorem dX7_failing_15 : decode cX7_failing 15 = .ok (.invokevirtual 46, 3) := by decide +kernel
theorem dX7_failing_18 : decode cX7_failing 18 = .ok (.istore_n 2, 1) := by decide +kernel
theorem dX7_failing_19 : decode cX7_failing 19 = .ok (.aload_n 1, 1) := by decide +kernel
theorem dX7_failing_20 : decode cX7_failing 20 = .ok (.iload_n 2, 1) := by decide +kernel
theorem dX7_failing_21 : decode cX7_failing 21 = .ok (.iconst (-1), 1) := by decide +kernel
theorem dX7_failing_22 : decode cX7_failing 22 = .ok (.if_icmp .ne 7, 3) := by decide +kernel
theorem dX7_failing_25 : decode cX7_failing 25 = .ok (.iconst (-1), 1) := by decide +kernel
theorem dX7_failing_26 : decode cX7_failing 26 = .ok (.goto 16, 3) := by decide +kernel
theorem dX7_failing_29 : decode cX7_failing 29 = .ok (.aload_n 1, 1) := by decide +kernel
theorem dX7_failing_30 : decode cX7_failing 30 = .ok (.invokevirtual 52, 3) := by decide +kernel
theorem dX7_failing_33 : decode cX7_failing 33 = .ok (.iload_n 2, 1) := by decide +kernel
theorem dX7_failing_34 : decode cX7_failing 34 = .ok (.imul, 1) := by decide +kernel
theorem dX7_failing_35 : decode cX7_failing 35 = .ok (.aload_n 0, 1) := by decide +kernel
theorem dX7_failing_36 : decode cX7_failing 36 = .ok (.aload_n 1, 1) := by decide +kernel
theorem dX7_failing_37 : decode cX7_failing 37 = .ok (.iload_n 2, 1) := by decide +kernel
theorem dX7_failing_38 : decode cX7_failing 38 = .ok (.invokevirtual 55, 3) := by decide +kernel
theorem dX7_failing_41 : decode cX7_failing 41 = .ok (.iadd, 1) := by decide +kernel
theorem dX7_failing_42 : decode cX7_failing 42 = .ok (.invokevirtual 58, 3) := by decide +kernel
theorem dX7_failing_45 : decode cX7_failing 45 = .ok (.aload_n 1, 1) := by decide +kernel
theorem dX7_failing_46 : decode cX7_failing 46 = .ok (.invokevirtual 40, 3) := by decide +kernel
theorem dX7_failing_49 : decode cX7_failing 49 = .ok (.ireturn, 1) := by decide +kernel
theorem dX7_leastToNought_0 : decode cX7_leastToNought 0 = .ok (.iconst 1, 1) := by decide +kernel
theorem dX7_leastToNought_1 : decode cX7_leastToNought 1 = .ok (.istore_n 3, 1) := by decide +kernel
theorem dX7_leastToNought_2 : decode cX7_leastToNought 2 = .ok (.iload_n 3, 1) := by decide +kernel
theorem dX7_leastToNought_3 : decode cX7_leastToNought 3 = .ok (.aload_n 1, 1) := by decide +kernel
theorem dX7_leastToNought_4 : decode cX7_leastToNought 4 = .ok (.invokevirtual 52, 3) := by decide +kernel
theorem dX7_leastToNought_7 : decode cX7_leastToNought 7 = .ok (.if_icmp .ge 20, 3) := by decide +kernel
theorem dX7_leastToNought_10 : decode cX7_leastToNought 10 = .ok (.aload_n 1, 1) := by decide +kernel
theorem dX7_leastToNought_11 : decode cX7_leastToNought 11 = .ok (.iload_n 2, 1) := by decide +kernel
theorem dX7_leastToNought_12 : decode cX7_leastToNought 12 = .ok (.iload_n 3, 1) := by decide +kernel
theorem dX7_leastToNought_13 : decode cX7_leastToNought 13 = .ok (.invokevirtual 62, 3) := by decide +kernel
theorem dX7_leastToNought_16 : decode cX7_leastToNought 16 = .ok (.ifCond .ne 5, 3) := by decide +kernel
theorem dX7_leastToNought_19 : decode cX7_leastToNought 19 = .ok (.iload_n 3, 1) := by decide +kernel
theorem dX7_leastToNought_20 : decode cX7_leastToNought 20 = .ok (.ireturn, 1) := by decide +kernel
theorem dX7_leastToNought_21 : decode cX7_leastToNought 21 = .ok (.iinc 3 1, 3) := by decide +kernel
theorem dX7_leastToNought_24 : decode cX7_leastToNought 24 = .ok (.goto (-22), 3) := by decide +kernel
theorem dX7_leastToNought_27 : decode cX7_leastToNought 27 = .ok (.iconst 0, 1) := by decide +kernel
theorem dX7_leastToNought_28 : decode cX7_leastToNought 28 = .ok (.ireturn, 1) := by decide +kernel
theorem dX7_unit_0 : decode cX7_unit 0 = .ok (.iconst 1, 1) := by decide +kernel
theorem dX7_unit_1 : decode cX7_unit 1 = .ok (.istore_n 2, 1) := by decide +kernel
theorem dX7_unit_2 : decode cX7_unit 2 = .ok (.iload_n 2, 1) := by decide +kernel
theorem dX7_unit_3 : decode cX7_unit 3 = .ok (.aload_n 1, 1) := by decide +kernel
theorem dX7_unit_4 : decode cX7_unit 4 = .ok (.invokevirtual 52, 3) := by decide +kernel
theorem dX7_unit_7 : decode cX7_unit 7 = .ok (.if_icmp .ge 20, 3) := by decide +kernel
theorem dX7_unit_10 : decode cX7_unit 10 = .ok (.aload_n 0, 1) := by decide +kernel
theorem dX7_unit_11 : decode cX7_unit 11 = .ok (.aload_n 1, 1) := by decide +kernel
theorem dX7_unit_12 : decode cX7_unit 12 = .ok (.iload_n 2, 1) := by decide +kernel
theorem dX7_unit_13 : decode cX7_unit 13 = .ok (.invokevirtual 66, 3) := by decide +kernel
theorem dX7_unit_16 : decode cX7_unit 16 = .ok (.ifCond .eq 5, 3) := by decide +kernel
theorem dX7_unit_19 : decode cX7_unit 19 = .ok (.iload_n 2, 1) := by decide +kernel
theorem dX7_unit_20 : decode cX7_unit 20 = .ok (.ireturn, 1) := by decide +kernel
theorem dX7_unit_21 : decode cX7_unit 21 = .ok (.iinc 2 1, 3) := by decide +kernel
theorem dX7_unit_24 : decode cX7_unit 24 = .ok (.goto (-22), 3) := by decide +kernel
theorem dX7_unit_27 : decode cX7_unit 27 = .ok (.iconst (-1), 1) := by decide +kernel
theorem dX7_unit_28 : decode cX7_unit 28 = .ok (.ireturn, 1) := by decide +kernel
theorem dX7_isUnit_0 : decode cX7_isUnit 0 = .ok (.iconst 0, 1) := by decide +kernel
theorem dX7_isUnit_1 : decode cX7_isUnit 1 = .ok (.istore_n 3, 1) := by decide +kernel
theorem dX7_isUnit_2 : decode cX7_isUnit 2 = .ok (.iload_n 3, 1) := by decide +kernel
theorem dX7_isUnit_3 : decode cX7_isUnit 3 = .ok (.aload_n 1, 1) := by decide +kernel
theorem dX7_isUnit_4 : decode cX7_isUnit 4 = .ok (.invokevirtual 70, 3) := by decide +kernel
theorem dX7_isUnit_7 : decode cX7_isUnit 7 = .ok (.if_icmp .ge 42, 3) := by decide +kernel
theorem dX7_isUnit_10 : decode cX7_isUnit 10 = .ok (.aload_n 1, 1) := by decide +kernel
theorem dX7_isUnit_11 : decode cX7_isUnit 11 = .ok (.iload_n 3, 1) := by decide +kernel
theorem dX7_isUnit_12 : decode cX7_isUnit 12 = .ok (.invokevirtual 73, 3) := by decide +kernel
theorem dX7_isUnit_15 : decode cX7_isUnit 15 = .ok (.istore 4, 2) := by decide +kernel
theorem dX7_isUnit_17 : decode cX7_isUnit 17 = .ok (.aload_n 1, 1) := by decide +kernel
theorem dX7_isUnit_18 : decode cX7_isUnit 18 = .ok (.iload_n 2, 1) := by decide +kernel
theorem dX7_isUnit_19 : decode cX7_isUnit 19 = .ok (.iload 4, 2) := by decide +kernel
theorem dX7_isUnit_21 : decode cX7_isUnit 21 = .ok (.invokevirtual 62, 3) := by decide +kernel
theorem dX7_isUnit_24 : decode cX7_isUnit 24 = .ok (.iload 4, 2) := by decide +kernel
theorem dX7_isUnit_26 : decode cX7_isUnit 26 = .ok (.if_icmp .ne 15, 3) := by decide +kernel
theorem dX7_isUnit_29 : decode cX7_isUnit 29 = .ok (.aload_n 1, 1) := by decide +kernel
theorem dX7_isUnit_30 : decode cX7_isUnit 30 = .ok (.iload 4, 2) := by decide +kernel
theorem dX7_isUnit_32 : decode cX7_isUnit 32 = .ok (.iload_n 2, 1) := by decide +kernel
theorem dX7_isUnit_33 : decode cX7_isUnit 33 = .ok (.invokevirtual 62, 3) := by decide +kernel
theorem dX7_isUnit_36 : decode cX7_isUnit 36 = .ok (.iload 4, 2) := by decide +kernel
theorem dX7_isUnit_38 : decode cX7_isUnit 38 = .ok (.if_icmp .eq 5, 3) := by decide +kernel
theorem dX7_isUnit_41 : decode cX7_isUnit 41 = .ok (.iconst 0, 1) := by decide +kernel
theorem dX7_isUnit_42 : decode cX7_isUnit 42 = .ok (.ireturn, 1) := by decide +kernel
theorem dX7_isUnit_43 : decode cX7_isUnit 43 = .ok (.iinc 3 1, 3) := by decide +kernel
theorem dX7_isUnit_46 : decode cX7_isUnit 46 = .ok (.goto (-44), 3) := by decide +kernel
theorem dX7_isUnit_49 : decode cX7_isUnit 49 = .ok (.iconst 1, 1) := by decide +kernel
theorem dX7_isUnit_50 : decode cX7_isUnit 50 = .ok (.ireturn, 1) := by decide +kernel
theorem dX7_difference_0 : decode cX7_difference 0 = .ok (.aload_n 1, 1) := by decide +kernel
theorem dX7_difference_1 : decode cX7_difference 1 = .ok (.iload_n 2, 1) := by decide +kernel
theorem dX7_difference_2 : decode cX7_difference 2 = .ok (.invokevirtual 73, 3) := by decide +kernel
theorem dX7_difference_5 : decode cX7_difference 5 = .ok (.istore 5, 2) := by decide +kernel
theorem dX7_difference_7 : decode cX7_difference 7 = .ok (.aload_n 1, 1) := by decide +kernel
theorem dX7_difference_8 : decode cX7_difference 8 = .ok (.iload_n 3, 1) := by decide +kernel
theorem dX7_difference_9 : decode cX7_difference 9 = .ok (.invokevirtual 73, 3) := by decide +kernel
theorem dX7_difference_12 : decode cX7_difference 12 = .ok (.istore 6, 2) := by decide +kernel
theorem dX7_difference_14 : decode cX7_difference 14 = .ok (.aload_n 1, 1) := by decide +kernel
theorem dX7_difference_15 : decode cX7_difference 15 = .ok (.iload 4, 2) := by decide +kernel
theorem dX7_difference_17 : decode cX7_difference 17 = .ok (.invokevirtual 73, 3) := by decide +kernel
theorem dX7_difference_20 : decode cX7_difference 20 = .ok (.istore 7, 2) := by decide +kernel
theorem dX7_difference_22 : decode cX7_difference 22 = .ok (.aload_n 1, 1) := by decide +kernel
theorem dX7_difference_23 : decode cX7_difference 23 = .ok (.aload_n 1, 1) := by decide +kernel
theorem dX7_difference_24 : decode cX7_difference 24 = .ok (.iload 5, 2) := by decide +kernel
theorem dX7_difference_26 : decode cX7_difference 26 = .ok (.iload 6, 2) := by decide +kernel
theorem dX7_difference_28 : decode cX7_difference 28 = .ok (.invokevirtual 62, 3) := by decide +kernel
theorem dX7_difference_31 : decode cX7_difference 31 = .ok (.iload 7, 2) := by decide +kernel
theorem dX7_difference_33 : decode cX7_difference 33 = .ok (.invokevirtual 62, 3) := by decide +kernel
theorem dX7_difference_36 : decode cX7_difference 36 = .ok (.istore 8, 2) := by decide +kernel
theorem dX7_difference_38 : decode cX7_difference 38 = .ok (.aload_n 1, 1) := by decide +kernel
theorem dX7_difference_39 : decode cX7_difference 39 = .ok (.iload 5, 2) := by decide +kernel
theorem dX7_difference_41 : decode cX7_difference 41 = .ok (.aload_n 1, 1) := by decide +kernel
theorem dX7_difference_42 : decode cX7_difference 42 = .ok (.iload 6, 2) := by decide +kernel
theorem dX7_difference_44 : decode cX7_difference 44 = .ok (.iload 7, 2) := by decide +kernel
theorem dX7_difference_46 : decode cX7_difference 46 = .ok (.invokevirtual 62, 3) := by decide +kernel
theorem dX7_difference_49 : decode cX7_difference 49 = .ok (.invokevirtual 62, 3) := by decide +kernel
theorem dX7_difference_52 : decode cX7_difference 52 = .ok (.istore 9, 2) := by decide +kernel
theorem dX7_difference_54 : decode cX7_difference 54 = .ok (.iload 8, 2) := by decide +kernel
theorem dX7_difference_56 : decode cX7_difference 56 = .ok (.iload 9, 2) := by decide +kernel
theorem dX7_difference_58 : decode cX7_difference 58 = .ok (.if_icmp .ne 7, 3) := by decide +kernel
theorem dX7_difference_61 : decode cX7_difference 61 = .ok (.iconst 0, 1) := by decide +kernel
theorem dX7_difference_62 : decode cX7_difference 62 = .ok (.goto 14, 3) := by decide +kernel
theorem dX7_difference_65 : decode cX7_difference 65 = .ok (.aload_n 1, 1) := by decide +kernel
theorem dX7_difference_66 : decode cX7_difference 66 = .ok (.invokevirtual 81, 3) := by decide +kernel
theorem dX7_difference_69 : decode cX7_difference 69 = .ok (.iload 8, 2) := by decide +kernel
theorem dX7_difference_71 : decode cX7_difference 71 = .ok (.iload 9, 2) := by decide +kernel
theorem dX7_difference_73 : decode cX7_difference 73 = .ok (.invokestatic 102, 3) := by decide +kernel
theorem dX7_difference_76 : decode cX7_difference 76 = .ok (.ireturn, 1) := by decide +kernel
theorem dX7_firstUnjoined_0 : decode cX7_firstUnjoined 0 = .ok (.aload_n 1, 1) := by decide +kernel
theorem dX7_firstUnjoined_1 : decode cX7_firstUnjoined 1 = .ok (.invokevirtual 70, 3) := by decide +kernel
theorem dX7_firstUnjoined_4 : decode cX7_firstUnjoined 4 = .ok (.istore_n 2, 1) := by decide +kernel
theorem dX7_firstUnjoined_5 : decode cX7_firstUnjoined 5 = .ok (.iconst 0, 1) := by decide +kernel
theorem dX7_firstUnjoined_6 : decode cX7_firstUnjoined 6 = .ok (.istore_n 3, 1) := by decide +kernel
theorem dX7_firstUnjoined_7 : decode cX7_firstUnjoined 7 = .ok (.iload_n 3, 1) := by decide +kernel
theorem dX7_firstUnjoined_8 : decode cX7_firstUnjoined 8 = .ok (.iload_n 2, 1) := by decide +kernel
theorem dX7_firstUnjoined_9 : decode cX7_firstUnjoined 9 = .ok (.if_icmp .ge 65, 3) := by decide +kernel
theorem dX7_firstUnjoined_12 : decode cX7_firstUnjoined 12 = .ok (.iconst 0, 1) := by decide +kernel
theorem dX7_firstUnjoined_13 : decode cX7_firstUnjoined 13 = .ok (.istore 4, 2) := by decide +kernel
theorem dX7_firstUnjoined_15 : decode cX7_firstUnjoined 15 = .ok (.iload 4, 2) := by decide +kernel
theorem dX7_firstUnjoined_17 : decode cX7_firstUnjoined 17 = .ok (.iload_n 2, 1) := by decide +kernel
theorem dX7_firstUnjoined_18 : decode cX7_firstUnjoined 18 = .ok (.if_icmp .ge 50, 3) := by decide +kernel
theorem dX7_firstUnjoined_21 : decode cX7_firstUnjoined 21 = .ok (.iconst 0, 1) := by decide +kernel
theorem dX7_firstUnjoined_22 : decode cX7_firstUnjoined 22 = .ok (.istore 5, 2) := by decide +kernel
theorem dX7_firstUnjoined_24 : decode cX7_firstUnjoined 24 = .ok (.iload 5, 2) := by decide +kernel
theorem dX7_firstUnjoined_26 : decode cX7_firstUnjoined 26 = .ok (.iload_n 2, 1) := by decide +kernel
theorem dX7_firstUnjoined_27 : decode cX7_firstUnjoined 27 = .ok (.if_icmp .ge 35, 3) := by decide +kernel
theorem dX7_firstUnjoined_30 : decode cX7_firstUnjoined 30 = .ok (.aload_n 0, 1) := by decide +kernel
theorem dX7_firstUnjoined_31 : decode cX7_firstUnjoined 31 = .ok (.aload_n 1, 1) := by decide +kernel
theorem dX7_firstUnjoined_32 : decode cX7_firstUnjoined 32 = .ok (.iload_n 3, 1) := by decide +kernel
theorem dX7_firstUnjoined_33 : decode cX7_firstUnjoined 33 = .ok (.iload 4, 2) := by decide +kernel
theorem dX7_firstUnjoined_35 : decode cX7_firstUnjoined 35 = .ok (.iload 5, 2) := by decide +kernel
theorem dX7_firstUnjoined_37 : decode cX7_firstUnjoined 37 = .ok (.invokevirtual 106, 3) := by decide +kernel
theorem dX7_firstUnjoined_40 : decode cX7_firstUnjoined 40 = .ok (.ifCond .eq 16, 3) := by decide +kernel
theorem dX7_firstUnjoined_43 : decode cX7_firstUnjoined 43 = .ok (.bipush 25, 2) := by decide +kernel
theorem dX7_firstUnjoined_45 : decode cX7_firstUnjoined 45 = .ok (.iload_n 3, 1) := by decide +kernel
theorem dX7_firstUnjoined_46 : decode cX7_firstUnjoined 46 = .ok (.imul, 1) := by decide +kernel
theorem dX7_firstUnjoined_47 : decode cX7_firstUnjoined 47 = .ok (.iconst 5, 1) := by decide +kernel
theorem dX7_firstUnjoined_48 : decode cX7_firstUnjoined 48 = .ok (.iload 4, 2) := by decide +kernel
theorem dX7_firstUnjoined_50 : decode cX7_firstUnjoined 50 = .ok (.imul, 1) := by decide +kernel
theorem dX7_firstUnjoined_51 : decode cX7_firstUnjoined 51 = .ok (.iadd, 1) := by decide +kernel
theorem dX7_firstUnjoined_52 : decode cX7_firstUnjoined 52 = .ok (.iload 5, 2) := by decide +kernel
theorem dX7_firstUnjoined_54 : decode cX7_firstUnjoined 54 = .ok (.iadd, 1) := by decide +kernel
theorem dX7_firstUnjoined_55 : decode cX7_firstUnjoined 55 = .ok (.ireturn, 1) := by decide +kernel
theorem dX7_firstUnjoined_56 : decode cX7_firstUnjoined 56 = .ok (.iinc 5 1, 3) := by decide +kernel
theorem dX7_firstUnjoined_59 : decode cX7_firstUnjoined 59 = .ok (.goto (-35), 3) := by decide +kernel
theorem dX7_firstUnjoined_62 : decode cX7_firstUnjoined 62 = .ok (.iinc 4 1, 3) := by decide +kernel
theorem dX7_firstUnjoined_65 : decode cX7_firstUnjoined 65 = .ok (.goto (-50), 3) := by decide +kernel
theorem dX7_firstUnjoined_68 : decode cX7_firstUnjoined 68 = .ok (.iinc 3 1, 3) := by decide +kernel
theorem dX7_firstUnjoined_71 : decode cX7_firstUnjoined 71 = .ok (.goto (-64), 3) := by decide +kernel
theorem dX7_firstUnjoined_74 : decode cX7_firstUnjoined 74 = .ok (.iconst (-1), 1) := by decide +kernel
theorem dX7_firstUnjoined_75 : decode cX7_firstUnjoined 75 = .ok (.ireturn, 1) := by decide +kernel
theorem dX7_findDifferences_0 : decode cX7_findDifferences 0 = .ok (.aload_n 1, 1) := by decide +kernel
theorem dX7_findDifferences_1 : decode cX7_findDifferences 1 = .ok (.invokevirtual 70, 3) := by decide +kernel
theorem dX7_findDifferences_4 : decode cX7_findDifferences 4 = .ok (.istore_n 2, 1) := by decide +kernel
theorem dX7_findDifferences_5 : decode cX7_findDifferences 5 = .ok (.iconst 0, 1) := by decide +kernel
theorem dX7_findDifferences_6 : decode cX7_findDifferences 6 = .ok (.istore_n 3, 1) := by decide +kernel
theorem dX7_findDifferences_7 : decode cX7_findDifferences 7 = .ok (.iload_n 3, 1) := by decide +kernel
theorem dX7_findDifferences_8 : decode cX7_findDifferences 8 = .ok (.iload_n 2, 1) := by decide +kernel
theorem dX7_findDifferences_9 : decode cX7_findDifferences 9 = .ok (.if_icmp .ge 66, 3) := by decide +kernel
theorem dX7_findDifferences_12 : decode cX7_findDifferences 12 = .ok (.iconst 0, 1) := by decide +kernel
theorem dX7_findDifferences_13 : decode cX7_findDifferences 13 = .ok (.istore 4, 2) := by decide +kernel
theorem dX7_findDifferences_15 : decode cX7_findDifferences 15 = .ok (.iload 4, 2) := by decide +kernel
theorem dX7_findDifferences_17 : decode cX7_findDifferences 17 = .ok (.iload_n 2, 1) := by decide +kernel
theorem dX7_findDifferences_18 : decode cX7_findDifferences 18 = .ok (.if_icmp .ge 51, 3) := by decide +kernel
theorem dX7_findDifferences_21 : decode cX7_findDifferences 21 = .ok (.iconst 0, 1) := by decide +kernel
theorem dX7_findDifferences_22 : decode cX7_findDifferences 22 = .ok (.istore 5, 2) := by decide +kernel
theorem dX7_findDifferences_24 : decode cX7_findDifferences 24 = .ok (.iload 5, 2) := by decide +kernel
theorem dX7_findDifferences_26 : decode cX7_findDifferences 26 = .ok (.iload_n 2, 1) := by decide +kernel
theorem dX7_findDifferences_27 : decode cX7_findDifferences 27 = .ok (.if_icmp .ge 36, 3) := by decide +kernel
theorem dX7_findDifferences_30 : decode cX7_findDifferences 30 = .ok (.aload_n 0, 1) := by decide +kernel
theorem dX7_findDifferences_31 : decode cX7_findDifferences 31 = .ok (.getfield 18, 3) := by decide +kernel
theorem dX7_findDifferences_34 : decode cX7_findDifferences 34 = .ok (.bipush 25, 2) := by decide +kernel
theorem dX7_findDifferences_36 : decode cX7_findDifferences 36 = .ok (.iload_n 3, 1) := by decide +kernel
theorem dX7_findDifferences_37 : decode cX7_findDifferences 37 = .ok (.imul, 1) := by decide +kernel
theorem dX7_findDifferences_38 : decode cX7_findDifferences 38 = .ok (.iconst 5, 1) := by decide +kernel
theorem dX7_findDifferences_39 : decode cX7_findDifferences 39 = .ok (.iload 4, 2) := by decide +kernel
theorem dX7_findDifferences_41 : decode cX7_findDifferences 41 = .ok (.imul, 1) := by decide +kernel
theorem dX7_findDifferences_42 : decode cX7_findDifferences 42 = .ok (.iadd, 1) := by decide +kernel
theorem dX7_findDifferences_43 : decode cX7_findDifferences 43 = .ok (.iload 5, 2) := by decide +kernel
theorem dX7_findDifferences_45 : decode cX7_findDifferences 45 = .ok (.iadd, 1) := by decide +kernel
theorem dX7_findDifferences_46 : decode cX7_findDifferences 46 = .ok (.aload_n 0, 1) := by decide +kernel
theorem dX7_findDifferences_47 : decode cX7_findDifferences 47 = .ok (.aload_n 1, 1) := by decide +kernel
theorem dX7_findDifferences_48 : decode cX7_findDifferences 48 = .ok (.iload_n 3, 1) := by decide +kernel
theorem dX7_findDifferences_49 : decode cX7_findDifferences 49 = .ok (.iload 4, 2) := by decide +kernel
theorem dX7_findDifferences_51 : decode cX7_findDifferences 51 = .ok (.iload 5, 2) := by decide +kernel
theorem dX7_findDifferences_53 : decode cX7_findDifferences 53 = .ok (.invokevirtual 106, 3) := by decide +kernel
theorem dX7_findDifferences_56 : decode cX7_findDifferences 56 = .ok (.iastore, 1) := by decide +kernel
theorem dX7_findDifferences_57 : decode cX7_findDifferences 57 = .ok (.iinc 5 1, 3) := by decide +kernel
theorem dX7_findDifferences_60 : decode cX7_findDifferences 60 = .ok (.goto (-36), 3) := by decide +kernel
theorem dX7_findDifferences_63 : decode cX7_findDifferences 63 = .ok (.iinc 4 1, 3) := by decide +kernel
theorem dX7_findDifferences_66 : decode cX7_findDifferences 66 = .ok (.goto (-51), 3) := by decide +kernel
theorem dX7_findDifferences_69 : decode cX7_findDifferences 69 = .ok (.iinc 3 1, 3) := by decide +kernel
theorem dX7_findDifferences_72 : decode cX7_findDifferences 72 = .ok (.goto (-65), 3) := by decide +kernel
theorem dX7_findDifferences_75 : decode cX7_findDifferences 75 = .ok (.return_, 1) := by decide +kernel
theorem dX7_nucleus_0 : decode cX7_nucleus 0 = .ok (.aload_n 0, 1) := by decide +kernel
theorem dX7_nucleus_1 : decode cX7_nucleus 1 = .ok (.aload_n 1, 1) := by decide +kernel
theorem dX7_nucleus_2 : decode cX7_nucleus 2 = .ok (.invokevirtual 110, 3) := by decide +kernel
theorem dX7_nucleus_5 : decode cX7_nucleus 5 = .ok (.aload_n 0, 1) := by decide +kernel
theorem dX7_nucleus_6 : decode cX7_nucleus 6 = .ok (.getfield 28, 3) := by decide +kernel
theorem dX7_nucleus_9 : decode cX7_nucleus 9 = .ok (.aload_n 1, 1) := by decide +kernel
theorem dX7_nucleus_10 : decode cX7_nucleus 10 = .ok (.invokevirtual 81, 3) := by decide +kernel
theorem dX7_nucleus_13 : decode cX7_nucleus 13 = .ok (.aload_n 1, 1) := by decide +kernel
theorem dX7_nucleus_14 : decode cX7_nucleus 14 = .ok (.invokevirtual 70, 3) := by decide +kernel
theorem dX7_nucleus_17 : decode cX7_nucleus 17 = .ok (.invokevirtual 114, 3) := by decide +kernel
theorem dX7_nucleus_20 : decode cX7_nucleus 20 = .ok (.aload_n 0, 1) := by decide +kernel
theorem dX7_nucleus_21 : decode cX7_nucleus 21 = .ok (.aload_n 1, 1) := by decide +kernel
theorem dX7_nucleus_22 : decode cX7_nucleus 22 = .ok (.iload_n 2, 1) := by decide +kernel
theorem dX7_nucleus_23 : decode cX7_nucleus 23 = .ok (.invokevirtual 119, 3) := by decide +kernel
theorem dX7_nucleus_26 : decode cX7_nucleus 26 = .ok (.aload_n 1, 1) := by decide +kernel
theorem dX7_nucleus_27 : decode cX7_nucleus 27 = .ok (.invokevirtual 81, 3) := by decide +kernel
theorem dX7_nucleus_30 : decode cX7_nucleus 30 = .ok (.aload_n 1, 1) := by decide +kernel
theorem dX7_nucleus_31 : decode cX7_nucleus 31 = .ok (.invokevirtual 70, 3) := by decide +kernel
theorem dX7_nucleus_34 : decode cX7_nucleus 34 = .ok (.aload_n 0, 1) := by decide +kernel
theorem dX7_nucleus_35 : decode cX7_nucleus 35 = .ok (.getfield 28, 3) := by decide +kernel
theorem dX7_nucleus_38 : decode cX7_nucleus 38 = .ok (.invokevirtual 123, 3) := by decide +kernel
theorem dX7_nucleus_41 : decode cX7_nucleus 41 = .ok (.isub, 1) := by decide +kernel
theorem dX7_nucleus_42 : decode cX7_nucleus 42 = .ok (.invokestatic 126, 3) := by decide +kernel
theorem dX7_nucleus_45 : decode cX7_nucleus 45 = .ok (.ireturn, 1) := by decide +kernel
theorem dX7_centre_0 : decode cX7_centre 0 = .ok (.aload_n 0, 1) := by decide +kernel
theorem dX7_centre_1 : decode cX7_centre 1 = .ok (.aload_n 1, 1) := by decide +kernel
theorem dX7_centre_2 : decode cX7_centre 2 = .ok (.invokevirtual 110, 3) := by decide +kernel
theorem dX7_centre_5 : decode cX7_centre 5 = .ok (.aload_n 0, 1) := by decide +kernel
theorem dX7_centre_6 : decode cX7_centre 6 = .ok (.getfield 28, 3) := by decide +kernel
theorem dX7_centre_9 : decode cX7_centre 9 = .ok (.aload_n 1, 1) := by decide +kernel
theorem dX7_centre_10 : decode cX7_centre 10 = .ok (.invokevirtual 81, 3) := by decide +kernel
theorem dX7_centre_13 : decode cX7_centre 13 = .ok (.aload_n 1, 1) := by decide +kernel
theorem dX7_centre_14 : decode cX7_centre 14 = .ok (.invokevirtual 70, 3) := by decide +kernel
theorem dX7_centre_17 : decode cX7_centre 17 = .ok (.invokevirtual 114, 3) := by decide +kernel
theorem dX7_centre_20 : decode cX7_centre 20 = .ok (.aload_n 0, 1) := by decide +kernel
theorem dX7_centre_21 : decode cX7_centre 21 = .ok (.aload_n 1, 1) := by decide +kernel
theorem dX7_centre_22 : decode cX7_centre 22 = .ok (.iconst 0, 1) := by decide +kernel
theorem dX7_centre_23 : decode cX7_centre 23 = .ok (.invokevirtual 119, 3) := by decide +kernel
theorem dX7_centre_26 : decode cX7_centre 26 = .ok (.aload_n 0, 1) := by decide +kernel
theorem dX7_centre_27 : decode cX7_centre 27 = .ok (.aload_n 1, 1) := by decide +kernel
theorem dX7_centre_28 : decode cX7_centre 28 = .ok (.iconst 1, 1) := by decide +kernel
theorem dX7_centre_29 : decode cX7_centre 29 = .ok (.invokevirtual 119, 3) := by decide +kernel
theorem dX7_centre_32 : decode cX7_centre 32 = .ok (.aload_n 0, 1) := by decide +kernel
theorem dX7_centre_33 : decode cX7_centre 33 = .ok (.aload_n 1, 1) := by decide +kernel
theorem dX7_centre_34 : decode cX7_centre 34 = .ok (.iconst 2, 1) := by decide +kernel
theorem dX7_centre_35 : decode cX7_centre 35 = .ok (.invokevirtual 119, 3) := by decide +kernel
theorem dX7_centre_38 : decode cX7_centre 38 = .ok (.aload_n 0, 1) := by decide +kernel
theorem dX7_centre_39 : decode cX7_centre 39 = .ok (.aload_n 1, 1) := by decide +kernel
theorem dX7_centre_40 : decode cX7_centre 40 = .ok (.invokevirtual 129, 3) := by decide +kernel
theorem dX7_centre_43 : decode cX7_centre 43 = .ok (.aload_n 1, 1) := by decide +kernel
theorem dX7_centre_44 : decode cX7_centre 44 = .ok (.invokevirtual 81, 3) := by decide +kernel
theorem dX7_centre_47 : decode cX7_centre 47 = .ok (.aload_n 1, 1) := by decide +kernel
theorem dX7_centre_48 : decode cX7_centre 48 = .ok (.invokevirtual 70, 3) := by decide +kernel
theorem dX7_centre_51 : decode cX7_centre 51 = .ok (.aload_n 0, 1) := by decide +kernel
theorem dX7_centre_52 : decode cX7_centre 52 = .ok (.getfield 28, 3) := by decide +kernel
theorem dX7_centre_55 : decode cX7_centre 55 = .ok (.invokevirtual 123, 3) := by decide +kernel
theorem dX7_centre_58 : decode cX7_centre 58 = .ok (.isub, 1) := by decide +kernel
theorem dX7_centre_59 : decode cX7_centre 59 = .ok (.invokestatic 126, 3) := by decide +kernel
theorem dX7_centre_62 : decode cX7_centre 62 = .ok (.ireturn, 1) := by decide +kernel
theorem dX7_demandJoining_0 : decode cX7_demandJoining 0 = .ok (.iload_n 2, 1) := by decide +kernel
theorem dX7_demandJoining_1 : decode cX7_demandJoining 1 = .ok (.ifCond .ne 8, 3) := by decide +kernel
theorem dX7_demandJoining_4 : decode cX7_demandJoining 4 = .ok (.bipush 25, 2) := by decide +kernel
theorem dX7_demandJoining_6 : decode cX7_demandJoining 6 = .ok (.goto 13, 3) := by decide +kernel
theorem dX7_demandJoining_9 : decode cX7_demandJoining 9 = .ok (.iload_n 2, 1) := by decide +kernel
theorem dX7_demandJoining_10 : decode cX7_demandJoining 10 = .ok (.iconst 1, 1) := by decide +kernel
theorem dX7_demandJoining_11 : decode cX7_demandJoining 11 = .ok (.if_icmp .ne 7, 3) := by decide +kernel
theorem dX7_demandJoining_14 : decode cX7_demandJoining 14 = .ok (.iconst 5, 1) := by decide +kernel
theorem dX7_demandJoining_15 : decode cX7_demandJoining 15 = .ok (.goto 4, 3) := by decide +kernel
theorem dX7_demandJoining_18 : decode cX7_demandJoining 18 = .ok (.iconst 1, 1) := by decide +kernel
theorem dX7_demandJoining_19 : decode cX7_demandJoining 19 = .ok (.istore_n 3, 1) := by decide +kernel
theorem dX7_demandJoining_20 : decode cX7_demandJoining 20 = .ok (.iload_n 2, 1) := by decide +kernel
theorem dX7_demandJoining_21 : decode cX7_demandJoining 21 = .ok (.ifCond .ne 7, 3) := by decide +kernel
theorem dX7_demandJoining_24 : decode cX7_demandJoining 24 = .ok (.iconst 5, 1) := by decide +kernel
theorem dX7_demandJoining_25 : decode cX7_demandJoining 25 = .ok (.goto 5, 3) := by decide +kernel
theorem dX7_demandJoining_28 : decode cX7_demandJoining 28 = .ok (.bipush 25, 2) := by decide +kernel
theorem dX7_demandJoining_30 : decode cX7_demandJoining 30 = .ok (.istore 4, 2) := by decide +kernel
theorem dX7_demandJoining_32 : decode cX7_demandJoining 32 = .ok (.iload_n 2, 1) := by decide +kernel
theorem dX7_demandJoining_33 : decode cX7_demandJoining 33 = .ok (.iconst 2, 1) := by decide +kernel
theorem dX7_demandJoining_34 : decode cX7_demandJoining 34 = .ok (.if_icmp .ne 7, 3) := by decide +kernel
theorem dX7_demandJoining_37 : decode cX7_demandJoining 37 = .ok (.iconst 5, 1) := by decide +kernel
theorem dX7_demandJoining_38 : decode cX7_demandJoining 38 = .ok (.goto 4, 3) := by decide +kernel
theorem dX7_demandJoining_41 : decode cX7_demandJoining 41 = .ok (.iconst 1, 1) := by decide +kernel
theorem dX7_demandJoining_42 : decode cX7_demandJoining 42 = .ok (.istore 5, 2) := by decide +kernel
theorem dX7_demandJoining_44 : decode cX7_demandJoining 44 = .ok (.aload_n 1, 1) := by decide +kernel
theorem dX7_demandJoining_45 : decode cX7_demandJoining 45 = .ok (.invokevirtual 70, 3) := by decide +kernel
theorem dX7_demandJoining_48 : decode cX7_demandJoining 48 = .ok (.istore 6, 2) := by decide +kernel
theorem dX7_demandJoining_50 : decode cX7_demandJoining 50 = .ok (.iconst 0, 1) := by decide +kernel
theorem dX7_demandJoining_51 : decode cX7_demandJoining 51 = .ok (.istore 7, 2) := by decide +kernel
theorem dX7_demandJoining_53 : decode cX7_demandJoining 53 = .ok (.iload 7, 2) := by decide +kernel
theorem dX7_demandJoining_55 : decode cX7_demandJoining 55 = .ok (.iload 6, 2) := by decide +kernel
theorem dX7_demandJoining_57 : decode cX7_demandJoining 57 = .ok (.if_icmp .ge 42, 3) := by decide +kernel
theorem dX7_demandJoining_60 : decode cX7_demandJoining 60 = .ok (.iconst 0, 1) := by decide +kernel
theorem dX7_demandJoining_61 : decode cX7_demandJoining 61 = .ok (.istore 8, 2) := by decide +kernel
theorem dX7_demandJoining_63 : decode cX7_demandJoining 63 = .ok (.iload 8, 2) := by decide +kernel
theorem dX7_demandJoining_65 : decode cX7_demandJoining 65 = .ok (.iload 6, 2) := by decide +kernel
theorem dX7_demandJoining_67 : decode cX7_demandJoining 67 = .ok (.if_icmp .ge 26, 3) := by decide +kernel
theorem dX7_demandJoining_70 : decode cX7_demandJoining 70 = .ok (.aload_n 0, 1) := by decide +kernel
theorem dX7_demandJoining_71 : decode cX7_demandJoining 71 = .ok (.aload_n 1, 1) := by decide +kernel
theorem dX7_demandJoining_72 : decode cX7_demandJoining 72 = .ok (.iload 4, 2) := by decide +kernel
theorem dX7_demandJoining_74 : decode cX7_demandJoining 74 = .ok (.iload 7, 2) := by decide +kernel
theorem dX7_demandJoining_76 : decode cX7_demandJoining 76 = .ok (.imul, 1) := by decide +kernel
theorem dX7_demandJoining_77 : decode cX7_demandJoining 77 = .ok (.iload 5, 2) := by decide +kernel
theorem dX7_demandJoining_79 : decode cX7_demandJoining 79 = .ok (.iload 8, 2) := by decide +kernel
theorem dX7_demandJoining_81 : decode cX7_demandJoining 81 = .ok (.imul, 1) := by decide +kernel
theorem dX7_demandJoining_82 : decode cX7_demandJoining 82 = .ok (.iadd, 1) := by decide +kernel
theorem dX7_demandJoining_83 : decode cX7_demandJoining 83 = .ok (.iload_n 3, 1) := by decide +kernel
theorem dX7_demandJoining_84 : decode cX7_demandJoining 84 = .ok (.invokevirtual 132, 3) := by decide +kernel
theorem dX7_demandJoining_87 : decode cX7_demandJoining 87 = .ok (.iinc 8 1, 3) := by decide +kernel
theorem dX7_demandJoining_90 : decode cX7_demandJoining 90 = .ok (.goto (-27), 3) := by decide +kernel
theorem dX7_demandJoining_93 : decode cX7_demandJoining 93 = .ok (.iinc 7 1, 3) := by decide +kernel
theorem dX7_demandJoining_96 : decode cX7_demandJoining 96 = .ok (.goto (-43), 3) := by decide +kernel
theorem dX7_demandJoining_99 : decode cX7_demandJoining 99 = .ok (.return_, 1) := by decide +kernel
theorem dX7_demandNought_0 : decode cX7_demandNought 0 = .ok (.aload_n 1, 1) := by decide +kernel
theorem dX7_demandNought_1 : decode cX7_demandNought 1 = .ok (.invokevirtual 70, 3) := by decide +kernel
theorem dX7_demandNought_4 : decode cX7_demandNought 4 = .ok (.istore 4, 2) := by decide +kernel
theorem dX7_demandNought_6 : decode cX7_demandNought 6 = .ok (.aload_n 1, 1) := by decide +kernel
theorem dX7_demandNought_7 : decode cX7_demandNought 7 = .ok (.invokevirtual 81, 3) := by decide +kernel
theorem dX7_demandNought_10 : decode cX7_demandNought 10 = .ok (.istore 5, 2) := by decide +kernel
theorem dX7_demandNought_12 : decode cX7_demandNought 12 = .ok (.iload_n 2, 1) := by decide +kernel
theorem dX7_demandNought_13 : decode cX7_demandNought 13 = .ok (.ifCond .lt 20, 3) := by decide +kernel
theorem dX7_demandNought_16 : decode cX7_demandNought 16 = .ok (.iload_n 3, 1) := by decide +kernel
theorem dX7_demandNought_17 : decode cX7_demandNought 17 = .ok (.ifCond .lt 16, 3) := by decide +kernel
theorem dX7_demandNought_20 : decode cX7_demandNought 20 = .ok (.iload_n 2, 1) := by decide +kernel
theorem dX7_demandNought_21 : decode cX7_demandNought 21 = .ok (.iload_n 3, 1) := by decide +kernel
theorem dX7_demandNought_22 : decode cX7_demandNought 22 = .ok (.iload 4, 2) := by decide +kernel
theorem dX7_demandNought_24 : decode cX7_demandNought 24 = .ok (.iconst 1, 1) := by decide +kernel
theorem dX7_demandNought_25 : decode cX7_demandNought 25 = .ok (.isub, 1) := by decide +kernel
theorem dX7_demandNought_26 : decode cX7_demandNought 26 = .ok (.imul, 1) := by decide +kernel
theorem dX7_demandNought_27 : decode cX7_demandNought 27 = .ok (.iadd, 1) := by decide +kernel
theorem dX7_demandNought_28 : decode cX7_demandNought 28 = .ok (.bipush 125, 2) := by decide +kernel
theorem dX7_demandNought_30 : decode cX7_demandNought 30 = .ok (.if_icmp .lt 4, 3) := by decide +kernel
theorem dX7_demandNought_33 : decode cX7_demandNought 33 = .ok (.return_, 1) := by decide +kernel
theorem dX7_demandNought_34 : decode cX7_demandNought 34 = .ok (.iconst 0, 1) := by decide +kernel
theorem dX7_demandNought_35 : decode cX7_demandNought 35 = .ok (.istore 6, 2) := by decide +kernel
theorem dX7_demandNought_37 : decode cX7_demandNought 37 = .ok (.iload 6, 2) := by decide +kernel
theorem dX7_demandNought_39 : decode cX7_demandNought 39 = .ok (.iload 4, 2) := by decide +kernel
theorem dX7_demandNought_41 : decode cX7_demandNought 41 = .ok (.if_icmp .ge 72, 3) := by decide +kernel
theorem dX7_demandNought_44 : decode cX7_demandNought 44 = .ok (.aload_n 1, 1) := by decide +kernel
theorem dX7_demandNought_45 : decode cX7_demandNought 45 = .ok (.iload 6, 2) := by decide +kernel
theorem dX7_demandNought_47 : decode cX7_demandNought 47 = .ok (.invokevirtual 73, 3) := by decide +kernel
theorem dX7_demandNought_50 : decode cX7_demandNought 50 = .ok (.istore 7, 2) := by decide +kernel
theorem dX7_demandNought_52 : decode cX7_demandNought 52 = .ok (.iconst 0, 1) := by decide +kernel
theorem dX7_demandNought_53 : decode cX7_demandNought 53 = .ok (.istore 8, 2) := by decide +kernel
theorem dX7_demandNought_55 : decode cX7_demandNought 55 = .ok (.iload 8, 2) := by decide +kernel
theorem dX7_demandNought_57 : decode cX7_demandNought 57 = .ok (.iload 4, 2) := by decide +kernel
theorem dX7_demandNought_59 : decode cX7_demandNought 59 = .ok (.if_icmp .ge 40, 3) := by decide +kernel
theorem dX7_demandNought_62 : decode cX7_demandNought 62 = .ok (.iload 7, 2) := by decide +kernel
theorem dX7_demandNought_64 : decode cX7_demandNought 64 = .ok (.ifCond .le 35, 3) := by decide +kernel
theorem dX7_demandNought_67 : decode cX7_demandNought 67 = .ok (.aload_n 0, 1) := by decide +kernel
theorem dX7_demandNought_68 : decode cX7_demandNought 68 = .ok (.getfield 28, 3) := by decide +kernel
theorem dX7_demandNought_71 : decode cX7_demandNought 71 = .ok (.iload 8, 2) := by decide +kernel
theorem dX7_demandNought_73 : decode cX7_demandNought 73 = .ok (.aload_n 0, 1) := by decide +kernel
theorem dX7_demandNought_74 : decode cX7_demandNought 74 = .ok (.getfield 18, 3) := by decide +kernel
theorem dX7_demandNought_77 : decode cX7_demandNought 77 = .ok (.iload_n 2, 1) := by decide +kernel
theorem dX7_demandNought_78 : decode cX7_demandNought 78 = .ok (.iload_n 3, 1) := by decide +kernel
theorem dX7_demandNought_79 : decode cX7_demandNought 79 = .ok (.iload 8, 2) := by decide +kernel
theorem dX7_demandNought_81 : decode cX7_demandNought 81 = .ok (.imul, 1) := by decide +kernel
theorem dX7_demandNought_82 : decode cX7_demandNought 82 = .ok (.iadd, 1) := by decide +kernel
theorem dX7_demandNought_83 : decode cX7_demandNought 83 = .ok (.iaload, 1) := by decide +kernel
theorem dX7_demandNought_84 : decode cX7_demandNought 84 = .ok (.iload 7, 2) := by decide +kernel
theorem dX7_demandNought_86 : decode cX7_demandNought 86 = .ok (.idiv, 1) := by decide +kernel
theorem dX7_demandNought_87 : decode cX7_demandNought 87 = .ok (.iload 5, 2) := by decide +kernel
theorem dX7_demandNought_89 : decode cX7_demandNought 89 = .ok (.irem, 1) := by decide +kernel
theorem dX7_demandNought_90 : decode cX7_demandNought 90 = .ok (.invokevirtual 136, 3) := by decide +kernel
theorem dX7_demandNought_93 : decode cX7_demandNought 93 = .ok (.iinc 8 1, 3) := by decide +kernel
theorem dX7_demandNought_96 : decode cX7_demandNought 96 = .ok (.goto (-41), 3) := by decide +kernel
theorem dX7_demandNought_99 : decode cX7_demandNought 99 = .ok (.aload_n 0, 1) := by decide +kernel
theorem dX7_demandNought_100 : decode cX7_demandNought 100 = .ok (.getfield 28, 3) := by decide +kernel
theorem dX7_demandNought_103 : decode cX7_demandNought 103 = .ok (.invokevirtual 139, 3) := by decide +kernel
theorem dX7_demandNought_106 : decode cX7_demandNought 106 = .ok (.pop, 1) := by decide +kernel
theorem dX7_demandNought_107 : decode cX7_demandNought 107 = .ok (.iinc 6 1, 3) := by decide +kernel
theorem dX7_demandNought_110 : decode cX7_demandNought 110 = .ok (.goto (-73), 3) := by decide +kernel
theorem dX7_demandNought_113 : decode cX7_demandNought 113 = .ok (.return_, 1) := by decide +kernel
theorem dX7_demandCommuting_0 : decode cX7_demandCommuting 0 = .ok (.aload_n 1, 1) := by decide +kernel
theorem dX7_demandCommuting_1 : decode cX7_demandCommuting 1 = .ok (.invokevirtual 70, 3) := by decide +kernel
theorem dX7_demandCommuting_4 : decode cX7_demandCommuting 4 = .ok (.istore_n 2, 1) := by decide +kernel
theorem dX7_demandCommuting_5 : decode cX7_demandCommuting 5 = .ok (.iconst 0, 1) := by decide +kernel
theorem dX7_demandCommuting_6 : decode cX7_demandCommuting 6 = .ok (.istore_n 3, 1) := by decide +kernel
theorem dX7_demandCommuting_7 : decode cX7_demandCommuting 7 = .ok (.iload_n 3, 1) := by decide +kernel
theorem dX7_demandCommuting_8 : decode cX7_demandCommuting 8 = .ok (.iload_n 2, 1) := by decide +kernel
theorem dX7_demandCommuting_9 : decode cX7_demandCommuting 9 = .ok (.if_icmp .ge 80, 3) := by decide +kernel
theorem dX7_demandCommuting_12 : decode cX7_demandCommuting 12 = .ok (.iconst 0, 1) := by decide +kernel
theorem dX7_demandCommuting_13 : decode cX7_demandCommuting 13 = .ok (.istore 4, 2) := by decide +kernel
theorem dX7_demandCommuting_15 : decode cX7_demandCommuting 15 = .ok (.iload 4, 2) := by decide +kernel
theorem dX7_demandCommuting_17 : decode cX7_demandCommuting 17 = .ok (.iload_n 2, 1) := by decide +kernel
theorem dX7_demandCommuting_18 : decode cX7_demandCommuting 18 = .ok (.if_icmp .ge 65, 3) := by decide +kernel
theorem dX7_demandCommuting_21 : decode cX7_demandCommuting 21 = .ok (.iconst 0, 1) := by decide +kernel
theorem dX7_demandCommuting_22 : decode cX7_demandCommuting 22 = .ok (.istore 5, 2) := by decide +kernel
theorem dX7_demandCommuting_24 : decode cX7_demandCommuting 24 = .ok (.iload 5, 2) := by decide +kernel
theorem dX7_demandCommuting_26 : decode cX7_demandCommuting 26 = .ok (.iload_n 2, 1) := by decide +kernel
theorem dX7_demandCommuting_27 : decode cX7_demandCommuting 27 = .ok (.if_icmp .ge 42, 3) := by decide +kernel
theorem dX7_demandCommuting_30 : decode cX7_demandCommuting 30 = .ok (.aload_n 0, 1) := by decide +kernel
theorem dX7_demandCommuting_31 : decode cX7_demandCommuting 31 = .ok (.getfield 28, 3) := by decide +kernel
theorem dX7_demandCommuting_34 : decode cX7_demandCommuting 34 = .ok (.iload 5, 2) := by decide +kernel
theorem dX7_demandCommuting_36 : decode cX7_demandCommuting 36 = .ok (.aload_n 1, 1) := by decide +kernel
theorem dX7_demandCommuting_37 : decode cX7_demandCommuting 37 = .ok (.invokevirtual 81, 3) := by decide +kernel
theorem dX7_demandCommuting_40 : decode cX7_demandCommuting 40 = .ok (.aload_n 1, 1) := by decide +kernel
theorem dX7_demandCommuting_41 : decode cX7_demandCommuting 41 = .ok (.iload 5, 2) := by decide +kernel
theorem dX7_demandCommuting_43 : decode cX7_demandCommuting 43 = .ok (.iload_n 3, 1) := by decide +kernel
theorem dX7_demandCommuting_44 : decode cX7_demandCommuting 44 = .ok (.iload 4, 2) := by decide +kernel
theorem dX7_demandCommuting_46 : decode cX7_demandCommuting 46 = .ok (.invokevirtual 143, 3) := by decide +kernel
theorem dX7_demandCommuting_49 : decode cX7_demandCommuting 49 = .ok (.iadd, 1) := by decide +kernel
theorem dX7_demandCommuting_50 : decode cX7_demandCommuting 50 = .ok (.aload_n 1, 1) := by decide +kernel
theorem dX7_demandCommuting_51 : decode cX7_demandCommuting 51 = .ok (.iload_n 3, 1) := by decide +kernel
theorem dX7_demandCommuting_52 : decode cX7_demandCommuting 52 = .ok (.iload 5, 2) := by decide +kernel
theorem dX7_demandCommuting_54 : decode cX7_demandCommuting 54 = .ok (.iload 4, 2) := by decide +kernel
theorem dX7_demandCommuting_56 : decode cX7_demandCommuting 56 = .ok (.invokevirtual 143, 3) := by decide +kernel
theorem dX7_demandCommuting_59 : decode cX7_demandCommuting 59 = .ok (.isub, 1) := by decide +kernel
theorem dX7_demandCommuting_60 : decode cX7_demandCommuting 60 = .ok (.invokevirtual 136, 3) := by decide +kernel
theorem dX7_demandCommuting_63 : decode cX7_demandCommuting 63 = .ok (.iinc 5 1, 3) := by decide +kernel
theorem dX7_demandCommuting_66 : decode cX7_demandCommuting 66 = .ok (.goto (-42), 3) := by decide +kernel
theorem dX7_demandCommuting_69 : decode cX7_demandCommuting 69 = .ok (.aload_n 0, 1) := by decide +kernel
theorem dX7_demandCommuting_70 : decode cX7_demandCommuting 70 = .ok (.getfield 28, 3) := by decide +kernel
theorem dX7_demandCommuting_73 : decode cX7_demandCommuting 73 = .ok (.invokevirtual 139, 3) := by decide +kernel
theorem dX7_demandCommuting_76 : decode cX7_demandCommuting 76 = .ok (.pop, 1) := by decide +kernel
theorem dX7_demandCommuting_77 : decode cX7_demandCommuting 77 = .ok (.iinc 4 1, 3) := by decide +kernel
theorem dX7_demandCommuting_80 : decode cX7_demandCommuting 80 = .ok (.goto (-65), 3) := by decide +kernel
theorem dX7_demandCommuting_83 : decode cX7_demandCommuting 83 = .ok (.iinc 3 1, 3) := by decide +kernel
theorem dX7_demandCommuting_86 : decode cX7_demandCommuting 86 = .ok (.goto (-79), 3) := by decide +kernel
theorem dX7_demandCommuting_89 : decode cX7_demandCommuting 89 = .ok (.return_, 1) := by decide +kernel
theorem dX7_idempotents_0 : decode cX7_idempotents 0 = .ok (.iconst 0, 1) := by decide +kernel
theorem dX7_idempotents_1 : decode cX7_idempotents 1 = .ok (.istore_n 2, 1) := by decide +kernel
theorem dX7_idempotents_2 : decode cX7_idempotents 2 = .ok (.iconst 0, 1) := by decide +kernel
theorem dX7_idempotents_3 : decode cX7_idempotents 3 = .ok (.istore_n 3, 1) := by decide +kernel
theorem dX7_idempotents_4 : decode cX7_idempotents 4 = .ok (.iload_n 3, 1) := by decide +kernel
theorem dX7_idempotents_5 : decode cX7_idempotents 5 = .ok (.aload_n 1, 1) := by decide +kernel
theorem dX7_idempotents_6 : decode cX7_idempotents 6 = .ok (.invokevirtual 52, 3) := by decide +kernel
theorem dX7_idempotents_9 : decode cX7_idempotents 9 = .ok (.if_icmp .ge 22, 3) := by decide +kernel
theorem dX7_idempotents_12 : decode cX7_idempotents 12 = .ok (.aload_n 1, 1) := by decide +kernel
theorem dX7_idempotents_13 : decode cX7_idempotents 13 = .ok (.iload_n 3, 1) := by decide +kernel
theorem dX7_idempotents_14 : decode cX7_idempotents 14 = .ok (.iload_n 3, 1) := by decide +kernel
theorem dX7_idempotents_15 : decode cX7_idempotents 15 = .ok (.invokevirtual 62, 3) := by decide +kernel
theorem dX7_idempotents_18 : decode cX7_idempotents 18 = .ok (.iload_n 3, 1) := by decide +kernel
theorem dX7_idempotents_19 : decode cX7_idempotents 19 = .ok (.if_icmp .ne 6, 3) := by decide +kernel
theorem dX7_idempotents_22 : decode cX7_idempotents 22 = .ok (.iinc 2 1, 3) := by decide +kernel
theorem dX7_idempotents_25 : decode cX7_idempotents 25 = .ok (.iinc 3 1, 3) := by decide +kernel
theorem dX7_idempotents_28 : decode cX7_idempotents 28 = .ok (.goto (-24), 3) := by decide +kernel
theorem dX7_idempotents_31 : decode cX7_idempotents 31 = .ok (.iload_n 2, 1) := by decide +kernel
theorem dX7_idempotents_32 : decode cX7_idempotents 32 = .ok (.ireturn, 1) := by decide +kernel
theorem dX7_squares_0 : decode cX7_squares 0 = .ok (.aload_n 0, 1) := by decide +kernel
theorem dX7_squares_1 : decode cX7_squares 1 = .ok (.invokevirtual 146, 3) := by decide +kernel
theorem dX7_squares_4 : decode cX7_squares 4 = .ok (.iconst 0, 1) := by decide +kernel
theorem dX7_squares_5 : decode cX7_squares 5 = .ok (.istore_n 2, 1) := by decide +kernel
theorem dX7_squares_6 : decode cX7_squares 6 = .ok (.iconst 0, 1) := by decide +kernel
theorem dX7_squares_7 : decode cX7_squares 7 = .ok (.istore_n 3, 1) := by decide +kernel
theorem dX7_squares_8 : decode cX7_squares 8 = .ok (.iload_n 3, 1) := by decide +kernel
theorem dX7_squares_9 : decode cX7_squares 9 = .ok (.aload_n 1, 1) := by decide +kernel
theorem dX7_squares_10 : decode cX7_squares 10 = .ok (.invokevirtual 52, 3) := by decide +kernel
theorem dX7_squares_13 : decode cX7_squares 13 = .ok (.if_icmp .ge 25, 3) := by decide +kernel
theorem dX7_squares_16 : decode cX7_squares 16 = .ok (.aload_n 0, 1) := by decide +kernel
theorem dX7_squares_17 : decode cX7_squares 17 = .ok (.aload_n 1, 1) := by decide +kernel
theorem dX7_squares_18 : decode cX7_squares 18 = .ok (.iload_n 3, 1) := by decide +kernel
theorem dX7_squares_19 : decode cX7_squares 19 = .ok (.iload_n 3, 1) := by decide +kernel
theorem dX7_squares_20 : decode cX7_squares 20 = .ok (.invokevirtual 62, 3) := by decide +kernel
theorem dX7_squares_23 : decode cX7_squares 23 = .ok (.invokevirtual 149, 3) := by decide +kernel
theorem dX7_squares_26 : decode cX7_squares 26 = .ok (.ifCond .eq 6, 3) := by decide +kernel
theorem dX7_squares_29 : decode cX7_squares 29 = .ok (.iinc 2 1, 3) := by decide +kernel
theorem dX7_squares_32 : decode cX7_squares 32 = .ok (.iinc 3 1, 3) := by decide +kernel
theorem dX7_squares_35 : decode cX7_squares 35 = .ok (.goto (-27), 3) := by decide +kernel
theorem dX7_squares_38 : decode cX7_squares 38 = .ok (.iload_n 2, 1) := by decide +kernel
theorem dX7_squares_39 : decode cX7_squares 39 = .ok (.ireturn, 1) := by decide +kernel
theorem dX7_forgetSeen_0 : decode cX7_forgetSeen 0 = .ok (.iconst 0, 1) := by decide +kernel
theorem dX7_forgetSeen_1 : decode cX7_forgetSeen 1 = .ok (.istore_n 1, 1) := by decide +kernel
theorem dX7_forgetSeen_2 : decode cX7_forgetSeen 2 = .ok (.iload_n 1, 1) := by decide +kernel
theorem dX7_forgetSeen_3 : decode cX7_forgetSeen 3 = .ok (.sipush 243, 3) := by decide +kernel
theorem dX7_forgetSeen_6 : decode cX7_forgetSeen 6 = .ok (.if_icmp .ge 16, 3) := by decide +kernel
theorem dX7_forgetSeen_9 : decode cX7_forgetSeen 9 = .ok (.aload_n 0, 1) := by decide +kernel
theorem dX7_forgetSeen_10 : decode cX7_forgetSeen 10 = .ok (.getfield 24, 3) := by decide +kernel
theorem dX7_forgetSeen_13 : decode cX7_forgetSeen 13 = .ok (.iload_n 1, 1) := by decide +kernel
theorem dX7_forgetSeen_14 : decode cX7_forgetSeen 14 = .ok (.iconst 0, 1) := by decide +kernel
theorem dX7_forgetSeen_15 : decode cX7_forgetSeen 15 = .ok (.bastore, 1) := by decide +kernel
theorem dX7_forgetSeen_16 : decode cX7_forgetSeen 16 = .ok (.iinc 1 1, 3) := by decide +kernel
theorem dX7_forgetSeen_19 : decode cX7_forgetSeen 19 = .ok (.goto (-17), 3) := by decide +kernel
theorem dX7_forgetSeen_22 : decode cX7_forgetSeen 22 = .ok (.return_, 1) := by decide +kernel
theorem dX7_isFirstSeen_0 : decode cX7_isFirstSeen 0 = .ok (.iload_n 1, 1) := by decide +kernel
theorem dX7_isFirstSeen_1 : decode cX7_isFirstSeen 1 = .ok (.ifCond .lt 19, 3) := by decide +kernel
theorem dX7_isFirstSeen_4 : decode cX7_isFirstSeen 4 = .ok (.iload_n 1, 1) := by decide +kernel
theorem dX7_isFirstSeen_5 : decode cX7_isFirstSeen 5 = .ok (.sipush 243, 3) := by decide +kernel
theorem dX7_isFirstSeen_8 : decode cX7_isFirstSeen 8 = .ok (.if_icmp .ge 12, 3) := by decide +kernel
theorem dX7_isFirstSeen_11 : decode cX7_isFirstSeen 11 = .ok (.aload_n 0, 1) := by decide +kernel
theorem dX7_isFirstSeen_12 : decode cX7_isFirstSeen 12 = .ok (.getfield 24, 3) := by decide +kernel
theorem dX7_isFirstSeen_15 : decode cX7_isFirstSeen 15 = .ok (.iload_n 1, 1) := by decide +kernel
theorem dX7_isFirstSeen_16 : decode cX7_isFirstSeen 16 = .ok (.baload, 1) := by decide +kernel
theorem dX7_isFirstSeen_17 : decode cX7_isFirstSeen 17 = .ok (.ifCond .eq 5, 3) := by decide +kernel
theorem dX7_isFirstSeen_20 : decode cX7_isFirstSeen 20 = .ok (.iconst 0, 1) := by decide +kernel
theorem dX7_isFirstSeen_21 : decode cX7_isFirstSeen 21 = .ok (.ireturn, 1) := by decide +kernel
theorem dX7_isFirstSeen_22 : decode cX7_isFirstSeen 22 = .ok (.aload_n 0, 1) := by decide +kernel
theorem dX7_isFirstSeen_23 : decode cX7_isFirstSeen 23 = .ok (.getfield 24, 3) := by decide +kernel
theorem dX7_isFirstSeen_26 : decode cX7_isFirstSeen 26 = .ok (.iload_n 1, 1) := by decide +kernel
theorem dX7_isFirstSeen_27 : decode cX7_isFirstSeen 27 = .ok (.iconst 1, 1) := by decide +kernel
theorem dX7_isFirstSeen_28 : decode cX7_isFirstSeen 28 = .ok (.bastore, 1) := by decide +kernel
theorem dX7_isFirstSeen_29 : decode cX7_isFirstSeen 29 = .ok (.iconst 1, 1) := by decide +kernel
theorem dX7_isFirstSeen_30 : decode cX7_isFirstSeen 30 = .ok (.ireturn, 1) := by decide +kernel
theorem dX8_isPrime_0 : decode cX8_isPrime 0 = .ok (.iload_n 0, 1) := by decide +kernel
theorem dX8_isPrime_1 : decode cX8_isPrime 1 = .ok (.iconst 2, 1) := by decide +kernel
theorem dX8_isPrime_2 : decode cX8_isPrime 2 = .ok (.if_icmp .eq 13, 3) := by decide +kernel
theorem dX8_isPrime_5 : decode cX8_isPrime 5 = .ok (.iload_n 0, 1) := by decide +kernel
theorem dX8_isPrime_6 : decode cX8_isPrime 6 = .ok (.iconst 3, 1) := by decide +kernel
theorem dX8_isPrime_7 : decode cX8_isPrime 7 = .ok (.if_icmp .eq 8, 3) := by decide +kernel
theorem dX8_isPrime_10 : decode cX8_isPrime 10 = .ok (.iload_n 0, 1) := by decide +kernel
theorem dX8_isPrime_11 : decode cX8_isPrime 11 = .ok (.iconst 5, 1) := by decide +kernel
theorem dX8_isPrime_12 : decode cX8_isPrime 12 = .ok (.if_icmp .ne 7, 3) := by decide +kernel
theorem dX8_isPrime_15 : decode cX8_isPrime 15 = .ok (.iconst 1, 1) := by decide +kernel
theorem dX8_isPrime_16 : decode cX8_isPrime 16 = .ok (.goto 4, 3) := by decide +kernel
theorem dX8_isPrime_19 : decode cX8_isPrime 19 = .ok (.iconst 0, 1) := by decide +kernel
theorem dX8_isPrime_20 : decode cX8_isPrime 20 = .ok (.ireturn, 1) := by decide +kernel
theorem dX8_power_0 : decode cX8_power 0 = .ok (.iconst 1, 1) := by decide +kernel
theorem dX8_power_1 : decode cX8_power 1 = .ok (.istore_n 2, 1) := by decide +kernel
theorem dX8_power_2 : decode cX8_power 2 = .ok (.iconst 0, 1) := by decide +kernel
theorem dX8_power_3 : decode cX8_power 3 = .ok (.istore_n 3, 1) := by decide +kernel
theorem dX8_power_4 : decode cX8_power 4 = .ok (.iload_n 3, 1) := by decide +kernel
theorem dX8_power_5 : decode cX8_power 5 = .ok (.iload_n 1, 1) := by decide +kernel
theorem dX8_power_6 : decode cX8_power 6 = .ok (.if_icmp .ge 18, 3) := by decide +kernel
theorem dX8_power_9 : decode cX8_power 9 = .ok (.iload_n 3, 1) := by decide +kernel
theorem dX8_power_10 : decode cX8_power 10 = .ok (.iconst 5, 1) := by decide +kernel
theorem dX8_power_11 : decode cX8_power 11 = .ok (.if_icmp .ge 13, 3) := by decide +kernel
theorem dX8_power_14 : decode cX8_power 14 = .ok (.iload_n 2, 1) := by decide +kernel
theorem dX8_power_15 : decode cX8_power 15 = .ok (.iload_n 0, 1) := by decide +kernel
theorem dX8_power_16 : decode cX8_power 16 = .ok (.imul, 1) := by decide +kernel
theorem dX8_power_17 : decode cX8_power 17 = .ok (.istore_n 2, 1) := by decide +kernel
theorem dX8_power_18 : decode cX8_power 18 = .ok (.iinc 3 1, 3) := by decide +kernel
theorem dX8_power_21 : decode cX8_power 21 = .ok (.goto (-17), 3) := by decide +kernel
theorem dX8_power_24 : decode cX8_power 24 = .ok (.iload_n 2, 1) := by decide +kernel
theorem dX8_power_25 : decode cX8_power 25 = .ok (.ireturn, 1) := by decide +kernel
theorem dX8_plus_0 : decode cX8_plus 0 = .ok (.iload_n 0, 1) := by decide +kernel
theorem dX8_plus_1 : decode cX8_plus 1 = .ok (.iconst 2, 1) := by decide +kernel
theorem dX8_plus_2 : decode cX8_plus 2 = .ok (.if_icmp .ne 7, 3) := by decide +kernel
theorem dX8_plus_5 : decode cX8_plus 5 = .ok (.iload_n 1, 1) := by decide +kernel
theorem dX8_plus_6 : decode cX8_plus 6 = .ok (.iload_n 2, 1) := by decide +kernel
theorem dX8_plus_7 : decode cX8_plus 7 = .ok (.ixor, 1) := by decide +kernel
theorem dX8_plus_8 : decode cX8_plus 8 = .ok (.ireturn, 1) := by decide +kernel
theorem dX8_plus_9 : decode cX8_plus 9 = .ok (.iload_n 0, 1) := by decide +kernel
theorem dX8_plus_10 : decode cX8_plus 10 = .ok (.iconst 2, 1) := by decide +kernel
theorem dX8_plus_11 : decode cX8_plus 11 = .ok (.if_icmp .ge 5, 3) := by decide +kernel
theorem dX8_plus_14 : decode cX8_plus 14 = .ok (.iconst 0, 1) := by decide +kernel
theorem dX8_plus_15 : decode cX8_plus 15 = .ok (.ireturn, 1) := by decide +kernel
theorem dX8_plus_16 : decode cX8_plus 16 = .ok (.iconst 0, 1) := by decide +kernel
theorem dX8_plus_17 : decode cX8_plus 17 = .ok (.istore_n 3, 1) := by decide +kernel
theorem dX8_plus_18 : decode cX8_plus 18 = .ok (.iconst 1, 1) := by decide +kernel
theorem dX8_plus_19 : decode cX8_plus 19 = .ok (.istore 4, 2) := by decide +kernel
theorem dX8_plus_21 : decode cX8_plus 21 = .ok (.iload_n 1, 1) := by decide +kernel
theorem dX8_plus_22 : decode cX8_plus 22 = .ok (.istore 5, 2) := by decide +kernel
theorem dX8_plus_24 : decode cX8_plus 24 = .ok (.iload_n 2, 1) := by decide +kernel
theorem dX8_plus_25 : decode cX8_plus 25 = .ok (.istore 6, 2) := by decide +kernel
theorem dX8_plus_27 : decode cX8_plus 27 = .ok (.iconst 0, 1) := by decide +kernel
theorem dX8_plus_28 : decode cX8_plus 28 = .ok (.istore 7, 2) := by decide +kernel
theorem dX8_plus_30 : decode cX8_plus 30 = .ok (.iload 7, 2) := by decide +kernel
theorem dX8_plus_32 : decode cX8_plus 32 = .ok (.iconst 5, 1) := by decide +kernel
theorem dX8_plus_33 : decode cX8_plus 33 = .ok (.if_icmp .ge 44, 3) := by decide +kernel
theorem dX8_plus_36 : decode cX8_plus 36 = .ok (.iload_n 3, 1) := by decide +kernel
theorem dX8_plus_37 : decode cX8_plus 37 = .ok (.iload 5, 2) := by decide +kernel
theorem dX8_plus_39 : decode cX8_plus 39 = .ok (.iload_n 0, 1) := by decide +kernel
theorem dX8_plus_40 : decode cX8_plus 40 = .ok (.irem, 1) := by decide +kernel
theorem dX8_plus_41 : decode cX8_plus 41 = .ok (.iload 6, 2) := by decide +kernel
theorem dX8_plus_43 : decode cX8_plus 43 = .ok (.iload_n 0, 1) := by decide +kernel
theorem dX8_plus_44 : decode cX8_plus 44 = .ok (.irem, 1) := by decide +kernel
theorem dX8_plus_45 : decode cX8_plus 45 = .ok (.iadd, 1) := by decide +kernel
theorem dX8_plus_46 : decode cX8_plus 46 = .ok (.iload_n 0, 1) := by decide +kernel
theorem dX8_plus_47 : decode cX8_plus 47 = .ok (.irem, 1) := by decide +kernel
theorem dX8_plus_48 : decode cX8_plus 48 = .ok (.iload 4, 2) := by decide +kernel
theorem dX8_plus_50 : decode cX8_plus 50 = .ok (.imul, 1) := by decide +kernel
theorem dX8_plus_51 : decode cX8_plus 51 = .ok (.iadd, 1) := by decide +kernel
theorem dX8_plus_52 : decode cX8_plus 52 = .ok (.istore_n 3, 1) := by decide +kernel
theorem dX8_plus_53 : decode cX8_plus 53 = .ok (.iload 5, 2) := by decide +kernel
theorem dX8_plus_55 : decode cX8_plus 55 = .ok (.iload_n 0, 1) := by decide +kernel
theorem dX8_plus_56 : decode cX8_plus 56 = .ok (.idiv, 1) := by decide +kernel
theorem dX8_plus_57 : decode cX8_plus 57 = .ok (.istore 5, 2) := by decide +kernel
theorem dX8_plus_59 : decode cX8_plus 59 = .ok (.iload 6, 2) := by decide +kernel
theorem dX8_plus_61 : decode cX8_plus 61 = .ok (.iload_n 0, 1) := by decide +kernel
theorem dX8_plus_62 : decode cX8_plus 62 = .ok (.idiv, 1) := by decide +kernel
theorem dX8_plus_63 : decode cX8_plus 63 = .ok (.istore 6, 2) := by decide +kernel
theorem dX8_plus_65 : decode cX8_plus 65 = .ok (.iload 4, 2) := by decide +kernel
theorem dX8_plus_67 : decode cX8_plus 67 = .ok (.iload_n 0, 1) := by decide +kernel
theorem dX8_plus_68 : decode cX8_plus 68 = .ok (.imul, 1) := by decide +kernel
theorem dX8_plus_69 : decode cX8_plus 69 = .ok (.istore 4, 2) := by decide +kernel
theorem dX8_plus_71 : decode cX8_plus 71 = .ok (.iinc 7 1, 3) := by decide +kernel
theorem dX8_plus_74 : decode cX8_plus 74 = .ok (.goto (-44), 3) := by decide +kernel
theorem dX8_plus_77 : decode cX8_plus 77 = .ok (.iload_n 3, 1) := by decide +kernel
theorem dX8_plus_78 : decode cX8_plus 78 = .ok (.ireturn, 1) := by decide +kernel
theorem dX8_manifold_0 : decode cX8_manifold 0 = .ok (.iload_n 0, 1) := by decide +kernel
theorem dX8_manifold_1 : decode cX8_manifold 1 = .ok (.iconst 2, 1) := by decide +kernel
theorem dX8_manifold_2 : decode cX8_manifold 2 = .ok (.if_icmp .ge 5, 3) := by decide +kernel
theorem dX8_manifold_5 : decode cX8_manifold 5 = .ok (.iconst 0, 1) := by decide +kernel
theorem dX8_manifold_6 : decode cX8_manifold 6 = .ok (.ireturn, 1) := by decide +kernel
theorem dX8_manifold_7 : decode cX8_manifold 7 = .ok (.iconst 0, 1) := by decide +kernel
theorem dX8_manifold_8 : decode cX8_manifold 8 = .ok (.istore_n 3, 1) := by decide +kernel
theorem dX8_manifold_9 : decode cX8_manifold 9 = .ok (.iconst 1, 1) := by decide +kernel
theorem dX8_manifold_10 : decode cX8_manifold 10 = .ok (.istore 4, 2) := by decide +kernel
theorem dX8_manifold_12 : decode cX8_manifold 12 = .ok (.iload_n 2, 1) := by decide +kernel
theorem dX8_manifold_13 : decode cX8_manifold 13 = .ok (.istore 5, 2) := by decide +kernel
theorem dX8_manifold_15 : decode cX8_manifold 15 = .ok (.iconst 0, 1) := by decide +kernel
theorem dX8_manifold_16 : decode cX8_manifold 16 = .ok (.istore 6, 2) := by decide +kernel
theorem dX8_manifold_18 : decode cX8_manifold 18 = .ok (.iload 6, 2) := by decide +kernel
theorem dX8_manifold_20 : decode cX8_manifold 20 = .ok (.iconst 5, 1) := by decide +kernel
theorem dX8_manifold_21 : decode cX8_manifold 21 = .ok (.if_icmp .ge 35, 3) := by decide +kernel
theorem dX8_manifold_24 : decode cX8_manifold 24 = .ok (.iload_n 3, 1) := by decide +kernel
theorem dX8_manifold_25 : decode cX8_manifold 25 = .ok (.iload_n 1, 1) := by decide +kernel
theorem dX8_manifold_26 : decode cX8_manifold 26 = .ok (.iload 5, 2) := by decide +kernel
theorem dX8_manifold_28 : decode cX8_manifold 28 = .ok (.iload_n 0, 1) := by decide +kernel
theorem dX8_manifold_29 : decode cX8_manifold 29 = .ok (.irem, 1) := by decide +kernel
theorem dX8_manifold_30 : decode cX8_manifold 30 = .ok (.imul, 1) := by decide +kernel
theorem dX8_manifold_31 : decode cX8_manifold 31 = .ok (.iload_n 0, 1) := by decide +kernel
theorem dX8_manifold_32 : decode cX8_manifold 32 = .ok (.irem, 1) := by decide +kernel
theorem dX8_manifold_33 : decode cX8_manifold 33 = .ok (.iload 4, 2) := by decide +kernel
theorem dX8_manifold_35 : decode cX8_manifold 35 = .ok (.imul, 1) := by decide +kernel
theorem dX8_manifold_36 : decode cX8_manifold 36 = .ok (.iadd, 1) := by decide +kernel
theorem dX8_manifold_37 : decode cX8_manifold 37 = .ok (.istore_n 3, 1) := by decide +kernel
theorem dX8_manifold_38 : decode cX8_manifold 38 = .ok (.iload 5, 2) := by decide +kernel
theorem dX8_manifold_40 : decode cX8_manifold 40 = .ok (.iload_n 0, 1) := by decide +kernel
theorem dX8_manifold_41 : decode cX8_manifold 41 = .ok (.idiv, 1) := by decide +kernel
theorem dX8_manifold_42 : decode cX8_manifold 42 = .ok (.istore 5, 2) := by decide +kernel
theorem dX8_manifold_44 : decode cX8_manifold 44 = .ok (.iload 4, 2) := by decide +kernel
theorem dX8_manifold_46 : decode cX8_manifold 46 = .ok (.iload_n 0, 1) := by decide +kernel
theorem dX8_manifold_47 : decode cX8_manifold 47 = .ok (.imul, 1) := by decide +kernel
theorem dX8_manifold_48 : decode cX8_manifold 48 = .ok (.istore 4, 2) := by decide +kernel
theorem dX8_manifold_50 : decode cX8_manifold 50 = .ok (.iinc 6 1, 3) := by decide +kernel
theorem dX8_manifold_53 : decode cX8_manifold 53 = .ok (.goto (-35), 3) := by decide +kernel
theorem dX8_manifold_56 : decode cX8_manifold 56 = .ok (.iload_n 3, 1) := by decide +kernel
theorem dX8_manifold_57 : decode cX8_manifold 57 = .ok (.ireturn, 1) := by decide +kernel
theorem dX8_less_0 : decode cX8_less 0 = .ok (.iload_n 0, 1) := by decide +kernel
theorem dX8_less_1 : decode cX8_less 1 = .ok (.iload_n 1, 1) := by decide +kernel
theorem dX8_less_2 : decode cX8_less 2 = .ok (.iload_n 0, 1) := by decide +kernel
theorem dX8_less_3 : decode cX8_less 3 = .ok (.iload_n 0, 1) := by decide +kernel
theorem dX8_less_4 : decode cX8_less 4 = .ok (.iconst 1, 1) := by decide +kernel
theorem dX8_less_5 : decode cX8_less 5 = .ok (.isub, 1) := by decide +kernel
theorem dX8_less_6 : decode cX8_less 6 = .ok (.iload_n 2, 1) := by decide +kernel
theorem dX8_less_7 : decode cX8_less 7 = .ok (.invokestatic 9, 3) := by decide +kernel
theorem dX8_less_10 : decode cX8_less 10 = .ok (.invokestatic 15, 3) := by decide +kernel
theorem dX8_less_13 : decode cX8_less 13 = .ok (.ireturn, 1) := by decide +kernel
theorem dX8_unpack_0 : decode cX8_unpack 0 = .ok (.iload_n 0, 1) := by decide +kernel
theorem dX8_unpack_1 : decode cX8_unpack 1 = .ok (.iconst 2, 1) := by decide +kernel
theorem dX8_unpack_2 : decode cX8_unpack 2 = .ok (.if_icmp .ge 4, 3) := by decide +kernel
theorem dX8_unpack_5 : decode cX8_unpack 5 = .ok (.return_, 1) := by decide +kernel
theorem dX8_unpack_6 : decode cX8_unpack 6 = .ok (.iload_n 1, 1) := by decide +kernel
theorem dX8_unpack_7 : decode cX8_unpack 7 = .ok (.istore_n 3, 1) := by decide +kernel
theorem dX8_unpack_8 : decode cX8_unpack 8 = .ok (.iconst 0, 1) := by decide +kernel
theorem dX8_unpack_9 : decode cX8_unpack 9 = .ok (.istore 4, 2) := by decide +kernel
theorem dX8_unpack_11 : decode cX8_unpack 11 = .ok (.iload 4, 2) := by decide +kernel
theorem dX8_unpack_13 : decode cX8_unpack 13 = .ok (.aload_n 2, 1) := by decide +kernel
theorem dX8_unpack_14 : decode cX8_unpack 14 = .ok (.arraylength, 1) := by decide +kernel
theorem dX8_unpack_15 : decode cX8_unpack 15 = .ok (.if_icmp .ge 20, 3) := by decide +kernel
theorem dX8_unpack_18 : decode cX8_unpack 18 = .ok (.aload_n 2, 1) := by decide +kernel
theorem dX8_unpack_19 : decode cX8_unpack 19 = .ok (.iload 4, 2) := by decide +kernel
theorem dX8_unpack_21 : decode cX8_unpack 21 = .ok (.iload_n 3, 1) := by decide +kernel
theorem dX8_unpack_22 : decode cX8_unpack 22 = .ok (.iload_n 0, 1) := by decide +kernel
theorem dX8_unpack_23 : decode cX8_unpack 23 = .ok (.irem, 1) := by decide +kernel
theorem dX8_unpack_24 : decode cX8_unpack 24 = .ok (.iastore, 1) := by decide +kernel
theorem dX8_unpack_25 : decode cX8_unpack 25 = .ok (.iload_n 3, 1) := by decide +kernel
theorem dX8_unpack_26 : decode cX8_unpack 26 = .ok (.iload_n 0, 1) := by decide +kernel
theorem dX8_unpack_27 : decode cX8_unpack 27 = .ok (.idiv, 1) := by decide +kernel
theorem dX8_unpack_28 : decode cX8_unpack 28 = .ok (.istore_n 3, 1) := by decide +kernel
theorem dX8_unpack_29 : decode cX8_unpack 29 = .ok (.iinc 4 1, 3) := by decide +kernel
theorem dX8_unpack_32 : decode cX8_unpack 32 = .ok (.goto (-21), 3) := by decide +kernel
theorem dX8_unpack_35 : decode cX8_unpack 35 = .ok (.return_, 1) := by decide +kernel
theorem dX9_init_0 : decode cX9_init 0 = .ok (.aload_n 0, 1) := by decide +kernel
theorem dX9_init_1 : decode cX9_init 1 = .ok (.invokespecial 3, 3) := by decide +kernel
theorem dX9_init_4 : decode cX9_init 4 = .ok (.aload_n 0, 1) := by decide +kernel
theorem dX9_init_5 : decode cX9_init 5 = .ok (.iconst 2, 1) := by decide +kernel
theorem dX9_init_6 : decode cX9_init 6 = .ok (.putfield 9, 3) := by decide +kernel
theorem dX9_init_9 : decode cX9_init 9 = .ok (.aload_n 0, 1) := by decide +kernel
theorem dX9_init_10 : decode cX9_init 10 = .ok (.iconst 1, 1) := by decide +kernel
theorem dX9_init_11 : decode cX9_init 11 = .ok (.putfield 15, 3) := by decide +kernel
theorem dX9_init_14 : decode cX9_init 14 = .ok (.aload_n 0, 1) := by decide +kernel
theorem dX9_init_15 : decode cX9_init 15 = .ok (.iconst 2, 1) := by decide +kernel
theorem dX9_init_16 : decode cX9_init 16 = .ok (.putfield 18, 3) := by decide +kernel
theorem dX9_init_19 : decode cX9_init 19 = .ok (.aload_n 0, 1) := by decide +kernel
theorem dX9_init_20 : decode cX9_init 20 = .ok (.bipush (-2), 2) := by decide +kernel
theorem dX9_init_22 : decode cX9_init 22 = .ok (.putfield 21, 3) := by decide +kernel
theorem dX9_init_25 : decode cX9_init 25 = .ok (.aload_n 0, 1) := by decide +kernel
theorem dX9_init_26 : decode cX9_init 26 = .ok (.bipush 125, 2) := by decide +kernel
theorem dX9_init_28 : decode cX9_init 28 = .ok (.newarray .int, 2) := by decide +kernel
theorem dX9_init_30 : decode cX9_init 30 = .ok (.putfield 24, 3) := by decide +kernel
theorem dX9_init_33 : decode cX9_init 33 = .ok (.aload_n 0, 1) := by decide +kernel
theorem dX9_init_34 : decode cX9_init 34 = .ok (.iconst 5, 1) := by decide +kernel
theorem dX9_init_35 : decode cX9_init 35 = .ok (.newarray .int, 2) := by decide +kernel
theorem dX9_init_37 : decode cX9_init 37 = .ok (.putfield 28, 3) := by decide +kernel
theorem dX9_init_40 : decode cX9_init 40 = .ok (.return_, 1) := by decide +kernel
theorem dX9_canBe_0 : decode cX9_canBe 0 = .ok (.iload_n 0, 1) := by decide +kernel
theorem dX9_canBe_1 : decode cX9_canBe 1 = .ok (.invokestatic 31, 3) := by decide +kernel
theorem dX9_canBe_4 : decode cX9_canBe 4 = .ok (.ifCond .eq 28, 3) := by decide +kernel
theorem dX9_canBe_7 : decode cX9_canBe 7 = .ok (.iload_n 1, 1) := by decide +kernel
theorem dX9_canBe_8 : decode cX9_canBe 8 = .ok (.iconst 1, 1) := by decide +kernel
theorem dX9_canBe_9 : decode cX9_canBe 9 = .ok (.if_icmp .lt 23, 3) := by decide +kernel
theorem dX9_canBe_12 : decode cX9_canBe 12 = .ok (.iload_n 1, 1) := by decide +kernel
theorem dX9_canBe_13 : decode cX9_canBe 13 = .ok (.iconst 5, 1) := by decide +kernel
theorem dX9_canBe_14 : decode cX9_canBe 14 = .ok (.if_icmp .gt 18, 3) := by decide +kernel
theorem dX9_canBe_17 : decode cX9_canBe 17 = .ok (.iload_n 0, 1) := by decide +kernel
theorem dX9_canBe_18 : decode cX9_canBe 18 = .ok (.iload_n 1, 1) := by decide +kernel
theorem dX9_canBe_19 : decode cX9_canBe 19 = .ok (.invokestatic 37, 3) := by decide +kernel
theorem dX9_canBe_22 : decode cX9_canBe 22 = .ok (.sipush 243, 3) := by decide +kernel
theorem dX9_canBe_25 : decode cX9_canBe 25 = .ok (.if_icmp .gt 7, 3) := by decide +kernel
theorem dX9_canBe_28 : decode cX9_canBe 28 = .ok (.iconst 1, 1) := by decide +kernel
theorem dX9_canBe_29 : decode cX9_canBe 29 = .ok (.goto 4, 3) := by decide +kernel
theorem dX9_canBe_32 : decode cX9_canBe 32 = .ok (.iconst 0, 1) := by decide +kernel
theorem dX9_canBe_33 : decode cX9_canBe 33 = .ok (.ireturn, 1) := by decide +kernel
theorem dX9_clear_0 : decode cX9_clear 0 = .ok (.iload_n 1, 1) := by decide +kernel
theorem dX9_clear_1 : decode cX9_clear 1 = .ok (.iload_n 2, 1) := by decide +kernel
theorem dX9_clear_2 : decode cX9_clear 2 = .ok (.invokestatic 41, 3) := by decide +kernel
theorem dX9_clear_5 : decode cX9_clear 5 = .ok (.ifCond .ne 4, 3) := by decide +kernel
theorem dX9_clear_8 : decode cX9_clear 8 = .ok (.return_, 1) := by decide +kernel
theorem dX9_clear_9 : decode cX9_clear 9 = .ok (.aload_n 0, 1) := by decide +kernel
theorem dX9_clear_10 : decode cX9_clear 10 = .ok (.iload_n 1, 1) := by decide +kernel
theorem dX9_clear_11 : decode cX9_clear 11 = .ok (.putfield 9, 3) := by decide +kernel
theorem dX9_clear_14 : decode cX9_clear 14 = .ok (.aload_n 0, 1) := by decide +kernel
theorem dX9_clear_15 : decode cX9_clear 15 = .ok (.iload_n 2, 1) := by decide +kernel
theorem dX9_clear_16 : decode cX9_clear 16 = .ok (.putfield 15, 3) := by decide +kernel
theorem dX9_clear_19 : decode cX9_clear 19 = .ok (.aload_n 0, 1) := by decide +kernel
theorem dX9_clear_20 : decode cX9_clear 20 = .ok (.iload_n 1, 1) := by decide +kernel
theorem dX9_clear_21 : decode cX9_clear 21 = .ok (.iload_n 2, 1) := by decide +kernel
theorem dX9_clear_22 : decode cX9_clear 22 = .ok (.invokestatic 37, 3) := by decide +kernel
theorem dX9_clear_25 : decode cX9_clear 25 = .ok (.putfield 18, 3) := by decide +kernel
theorem dX9_clear_28 : decode cX9_clear 28 = .ok (.aload_n 0, 1) := by decide +kernel
theorem dX9_clear_29 : decode cX9_clear 29 = .ok (.bipush (-2), 2) := by decide +kernel
theorem dX9_clear_31 : decode cX9_clear 31 = .ok (.putfield 21, 3) := by decide +kernel
theorem dX9_clear_34 : decode cX9_clear 34 = .ok (.iconst 0, 1) := by decide +kernel
theorem dX9_clear_35 : decode cX9_clear 35 = .ok (.istore_n 3, 1) := by decide +kernel
theorem dX9_clear_36 : decode cX9_clear 36 = .ok (.iload_n 3, 1) := by decide +kernel
theorem dX9_clear_37 : decode cX9_clear 37 = .ok (.bipush 125, 2) := by decide +kernel
theorem dX9_clear_39 : decode cX9_clear 39 = .ok (.if_icmp .ge 16, 3) := by decide +kernel
theorem dX9_clear_42 : decode cX9_clear 42 = .ok (.aload_n 0, 1) := by decide +kernel
theorem dX9_clear_43 : decode cX9_clear 43 = .ok (.getfield 24, 3) := by decide +kernel
theorem dX9_clear_46 : decode cX9_clear 46 = .ok (.iload_n 3, 1) := by decide +kernel
theorem dX9_clear_47 : decode cX9_clear 47 = .ok (.iconst 0, 1) := by decide +kernel
theorem dX9_clear_48 : decode cX9_clear 48 = .ok (.iastore, 1) := by decide +kernel
theorem dX9_clear_49 : decode cX9_clear 49 = .ok (.iinc 3 1, 3) := by decide +kernel
theorem dX9_clear_52 : decode cX9_clear 52 = .ok (.goto (-16), 3) := by decide +kernel
theorem dX9_clear_55 : decode cX9_clear 55 = .ok (.return_, 1) := by decide +kernel
theorem dX9_copy_0 : decode cX9_copy 0 = .ok (.aload_n 0, 1) := by decide +kernel
theorem dX9_copy_1 : decode cX9_copy 1 = .ok (.aload_n 1, 1) := by decide +kernel
theorem dX9_copy_2 : decode cX9_copy 2 = .ok (.getfield 9, 3) := by decide +kernel
theorem dX9_copy_5 : decode cX9_copy 5 = .ok (.putfield 9, 3) := by decide +kernel
theorem dX9_copy_8 : decode cX9_copy 8 = .ok (.aload_n 0, 1) := by decide +kernel
theorem dX9_copy_9 : decode cX9_copy 9 = .ok (.aload_n 1, 1) := by decide +kernel
theorem dX9_copy_10 : decode cX9_copy 10 = .ok (.getfield 15, 3) := by decide +kernel
theorem dX9_copy_13 : decode cX9_copy 13 = .ok (.putfield 15, 3) := by decide +kernel
theorem dX9_copy_16 : decode cX9_copy 16 = .ok (.aload_n 0, 1) := by decide +kernel
theorem dX9_copy_17 : decode cX9_copy 17 = .ok (.aload_n 1, 1) := by decide +kernel
theorem dX9_copy_18 : decode cX9_copy 18 = .ok (.getfield 18, 3) := by decide +kernel
theorem dX9_copy_21 : decode cX9_copy 21 = .ok (.putfield 18, 3) := by decide +kernel
theorem dX9_copy_24 : decode cX9_copy 24 = .ok (.aload_n 0, 1) := by decide +kernel
theorem dX9_copy_25 : decode cX9_copy 25 = .ok (.aload_n 1, 1) := by decide +kernel
theorem dX9_copy_26 : decode cX9_copy 26 = .ok (.getfield 21, 3) := by decide +kernel
theorem dX9_copy_29 : decode cX9_copy 29 = .ok (.putfield 21, 3) := by decide +kernel
theorem dX9_copy_32 : decode cX9_copy 32 = .ok (.aload_n 1, 1) := by decide +kernel
theorem dX9_copy_33 : decode cX9_copy 33 = .ok (.getfield 24, 3) := by decide +kernel
theorem dX9_copy_36 : decode cX9_copy 36 = .ok (.iconst 0, 1) := by decide +kernel
theorem dX9_copy_37 : decode cX9_copy 37 = .ok (.aload_n 0, 1) := by decide +kernel
theorem dX9_copy_38 : decode cX9_copy 38 = .ok (.getfield 24, 3) := by decide +kernel
theorem dX9_copy_41 : decode cX9_copy 41 = .ok (.iconst 0, 1) := by decide +kernel
theorem dX9_copy_42 : decode cX9_copy 42 = .ok (.bipush 125, 2) := by decide +kernel
theorem dX9_copy_44 : decode cX9_copy 44 = .ok (.invokestatic 45, 3) := by decide +kernel
theorem dX9_copy_47 : decode cX9_copy 47 = .ok (.return_, 1) := by decide +kernel
theorem dX9_prime_0 : decode cX9_prime 0 = .ok (.aload_n 0, 1) := by decide +kernel
theorem dX9_prime_1 : decode cX9_prime 1 = .ok (.getfield 9, 3) := by decide +kernel
theorem dX9_prime_4 : decode cX9_prime 4 = .ok (.ireturn, 1) := by decide +kernel
theorem dX9_size_0 : decode cX9_size 0 = .ok (.aload_n 0, 1) := by decide +kernel
theorem dX9_size_1 : decode cX9_size 1 = .ok (.getfield 15, 3) := by decide +kernel
theorem dX9_size_4 : decode cX9_size 4 = .ok (.ireturn, 1) := by decide +kernel
theorem dX9_order_0 : decode cX9_order 0 = .ok (.aload_n 0, 1) := by decide +kernel
theorem dX9_order_1 : decode cX9_order 1 = .ok (.getfield 18, 3) := by decide +kernel
theorem dX9_order_4 : decode cX9_order 4 = .ok (.ireturn, 1) := by decide +kernel
theorem dX9_knownFailing_0 : decode cX9_knownFailing 0 = .ok (.aload_n 0, 1) := by decide +kernel
theorem dX9_knownFailing_1 : decode cX9_knownFailing 1 = .ok (.getfield 21, 3) := by decide +kernel
theorem dX9_knownFailing_4 : decode cX9_knownFailing 4 = .ok (.ireturn, 1) := by decide +kernel
theorem dX9_learnFailing_0 : decode cX9_learnFailing 0 = .ok (.aload_n 0, 1) := by decide +kernel
theorem dX9_learnFailing_1 : decode cX9_learnFailing 1 = .ok (.iload_n 1, 1) := by decide +kernel
theorem dX9_learnFailing_2 : decode cX9_learnFailing 2 = .ok (.putfield 21, 3) := by decide +kernel
theorem dX9_learnFailing_5 : decode cX9_learnFailing 5 = .ok (.return_, 1) := by decide +kernel
theorem dX9_hasElement_0 : decode cX9_hasElement 0 = .ok (.iload_n 1, 1) := by decide +kernel
theorem dX9_hasElement_1 : decode cX9_hasElement 1 = .ok (.ifCond .lt 15, 3) := by decide +kernel
theorem dX9_hasElement_4 : decode cX9_hasElement 4 = .ok (.iload_n 1, 1) := by decide +kernel
theorem dX9_hasElement_5 : decode cX9_hasElement 5 = .ok (.aload_n 0, 1) := by decide +kernel
theorem dX9_hasElement_6 : decode cX9_hasElement 6 = .ok (.getfield 18, 3) := by decide +kernel
theorem dX9_hasElement_9 : decode cX9_hasElement 9 = .ok (.if_icmp .ge 7, 3) := by decide +kernel
theorem dX9_hasElement_12 : decode cX9_hasElement 12 = .ok (.iconst 1, 1) := by decide +kernel
theorem dX9_hasElement_13 : decode cX9_hasElement 13 = .ok (.goto 4, 3) := by decide +kernel
theorem dX9_hasElement_16 : decode cX9_hasElement 16 = .ok (.iconst 0, 1) := by decide +kernel
theorem dX9_hasElement_17 : decode cX9_hasElement 17 = .ok (.ireturn, 1) := by decide +kernel
theorem dX9_hasCell_0 : decode cX9_hasCell 0 = .ok (.iload_n 1, 1) := by decide +kernel
theorem dX9_hasCell_1 : decode cX9_hasCell 1 = .ok (.ifCond .lt 39, 3) := by decide +kernel
theorem dX9_hasCell_4 : decode cX9_hasCell 4 = .ok (.iload_n 1, 1) := by decide +kernel
theorem dX9_hasCell_5 : decode cX9_hasCell 5 = .ok (.aload_n 0, 1) := by decide +kernel
theorem dX9_hasCell_6 : decode cX9_hasCell 6 = .ok (.getfield 15, 3) := by decide +kernel
theorem dX9_hasCell_9 : decode cX9_hasCell 9 = .ok (.if_icmp .ge 31, 3) := by decide +kernel
theorem dX9_hasCell_12 : decode cX9_hasCell 12 = .ok (.iload_n 2, 1) := by decide +kernel
theorem dX9_hasCell_13 : decode cX9_hasCell 13 = .ok (.ifCond .lt 27, 3) := by decide +kernel
theorem dX9_hasCell_16 : decode cX9_hasCell 16 = .ok (.iload_n 2, 1) := by decide +kernel
theorem dX9_hasCell_17 : decode cX9_hasCell 17 = .ok (.aload_n 0, 1) := by decide +kernel
theorem dX9_hasCell_18 : decode cX9_hasCell 18 = .ok (.getfield 15, 3) := by decide +kernel
theorem dX9_hasCell_21 : decode cX9_hasCell 21 = .ok (.if_icmp .ge 19, 3) := by decide +kernel
theorem dX9_hasCell_24 : decode cX9_hasCell 24 = .ok (.iload_n 3, 1) := by decide +kernel
theorem dX9_hasCell_25 : decode cX9_hasCell 25 = .ok (.ifCond .lt 15, 3) := by decide +kernel
theorem dX9_hasCell_28 : decode cX9_hasCell 28 = .ok (.iload_n 3, 1) := by decide +kernel
theorem dX9_hasCell_29 : decode cX9_hasCell 29 = .ok (.aload_n 0, 1) := by decide +kernel
theorem dX9_hasCell_30 : decode cX9_hasCell 30 = .ok (.getfield 15, 3) := by decide +kernel
theorem dX9_hasCell_33 : decode cX9_hasCell 33 = .ok (.if_icmp .ge 7, 3) := by decide +kernel
theorem dX9_hasCell_36 : decode cX9_hasCell 36 = .ok (.iconst 1, 1) := by decide +kernel
theorem dX9_hasCell_37 : decode cX9_hasCell 37 = .ok (.goto 4, 3) := by decide +kernel
theorem dX9_hasCell_40 : decode cX9_hasCell 40 = .ok (.iconst 0, 1) := by decide +kernel
theorem dX9_hasCell_41 : decode cX9_hasCell 41 = .ok (.ireturn, 1) := by decide +kernel
theorem dX9_cell_0 : decode cX9_cell 0 = .ok (.iload_n 1, 1) := by decide +kernel
theorem dX9_cell_1 : decode cX9_cell 1 = .ok (.ifCond .lt 35, 3) := by decide +kernel
theorem dX9_cell_4 : decode cX9_cell 4 = .ok (.iload_n 1, 1) := by decide +kernel
theorem dX9_cell_5 : decode cX9_cell 5 = .ok (.aload_n 0, 1) := by decide +kernel
theorem dX9_cell_6 : decode cX9_cell 6 = .ok (.getfield 15, 3) := by decide +kernel
theorem dX9_cell_9 : decode cX9_cell 9 = .ok (.if_icmp .ge 27, 3) := by decide +kernel
theorem dX9_cell_12 : decode cX9_cell 12 = .ok (.iload_n 2, 1) := by decide +kernel
theorem dX9_cell_13 : decode cX9_cell 13 = .ok (.ifCond .lt 23, 3) := by decide +kernel
theorem dX9_cell_16 : decode cX9_cell 16 = .ok (.iload_n 2, 1) := by decide +kernel
theorem dX9_cell_17 : decode cX9_cell 17 = .ok (.aload_n 0, 1) := by decide +kernel
theorem dX9_cell_18 : decode cX9_cell 18 = .ok (.getfield 15, 3) := by decide +kernel
theorem dX9_cell_21 : decode cX9_cell 21 = .ok (.if_icmp .ge 15, 3) := by decide +kernel
theorem dX9_cell_24 : decode cX9_cell 24 = .ok (.iload_n 3, 1) := by decide +kernel
theorem dX9_cell_25 : decode cX9_cell 25 = .ok (.ifCond .lt 11, 3) := by decide +kernel
theorem dX9_cell_28 : decode cX9_cell 28 = .ok (.iload_n 3, 1) := by decide +kernel
theorem dX9_cell_29 : decode cX9_cell 29 = .ok (.aload_n 0, 1) := by decide +kernel
theorem dX9_cell_30 : decode cX9_cell 30 = .ok (.getfield 15, 3) := by decide +kernel
theorem dX9_cell_33 : decode cX9_cell 33 = .ok (.if_icmp .lt 5, 3) := by decide +kernel
theorem dX9_cell_36 : decode cX9_cell 36 = .ok (.iconst 0, 1) := by decide +kernel
theorem dX9_cell_37 : decode cX9_cell 37 = .ok (.ireturn, 1) := by decide +kernel
theorem dX9_cell_38 : decode cX9_cell 38 = .ok (.aload_n 0, 1) := by decide +kernel
theorem dX9_cell_39 : decode cX9_cell 39 = .ok (.getfield 24, 3) := by decide +kernel
theorem dX9_cell_42 : decode cX9_cell 42 = .ok (.bipush 25, 2) := by decide +kernel
theorem dX9_cell_44 : decode cX9_cell 44 = .ok (.iload_n 1, 1) := by decide +kernel
theorem dX9_cell_45 : decode cX9_cell 45 = .ok (.imul, 1) := by decide +kernel
theorem dX9_cell_46 : decode cX9_cell 46 = .ok (.iconst 5, 1) := by decide +kernel
theorem dX9_cell_47 : decode cX9_cell 47 = .ok (.iload_n 2, 1) := by decide +kernel
theorem dX9_cell_48 : decode cX9_cell 48 = .ok (.imul, 1) := by decide +kernel
theorem dX9_cell_49 : decode cX9_cell 49 = .ok (.iadd, 1) := by decide +kernel
theorem dX9_cell_50 : decode cX9_cell 50 = .ok (.iload_n 3, 1) := by decide +kernel
theorem dX9_cell_51 : decode cX9_cell 51 = .ok (.iadd, 1) := by decide +kernel
theorem dX9_cell_52 : decode cX9_cell 52 = .ok (.iaload, 1) := by decide +kernel
theorem dX9_cell_53 : decode cX9_cell 53 = .ok (.ireturn, 1) := by decide +kernel
theorem dX9_put_0 : decode cX9_put 0 = .ok (.aload_n 0, 1) := by decide +kernel
theorem dX9_put_1 : decode cX9_put 1 = .ok (.iload_n 1, 1) := by decide +kernel
theorem dX9_put_2 : decode cX9_put 2 = .ok (.iload_n 2, 1) := by decide +kernel
theorem dX9_put_3 : decode cX9_put 3 = .ok (.iload_n 3, 1) := by decide +kernel
theorem dX9_put_4 : decode cX9_put 4 = .ok (.invokevirtual 51, 3) := by decide +kernel
theorem dX9_put_7 : decode cX9_put 7 = .ok (.ifCond .eq 26, 3) := by decide +kernel
theorem dX9_put_10 : decode cX9_put 10 = .ok (.aload_n 0, 1) := by decide +kernel
theorem dX9_put_11 : decode cX9_put 11 = .ok (.getfield 24, 3) := by decide +kernel
theorem dX9_put_14 : decode cX9_put 14 = .ok (.bipush 25, 2) := by decide +kernel
theorem dX9_put_16 : decode cX9_put 16 = .ok (.iload_n 1, 1) := by decide +kernel
theorem dX9_put_17 : decode cX9_put 17 = .ok (.imul, 1) := by decide +kernel
theorem dX9_put_18 : decode cX9_put 18 = .ok (.iconst 5, 1) := by decide +kernel
theorem dX9_put_19 : decode cX9_put 19 = .ok (.iload_n 2, 1) := by decide +kernel
theorem dX9_put_20 : decode cX9_put 20 = .ok (.imul, 1) := by decide +kernel
theorem dX9_put_21 : decode cX9_put 21 = .ok (.iadd, 1) := by decide +kernel
theorem dX9_put_22 : decode cX9_put 22 = .ok (.iload_n 3, 1) := by decide +kernel
theorem dX9_put_23 : decode cX9_put 23 = .ok (.iadd, 1) := by decide +kernel
theorem dX9_put_24 : decode cX9_put 24 = .ok (.iload 4, 2) := by decide +kernel
theorem dX9_put_26 : decode cX9_put 26 = .ok (.iastore, 1) := by decide +kernel
theorem dX9_put_27 : decode cX9_put 27 = .ok (.aload_n 0, 1) := by decide +kernel
theorem dX9_put_28 : decode cX9_put 28 = .ok (.bipush (-2), 2) := by decide +kernel
theorem dX9_put_30 : decode cX9_put 30 = .ok (.putfield 21, 3) := by decide +kernel
theorem dX9_put_33 : decode cX9_put 33 = .ok (.return_, 1) := by decide +kernel
theorem dX9_putRow_0 : decode cX9_putRow 0 = .ok (.iload_n 3, 1) := by decide +kernel
theorem dX9_putRow_1 : decode cX9_putRow 1 = .ok (.istore 4, 2) := by decide +kernel
theorem dX9_putRow_3 : decode cX9_putRow 3 = .ok (.iconst 0, 1) := by decide +kernel
theorem dX9_putRow_4 : decode cX9_putRow 4 = .ok (.istore 5, 2) := by decide +kernel
theorem dX9_putRow_6 : decode cX9_putRow 6 = .ok (.iload 5, 2) := by decide +kernel
theorem dX9_putRow_8 : decode cX9_putRow 8 = .ok (.aload_n 0, 1) := by decide +kernel
theorem dX9_putRow_9 : decode cX9_putRow 9 = .ok (.getfield 15, 3) := by decide +kernel
theorem dX9_putRow_12 : decode cX9_putRow 12 = .ok (.if_icmp .ge 33, 3) := by decide +kernel
theorem dX9_putRow_15 : decode cX9_putRow 15 = .ok (.aload_n 0, 1) := by decide +kernel
theorem dX9_putRow_16 : decode cX9_putRow 16 = .ok (.iload_n 1, 1) := by decide +kernel
theorem dX9_putRow_17 : decode cX9_putRow 17 = .ok (.iload_n 2, 1) := by decide +kernel
theorem dX9_putRow_18 : decode cX9_putRow 18 = .ok (.iload 5, 2) := by decide +kernel
theorem dX9_putRow_20 : decode cX9_putRow 20 = .ok (.iload 4, 2) := by decide +kernel
theorem dX9_putRow_22 : decode cX9_putRow 22 = .ok (.aload_n 0, 1) := by decide +kernel
theorem dX9_putRow_23 : decode cX9_putRow 23 = .ok (.getfield 9, 3) := by decide +kernel
theorem dX9_putRow_26 : decode cX9_putRow 26 = .ok (.irem, 1) := by decide +kernel
theorem dX9_putRow_27 : decode cX9_putRow 27 = .ok (.invokevirtual 55, 3) := by decide +kernel
theorem dX9_putRow_30 : decode cX9_putRow 30 = .ok (.iload 4, 2) := by decide +kernel
theorem dX9_putRow_32 : decode cX9_putRow 32 = .ok (.aload_n 0, 1) := by decide +kernel
theorem dX9_putRow_33 : decode cX9_putRow 33 = .ok (.getfield 9, 3) := by decide +kernel
theorem dX9_putRow_36 : decode cX9_putRow 36 = .ok (.idiv, 1) := by decide +kernel
theorem dX9_putRow_37 : decode cX9_putRow 37 = .ok (.istore 4, 2) := by decide +kernel
theorem dX9_putRow_39 : decode cX9_putRow 39 = .ok (.iinc 5 1, 3) := by decide +kernel
theorem dX9_putRow_42 : decode cX9_putRow 42 = .ok (.goto (-36), 3) := by decide +kernel
theorem dX9_putRow_45 : decode cX9_putRow 45 = .ok (.return_, 1) := by decide +kernel
theorem dX9_base_0 : decode cX9_base 0 = .ok (.aload_n 0, 1) := by decide +kernel
theorem dX9_base_1 : decode cX9_base 1 = .ok (.getfield 9, 3) := by decide +kernel
theorem dX9_base_4 : decode cX9_base 4 = .ok (.iload_n 1, 1) := by decide +kernel
theorem dX9_base_5 : decode cX9_base 5 = .ok (.invokestatic 37, 3) := by decide +kernel
theorem dX9_base_8 : decode cX9_base 8 = .ok (.ireturn, 1) := by decide +kernel
theorem dX9_times_0 : decode cX9_times 0 = .ok (.iconst 0, 1) := by decide +kernel
theorem dX9_times_1 : decode cX9_times 1 = .ok (.istore_n 3, 1) := by decide +kernel
theorem dX9_times_2 : decode cX9_times 2 = .ok (.iload_n 3, 1) := by decide +kernel
theorem dX9_times_3 : decode cX9_times 3 = .ok (.iconst 5, 1) := by decide +kernel
theorem dX9_times_4 : decode cX9_times 4 = .ok (.if_icmp .ge 16, 3) := by decide +kernel
theorem dX9_times_7 : decode cX9_times 7 = .ok (.aload_n 0, 1) := by decide +kernel
theorem dX9_times_8 : decode cX9_times 8 = .ok (.getfield 28, 3) := by decide +kernel
theorem dX9_times_11 : decode cX9_times 11 = .ok (.iload_n 3, 1) := by decide +kernel
theorem dX9_times_12 : decode cX9_times 12 = .ok (.iconst 0, 1) := by decide +kernel
theorem dX9_times_13 : decode cX9_times 13 = .ok (.iastore, 1) := by decide +kernel
theorem dX9_times_14 : decode cX9_times 14 = .ok (.iinc 3 1, 3) := by decide +kernel
theorem dX9_times_17 : decode cX9_times 17 = .ok (.goto (-15), 3) := by decide +kernel
theorem dX9_times_20 : decode cX9_times 20 = .ok (.iload_n 1, 1) := by decide +kernel
theorem dX9_times_21 : decode cX9_times 21 = .ok (.istore_n 3, 1) := by decide +kernel
theorem dX9_times_22 : decode cX9_times 22 = .ok (.iconst 0, 1) := by decide +kernel
theorem dX9_times_23 : decode cX9_times 23 = .ok (.istore 4, 2) := by decide +kernel
theorem dX9_times_25 : decode cX9_times 25 = .ok (.iload 4, 2) := by decide +kernel
theorem dX9_times_27 : decode cX9_times 27 = .ok (.aload_n 0, 1) := by decide +kernel
theorem dX9_times_28 : decode cX9_times 28 = .ok (.getfield 15, 3) := by decide +kernel
theorem dX9_times_31 : decode cX9_times 31 = .ok (.if_icmp .ge 134, 3) := by decide +kernel
theorem dX9_times_34 : decode cX9_times 34 = .ok (.iload_n 3, 1) := by decide +kernel
theorem dX9_times_35 : decode cX9_times 35 = .ok (.aload_n 0, 1) := by decide +kernel
theorem dX9_times_36 : decode cX9_times 36 = .ok (.getfield 9, 3) := by decide +kernel
theorem dX9_times_39 : decode cX9_times 39 = .ok (.irem, 1) := by decide +kernel
theorem dX9_times_40 : decode cX9_times 40 = .ok (.istore 5, 2) := by decide +kernel
theorem dX9_times_42 : decode cX9_times 42 = .ok (.iload_n 3, 1) := by decide +kernel
theorem dX9_times_43 : decode cX9_times 43 = .ok (.aload_n 0, 1) := by decide +kernel
theorem dX9_times_44 : decode cX9_times 44 = .ok (.getfield 9, 3) := by decide +kernel
theorem dX9_times_47 : decode cX9_times 47 = .ok (.idiv, 1) := by decide +kernel
theorem dX9_times_48 : decode cX9_times 48 = .ok (.istore_n 3, 1) := by decide +kernel
theorem dX9_times_49 : decode cX9_times 49 = .ok (.iload 5, 2) := by decide +kernel
theorem dX9_times_51 : decode cX9_times 51 = .ok (.ifCond .ne 7, 3) := by decide +kernel
theorem dX9_times_54 : decode cX9_times 54 = .ok (.iconst 0, 1) := by decide +kernel
theorem dX9_times_55 : decode cX9_times 55 = .ok (.goto 4, 3) := by decide +kernel
theorem dX9_times_58 : decode cX9_times 58 = .ok (.iload_n 2, 1) := by decide +kernel
theorem dX9_times_59 : decode cX9_times 59 = .ok (.istore 6, 2) := by decide +kernel
theorem dX9_times_61 : decode cX9_times 61 = .ok (.iconst 0, 1) := by decide +kernel
theorem dX9_times_62 : decode cX9_times 62 = .ok (.istore 7, 2) := by decide +kernel
theorem dX9_times_64 : decode cX9_times 64 = .ok (.iload 7, 2) := by decide +kernel
theorem dX9_times_66 : decode cX9_times 66 = .ok (.aload_n 0, 1) := by decide +kernel
theorem dX9_times_67 : decode cX9_times 67 = .ok (.getfield 15, 3) := by decide +kernel
theorem dX9_times_70 : decode cX9_times 70 = .ok (.if_icmp .ge 89, 3) := by decide +kernel
theorem dX9_times_73 : decode cX9_times 73 = .ok (.iload 6, 2) := by decide +kernel
theorem dX9_times_75 : decode cX9_times 75 = .ok (.ifCond .eq 84, 3) := by decide +kernel
theorem dX9_times_78 : decode cX9_times 78 = .ok (.iload 5, 2) := by decide +kernel
theorem dX9_times_80 : decode cX9_times 80 = .ok (.iload 6, 2) := by decide +kernel
theorem dX9_times_82 : decode cX9_times 82 = .ok (.aload_n 0, 1) := by decide +kernel
theorem dX9_times_83 : decode cX9_times 83 = .ok (.getfield 9, 3) := by decide +kernel
theorem dX9_times_86 : decode cX9_times 86 = .ok (.irem, 1) := by decide +kernel
theorem dX9_times_87 : decode cX9_times 87 = .ok (.imul, 1) := by decide +kernel
theorem dX9_times_88 : decode cX9_times 88 = .ok (.istore 8, 2) := by decide +kernel
theorem dX9_times_90 : decode cX9_times 90 = .ok (.iload 6, 2) := by decide +kernel
theorem dX9_times_92 : decode cX9_times 92 = .ok (.aload_n 0, 1) := by decide +kernel
theorem dX9_times_93 : decode cX9_times 93 = .ok (.getfield 9, 3) := by decide +kernel
theorem dX9_times_96 : decode cX9_times 96 = .ok (.idiv, 1) := by decide +kernel
theorem dX9_times_97 : decode cX9_times 97 = .ok (.istore 6, 2) := by decide +kernel
theorem dX9_times_99 : decode cX9_times 99 = .ok (.iconst 0, 1) := by decide +kernel
theorem dX9_times_100 : decode cX9_times 100 = .ok (.istore 9, 2) := by decide +kernel
theorem dX9_times_102 : decode cX9_times 102 = .ok (.iload 9, 2) := by decide +kernel
theorem dX9_times_104 : decode cX9_times 104 = .ok (.aload_n 0, 1) := by decide +kernel
theorem dX9_times_105 : decode cX9_times 105 = .ok (.getfield 15, 3) := by decide +kernel
theorem dX9_times_108 : decode cX9_times 108 = .ok (.if_icmp .ge 45, 3) := by decide +kernel
theorem dX9_times_111 : decode cX9_times 111 = .ok (.iload 8, 2) := by decide +kernel
theorem dX9_times_113 : decode cX9_times 113 = .ok (.ifCond .eq 40, 3) := by decide +kernel
theorem dX9_times_116 : decode cX9_times 116 = .ok (.aload_n 0, 1) := by decide +kernel
theorem dX9_times_117 : decode cX9_times 117 = .ok (.getfield 28, 3) := by decide +kernel
theorem dX9_times_120 : decode cX9_times 120 = .ok (.iload 9, 2) := by decide +kernel
theorem dX9_times_122 : decode cX9_times 122 = .ok (.dup2, 1) := by decide +kernel
theorem dX9_times_123 : decode cX9_times 123 = .ok (.iaload, 1) := by decide +kernel
theorem dX9_times_124 : decode cX9_times 124 = .ok (.iload 8, 2) := by decide +kernel
theorem dX9_times_126 : decode cX9_times 126 = .ok (.aload_n 0, 1) := by decide +kernel
theorem dX9_times_127 : decode cX9_times 127 = .ok (.getfield 24, 3) := by decide +kernel
theorem dX9_times_130 : decode cX9_times 130 = .ok (.bipush 25, 2) := by decide +kernel
theorem dX9_times_132 : decode cX9_times 132 = .ok (.iload 4, 2) := by decide +kernel
theorem dX9_times_134 : decode cX9_times 134 = .ok (.imul, 1) := by decide +kernel
theorem dX9_times_135 : decode cX9_times 135 = .ok (.iconst 5, 1) := by decide +kernel
theorem dX9_times_136 : decode cX9_times 136 = .ok (.iload 7, 2) := by decide +kernel
theorem dX9_times_138 : decode cX9_times 138 = .ok (.imul, 1) := by decide +kernel
theorem dX9_times_139 : decode cX9_times 139 = .ok (.iadd, 1) := by decide +kernel
theorem dX9_times_140 : decode cX9_times 140 = .ok (.iload 9, 2) := by decide +kernel
theorem dX9_times_142 : decode cX9_times 142 = .ok (.iadd, 1) := by decide +kernel
theorem dX9_times_143 : decode cX9_times 143 = .ok (.iaload, 1) := by decide +kernel
theorem dX9_times_144 : decode cX9_times 144 = .ok (.imul, 1) := by decide +kernel
theorem dX9_times_145 : decode cX9_times 145 = .ok (.iadd, 1) := by decide +kernel
theorem dX9_times_146 : decode cX9_times 146 = .ok (.iastore, 1) := by decide +kernel
theorem dX9_times_147 : decode cX9_times 147 = .ok (.iinc 9 1, 3) := by decide +kernel
theorem dX9_times_150 : decode cX9_times 150 = .ok (.goto (-48), 3) := by decide +kernel
theorem dX9_times_153 : decode cX9_times 153 = .ok (.iinc 7 1, 3) := by decide +kernel
theorem dX9_times_156 : decode cX9_times 156 = .ok (.goto (-92), 3) := by decide +kernel
theorem dX9_times_159 : decode cX9_times 159 = .ok (.iinc 4 1, 3) := by decide +kernel
theorem dX9_times_162 : decode cX9_times 162 = .ok (.goto (-137), 3) := by decide +kernel
theorem dX9_times_165 : decode cX9_times 165 = .ok (.iconst 0, 1) := by decide +kernel
theorem dX9_times_166 : decode cX9_times 166 = .ok (.istore 4, 2) := by decide +kernel
theorem dX9_times_168 : decode cX9_times 168 = .ok (.aload_n 0, 1) := by decide +kernel
theorem dX9_times_169 : decode cX9_times 169 = .ok (.getfield 15, 3) := by decide +kernel
theorem dX9_times_172 : decode cX9_times 172 = .ok (.iconst 1, 1) := by decide +kernel
theorem dX9_times_173 : decode cX9_times 173 = .ok (.isub, 1) := by decide +kernel
theorem dX9_times_174 : decode cX9_times 174 = .ok (.istore 5, 2) := by decide +kernel
theorem dX9_times_176 : decode cX9_times 176 = .ok (.iload 5, 2) := by decide +kernel
theorem dX9_times_178 : decode cX9_times 178 = .ok (.ifCond .lt 31, 3) := by decide +kernel
theorem dX9_times_181 : decode cX9_times 181 = .ok (.iload 4, 2) := by decide +kernel
theorem dX9_times_183 : decode cX9_times 183 = .ok (.aload_n 0, 1) := by decide +kernel
theorem dX9_times_184 : decode cX9_times 184 = .ok (.getfield 9, 3) := by decide +kernel
theorem dX9_times_187 : decode cX9_times 187 = .ok (.imul, 1) := by decide +kernel
theorem dX9_times_188 : decode cX9_times 188 = .ok (.aload_n 0, 1) := by decide +kernel
theorem dX9_times_189 : decode cX9_times 189 = .ok (.getfield 28, 3) := by decide +kernel
theorem dX9_times_192 : decode cX9_times 192 = .ok (.iload 5, 2) := by decide +kernel
theorem dX9_times_194 : decode cX9_times 194 = .ok (.iaload, 1) := by decide +kernel
theorem dX9_times_195 : decode cX9_times 195 = .ok (.aload_n 0, 1) := by decide +kernel
theorem dX9_times_196 : decode cX9_times 196 = .ok (.getfield 9, 3) := by decide +kernel
theorem dX9_times_199 : decode cX9_times 199 = .ok (.irem, 1) := by decide +kernel
theorem dX9_times_200 : decode cX9_times 200 = .ok (.iadd, 1) := by decide +kernel
theorem dX9_times_201 : decode cX9_times 201 = .ok (.istore 4, 2) := by decide +kernel
theorem dX9_times_203 : decode cX9_times 203 = .ok (.iinc 5 (-1), 3) := by decide +kernel
theorem dX9_times_206 : decode cX9_times 206 = .ok (.goto (-30), 3) := by decide +kernel
theorem dX9_times_209 : decode cX9_times 209 = .ok (.iload 4, 2) := by decide +kernel
theorem dX9_times_211 : decode cX9_times 211 = .ok (.ireturn, 1) := by decide +kernel
theorem dX9_commutes_0 : decode cX9_commutes 0 = .ok (.iconst 0, 1) := by decide +kernel
theorem dX9_commutes_1 : decode cX9_commutes 1 = .ok (.istore_n 1, 1) := by decide +kernel
theorem dX9_commutes_2 : decode cX9_commutes 2 = .ok (.iload_n 1, 1) := by decide +kernel
theorem dX9_commutes_3 : decode cX9_commutes 3 = .ok (.aload_n 0, 1) := by decide +kernel
theorem dX9_commutes_4 : decode cX9_commutes 4 = .ok (.getfield 15, 3) := by decide +kernel
theorem dX9_commutes_7 : decode cX9_commutes 7 = .ok (.if_icmp .ge 57, 3) := by decide +kernel
theorem dX9_commutes_10 : decode cX9_commutes 10 = .ok (.iconst 0, 1) := by decide +kernel
theorem dX9_commutes_11 : decode cX9_commutes 11 = .ok (.istore_n 2, 1) := by decide +kernel
theorem dX9_commutes_12 : decode cX9_commutes 12 = .ok (.iload_n 2, 1) := by decide +kernel
theorem dX9_commutes_13 : decode cX9_commutes 13 = .ok (.iload_n 1, 1) := by decide +kernel
theorem dX9_commutes_14 : decode cX9_commutes 14 = .ok (.if_icmp .ge 44, 3) := by decide +kernel
theorem dX9_commutes_17 : decode cX9_commutes 17 = .ok (.iconst 0, 1) := by decide +kernel
theorem dX9_commutes_18 : decode cX9_commutes 18 = .ok (.istore_n 3, 1) := by decide +kernel
theorem dX9_commutes_19 : decode cX9_commutes 19 = .ok (.iload_n 3, 1) := by decide +kernel
theorem dX9_commutes_20 : decode cX9_commutes 20 = .ok (.aload_n 0, 1) := by decide +kernel
theorem dX9_commutes_21 : decode cX9_commutes 21 = .ok (.getfield 15, 3) := by decide +kernel
theorem dX9_commutes_24 : decode cX9_commutes 24 = .ok (.if_icmp .ge 28, 3) := by decide +kernel
theorem dX9_commutes_27 : decode cX9_commutes 27 = .ok (.aload_n 0, 1) := by decide +kernel
theorem dX9_commutes_28 : decode cX9_commutes 28 = .ok (.iload_n 1, 1) := by decide +kernel
theorem dX9_commutes_29 : decode cX9_commutes 29 = .ok (.iload_n 2, 1) := by decide +kernel
theorem dX9_commutes_30 : decode cX9_commutes 30 = .ok (.iload_n 3, 1) := by decide +kernel
theorem dX9_commutes_31 : decode cX9_commutes 31 = .ok (.invokevirtual 59, 3) := by decide +kernel
theorem dX9_commutes_34 : decode cX9_commutes 34 = .ok (.aload_n 0, 1) := by decide +kernel
theorem dX9_commutes_35 : decode cX9_commutes 35 = .ok (.iload_n 2, 1) := by decide +kernel
theorem dX9_commutes_36 : decode cX9_commutes 36 = .ok (.iload_n 1, 1) := by decide +kernel
theorem dX9_commutes_37 : decode cX9_commutes 37 = .ok (.iload_n 3, 1) := by decide +kernel
theorem dX9_commutes_38 : decode cX9_commutes 38 = .ok (.invokevirtual 59, 3) := by decide +kernel
theorem dX9_commutes_41 : decode cX9_commutes 41 = .ok (.if_icmp .eq 5, 3) := by decide +kernel
theorem dX9_commutes_44 : decode cX9_commutes 44 = .ok (.iconst 0, 1) := by decide +kernel
theorem dX9_commutes_45 : decode cX9_commutes 45 = .ok (.ireturn, 1) := by decide +kernel
theorem dX9_commutes_46 : decode cX9_commutes 46 = .ok (.iinc 3 1, 3) := by decide +kernel
theorem dX9_commutes_49 : decode cX9_commutes 49 = .ok (.goto (-30), 3) := by decide +kernel
theorem dX9_commutes_52 : decode cX9_commutes 52 = .ok (.iinc 2 1, 3) := by decide +kernel
theorem dX9_commutes_55 : decode cX9_commutes 55 = .ok (.goto (-43), 3) := by decide +kernel
theorem dX9_commutes_58 : decode cX9_commutes 58 = .ok (.iinc 1 1, 3) := by decide +kernel
theorem dX9_commutes_61 : decode cX9_commutes 61 = .ok (.goto (-59), 3) := by decide +kernel
theorem dX9_commutes_64 : decode cX9_commutes 64 = .ok (.iconst 1, 1) := by decide +kernel
theorem dX9_commutes_65 : decode cX9_commutes 65 = .ok (.ireturn, 1) := by decide +kernel
theorem dX9_turnFrom_0 : decode cX9_turnFrom 0 = .ok (.aload_n 0, 1) := by decide +kernel
theorem dX9_turnFrom_1 : decode cX9_turnFrom 1 = .ok (.aload_n 1, 1) := by decide +kernel
theorem dX9_turnFrom_2 : decode cX9_turnFrom 2 = .ok (.getfield 9, 3) := by decide +kernel
theorem dX9_turnFrom_5 : decode cX9_turnFrom 5 = .ok (.aload_n 1, 1) := by decide +kernel
theorem dX9_turnFrom_6 : decode cX9_turnFrom 6 = .ok (.getfield 15, 3) := by decide +kernel
theorem dX9_turnFrom_9 : decode cX9_turnFrom 9 = .ok (.invokevirtual 63, 3) := by decide +kernel
theorem dX9_turnFrom_12 : decode cX9_turnFrom 12 = .ok (.iconst 0, 1) := by decide +kernel
theorem dX9_turnFrom_13 : decode cX9_turnFrom 13 = .ok (.istore_n 3, 1) := by decide +kernel
theorem dX9_turnFrom_14 : decode cX9_turnFrom 14 = .ok (.iload_n 3, 1) := by decide +kernel
theorem dX9_turnFrom_15 : decode cX9_turnFrom 15 = .ok (.aload_n 0, 1) := by decide +kernel
theorem dX9_turnFrom_16 : decode cX9_turnFrom 16 = .ok (.getfield 15, 3) := by decide +kernel
theorem dX9_turnFrom_19 : decode cX9_turnFrom 19 = .ok (.if_icmp .ge 64, 3) := by decide +kernel
theorem dX9_turnFrom_22 : decode cX9_turnFrom 22 = .ok (.iconst 0, 1) := by decide +kernel
theorem dX9_turnFrom_23 : decode cX9_turnFrom 23 = .ok (.istore 4, 2) := by decide +kernel
theorem dX9_turnFrom_25 : decode cX9_turnFrom 25 = .ok (.iload 4, 2) := by decide +kernel
theorem dX9_turnFrom_27 : decode cX9_turnFrom 27 = .ok (.aload_n 0, 1) := by decide +kernel
theorem dX9_turnFrom_28 : decode cX9_turnFrom 28 = .ok (.getfield 15, 3) := by decide +kernel
theorem dX9_turnFrom_31 : decode cX9_turnFrom 31 = .ok (.if_icmp .ge 46, 3) := by decide +kernel
theorem dX9_turnFrom_34 : decode cX9_turnFrom 34 = .ok (.iconst 0, 1) := by decide +kernel
theorem dX9_turnFrom_35 : decode cX9_turnFrom 35 = .ok (.istore 5, 2) := by decide +kernel
theorem dX9_turnFrom_37 : decode cX9_turnFrom 37 = .ok (.iload 5, 2) := by decide +kernel
theorem dX9_turnFrom_39 : decode cX9_turnFrom 39 = .ok (.aload_n 0, 1) := by decide +kernel
theorem dX9_turnFrom_40 : decode cX9_turnFrom 40 = .ok (.getfield 15, 3) := by decide +kernel
theorem dX9_turnFrom_43 : decode cX9_turnFrom 43 = .ok (.if_icmp .ge 28, 3) := by decide +kernel
theorem dX9_turnFrom_46 : decode cX9_turnFrom 46 = .ok (.aload_n 0, 1) := by decide +kernel
theorem dX9_turnFrom_47 : decode cX9_turnFrom 47 = .ok (.iload_n 3, 1) := by decide +kernel
theorem dX9_turnFrom_48 : decode cX9_turnFrom 48 = .ok (.iload 4, 2) := by decide +kernel
theorem dX9_turnFrom_50 : decode cX9_turnFrom 50 = .ok (.iload 5, 2) := by decide +kernel
theorem dX9_turnFrom_52 : decode cX9_turnFrom 52 = .ok (.aload_n 1, 1) := by decide +kernel
theorem dX9_turnFrom_53 : decode cX9_turnFrom 53 = .ok (.iload_n 2, 1) := by decide +kernel
theorem dX9_turnFrom_54 : decode cX9_turnFrom 54 = .ok (.iload_n 3, 1) := by decide +kernel
theorem dX9_turnFrom_55 : decode cX9_turnFrom 55 = .ok (.iload 4, 2) := by decide +kernel
theorem dX9_turnFrom_57 : decode cX9_turnFrom 57 = .ok (.iload 5, 2) := by decide +kernel
theorem dX9_turnFrom_59 : decode cX9_turnFrom 59 = .ok (.invokevirtual 67, 3) := by decide +kernel
theorem dX9_turnFrom_62 : decode cX9_turnFrom 62 = .ok (.invokevirtual 55, 3) := by decide +kernel
theorem dX9_turnFrom_65 : decode cX9_turnFrom 65 = .ok (.iinc 5 1, 3) := by decide +kernel
theorem dX9_turnFrom_68 : decode cX9_turnFrom 68 = .ok (.goto (-31), 3) := by decide +kernel
theorem dX9_turnFrom_71 : decode cX9_turnFrom 71 = .ok (.iinc 4 1, 3) := by decide +kernel
theorem dX9_turnFrom_74 : decode cX9_turnFrom 74 = .ok (.goto (-49), 3) := by decide +kernel
theorem dX9_turnFrom_77 : decode cX9_turnFrom 77 = .ok (.iinc 3 1, 3) := by decide +kernel
theorem dX9_turnFrom_80 : decode cX9_turnFrom 80 = .ok (.goto (-66), 3) := by decide +kernel
theorem dX9_turnFrom_83 : decode cX9_turnFrom 83 = .ok (.return_, 1) := by decide +kernel
theorem dX9_turnedCell_0 : decode cX9_turnedCell 0 = .ok (.iload_n 1, 1) := by decide +kernel
theorem dX9_turnedCell_1 : decode cX9_turnedCell 1 = .ok (.tableswitch 80 1 5 #[35, 44, 53, 62, 71], 35) := by decide +kernel
theorem dX9_turnedCell_36 : decode cX9_turnedCell 36 = .ok (.aload_n 0, 1) := by decide +kernel
theorem dX9_turnedCell_37 : decode cX9_turnedCell 37 = .ok (.iload_n 3, 1) := by decide +kernel
theorem dX9_turnedCell_38 : decode cX9_turnedCell 38 = .ok (.iload_n 2, 1) := by decide +kernel
theorem dX9_turnedCell_39 : decode cX9_turnedCell 39 = .ok (.iload 4, 2) := by decide +kernel
theorem dX9_turnedCell_41 : decode cX9_turnedCell 41 = .ok (.invokevirtual 59, 3) := by decide +kernel
theorem dX9_turnedCell_44 : decode cX9_turnedCell 44 = .ok (.ireturn, 1) := by decide +kernel
theorem dX9_turnedCell_45 : decode cX9_turnedCell 45 = .ok (.aload_n 0, 1) := by decide +kernel
theorem dX9_turnedCell_46 : decode cX9_turnedCell 46 = .ok (.iload 4, 2) := by decide +kernel
theorem dX9_turnedCell_48 : decode cX9_turnedCell 48 = .ok (.iload_n 3, 1) := by decide +kernel
theorem dX9_turnedCell_49 : decode cX9_turnedCell 49 = .ok (.iload_n 2, 1) := by decide +kernel
theorem dX9_turnedCell_50 : decode cX9_turnedCell 50 = .ok (.invokevirtual 59, 3) := by decide +kernel
theorem dX9_turnedCell_53 : decode cX9_turnedCell 53 = .ok (.ireturn, 1) := by decide +kernel
theorem dX9_turnedCell_54 : decode cX9_turnedCell 54 = .ok (.aload_n 0, 1) := by decide +kernel
theorem dX9_turnedCell_55 : decode cX9_turnedCell 55 = .ok (.iload_n 2, 1) := by decide +kernel
theorem dX9_turnedCell_56 : decode cX9_turnedCell 56 = .ok (.iload 4, 2) := by decide +kernel
theorem dX9_turnedCell_58 : decode cX9_turnedCell 58 = .ok (.iload_n 3, 1) := by decide +kernel
theorem dX9_turnedCell_59 : decode cX9_turnedCell 59 = .ok (.invokevirtual 59, 3) := by decide +kernel
theorem dX9_turnedCell_62 : decode cX9_turnedCell 62 = .ok (.ireturn, 1) := by decide +kernel
theorem dX9_turnedCell_63 : decode cX9_turnedCell 63 = .ok (.aload_n 0, 1) := by decide +kernel
theorem dX9_turnedCell_64 : decode cX9_turnedCell 64 = .ok (.iload 4, 2) := by decide +kernel
theorem dX9_turnedCell_66 : decode cX9_turnedCell 66 = .ok (.iload_n 2, 1) := by decide +kernel
theorem dX9_turnedCell_67 : decode cX9_turnedCell 67 = .ok (.iload_n 3, 1) := by decide +kernel
theorem dX9_turnedCell_68 : decode cX9_turnedCell 68 = .ok (.invokevirtual 59, 3) := by decide +kernel
theorem dX9_turnedCell_71 : decode cX9_turnedCell 71 = .ok (.ireturn, 1) := by decide +kernel
theorem dX9_turnedCell_72 : decode cX9_turnedCell 72 = .ok (.aload_n 0, 1) := by decide +kernel
theorem dX9_turnedCell_73 : decode cX9_turnedCell 73 = .ok (.iload_n 3, 1) := by decide +kernel
theorem dX9_turnedCell_74 : decode cX9_turnedCell 74 = .ok (.iload 4, 2) := by decide +kernel
theorem dX9_turnedCell_76 : decode cX9_turnedCell 76 = .ok (.iload_n 2, 1) := by decide +kernel
theorem dX9_turnedCell_77 : decode cX9_turnedCell 77 = .ok (.invokevirtual 59, 3) := by decide +kernel
theorem dX9_turnedCell_80 : decode cX9_turnedCell 80 = .ok (.ireturn, 1) := by decide +kernel
theorem dX9_turnedCell_81 : decode cX9_turnedCell 81 = .ok (.aload_n 0, 1) := by decide +kernel
theorem dX9_turnedCell_82 : decode cX9_turnedCell 82 = .ok (.iload_n 2, 1) := by decide +kernel
theorem dX9_turnedCell_83 : decode cX9_turnedCell 83 = .ok (.iload_n 3, 1) := by decide +kernel
theorem dX9_turnedCell_84 : decode cX9_turnedCell 84 = .ok (.iload 4, 2) := by decide +kernel
theorem dX9_turnedCell_86 : decode cX9_turnedCell 86 = .ok (.invokevirtual 59, 3) := by decide +kernel
theorem dX9_turnedCell_89 : decode cX9_turnedCell 89 = .ok (.ireturn, 1) := by decide +kernel
theorem dX10_init_0 : decode cX10_init 0 = .ok (.aload_n 0, 1) := by decide +kernel
theorem dX10_init_1 : decode cX10_init 1 = .ok (.invokespecial 1, 3) := by decide +kernel
theorem dX10_init_4 : decode cX10_init 4 = .ok (.aload_n 0, 1) := by decide +kernel
theorem dX10_init_5 : decode cX10_init 5 = .ok (.new 7, 3) := by decide +kernel
theorem dX10_init_8 : decode cX10_init 8 = .ok (.dup, 1) := by decide +kernel
theorem dX10_init_9 : decode cX10_init 9 = .ok (.invokespecial 9, 3) := by decide +kernel
theorem dX10_init_12 : decode cX10_init 12 = .ok (.putfield 10, 3) := by decide +kernel
theorem dX10_init_15 : decode cX10_init 15 = .ok (.aload_n 0, 1) := by decide +kernel
theorem dX10_init_16 : decode cX10_init 16 = .ok (.new 7, 3) := by decide +kernel
theorem dX10_init_19 : decode cX10_init 19 = .ok (.dup, 1) := by decide +kernel
theorem dX10_init_20 : decode cX10_init 20 = .ok (.invokespecial 9, 3) := by decide +kernel
theorem dX10_init_23 : decode cX10_init 23 = .ok (.putfield 16, 3) := by decide +kernel
theorem dX10_init_26 : decode cX10_init 26 = .ok (.aload_n 0, 1) := by decide +kernel
theorem dX10_init_27 : decode cX10_init 27 = .ok (.iconst 0, 1) := by decide +kernel
theorem dX10_init_28 : decode cX10_init 28 = .ok (.putfield 19, 3) := by decide +kernel
theorem dX10_init_31 : decode cX10_init 31 = .ok (.aload_n 0, 1) := by decide +kernel
theorem dX10_init_32 : decode cX10_init 32 = .ok (.new 23, 3) := by decide +kernel
theorem dX10_init_35 : decode cX10_init 35 = .ok (.dup, 1) := by decide +kernel
theorem dX10_init_36 : decode cX10_init 36 = .ok (.invokespecial 25, 3) := by decide +kernel
theorem dX10_init_39 : decode cX10_init 39 = .ok (.putfield 26, 3) := by decide +kernel
theorem dX10_init_42 : decode cX10_init 42 = .ok (.aload_n 0, 1) := by decide +kernel
theorem dX10_init_43 : decode cX10_init 43 = .ok (.new 30, 3) := by decide +kernel
theorem dX10_init_46 : decode cX10_init 46 = .ok (.dup, 1) := by decide +kernel
theorem dX10_init_47 : decode cX10_init 47 = .ok (.invokespecial 32, 3) := by decide +kernel
theorem dX10_init_50 : decode cX10_init 50 = .ok (.putfield 33, 3) := by decide +kernel
theorem dX10_init_53 : decode cX10_init 53 = .ok (.aload_n 0, 1) := by decide +kernel
theorem dX10_init_54 : decode cX10_init 54 = .ok (.new 37, 3) := by decide +kernel
theorem dX10_init_57 : decode cX10_init 57 = .ok (.dup, 1) := by decide +kernel
theorem dX10_init_58 : decode cX10_init 58 = .ok (.aload_n 0, 1) := by decide +kernel
theorem dX10_init_59 : decode cX10_init 59 = .ok (.getfield 33, 3) := by decide +kernel
theorem dX10_init_62 : decode cX10_init 62 = .ok (.invokespecial 39, 3) := by decide +kernel
theorem dX10_init_65 : decode cX10_init 65 = .ok (.putfield 42, 3) := by decide +kernel
theorem dX10_init_68 : decode cX10_init 68 = .ok (.aload_n 0, 1) := by decide +kernel
theorem dX10_init_69 : decode cX10_init 69 = .ok (.new 46, 3) := by decide +kernel
theorem dX10_init_72 : decode cX10_init 72 = .ok (.dup, 1) := by decide +kernel
theorem dX10_init_73 : decode cX10_init 73 = .ok (.aload_n 0, 1) := by decide +kernel
theorem dX10_init_74 : decode cX10_init 74 = .ok (.getfield 33, 3) := by decide +kernel
theorem dX10_init_77 : decode cX10_init 77 = .ok (.aload_n 0, 1) := by decide +kernel
theorem dX10_init_78 : decode cX10_init 78 = .ok (.getfield 42, 3) := by decide +kernel
theorem dX10_init_81 : decode cX10_init 81 = .ok (.invokespecial 48, 3) := by decide +kernel
theorem dX10_init_84 : decode cX10_init 84 = .ok (.putfield 51, 3) := by decide +kernel
theorem dX10_init_87 : decode cX10_init 87 = .ok (.aload_n 0, 1) := by decide +kernel
theorem dX10_init_88 : decode cX10_init 88 = .ok (.new 55, 3) := by decide +kernel
theorem dX10_init_91 : decode cX10_init 91 = .ok (.dup, 1) := by decide +kernel
theorem dX10_init_92 : decode cX10_init 92 = .ok (.aload_n 0, 1) := by decide +kernel
theorem dX10_init_93 : decode cX10_init 93 = .ok (.getfield 51, 3) := by decide +kernel
theorem dX10_init_96 : decode cX10_init 96 = .ok (.invokespecial 57, 3) := by decide +kernel
theorem dX10_init_99 : decode cX10_init 99 = .ok (.putfield 60, 3) := by decide +kernel
theorem dX10_init_102 : decode cX10_init 102 = .ok (.aload_n 0, 1) := by decide +kernel
theorem dX10_init_103 : decode cX10_init 103 = .ok (.new 64, 3) := by decide +kernel
theorem dX10_init_106 : decode cX10_init 106 = .ok (.dup, 1) := by decide +kernel
theorem dX10_init_107 : decode cX10_init 107 = .ok (.invokespecial 66, 3) := by decide +kernel
theorem dX10_init_110 : decode cX10_init 110 = .ok (.putfield 67, 3) := by decide +kernel
theorem dX10_init_113 : decode cX10_init 113 = .ok (.aload_n 0, 1) := by decide +kernel
theorem dX10_init_114 : decode cX10_init 114 = .ok (.new 71, 3) := by decide +kernel
theorem dX10_init_117 : decode cX10_init 117 = .ok (.dup, 1) := by decide +kernel
theorem dX10_init_118 : decode cX10_init 118 = .ok (.aload_n 0, 1) := by decide +kernel
theorem dX10_init_119 : decode cX10_init 119 = .ok (.getfield 51, 3) := by decide +kernel
theorem dX10_init_122 : decode cX10_init 122 = .ok (.invokespecial 73, 3) := by decide +kernel
theorem dX10_init_125 : decode cX10_init 125 = .ok (.putfield 74, 3) := by decide +kernel
theorem dX10_init_128 : decode cX10_init 128 = .ok (.aload_n 0, 1) := by decide +kernel
theorem dX10_init_129 : decode cX10_init 129 = .ok (.new 78, 3) := by decide +kernel
theorem dX10_init_132 : decode cX10_init 132 = .ok (.dup, 1) := by decide +kernel
theorem dX10_init_133 : decode cX10_init 133 = .ok (.invokespecial 80, 3) := by decide +kernel
theorem dX10_init_136 : decode cX10_init 136 = .ok (.putfield 81, 3) := by decide +kernel
theorem dX10_init_139 : decode cX10_init 139 = .ok (.return_, 1) := by decide +kernel
theorem dX10_feed_0 : decode cX10_feed 0 = .ok (.aload_n 0, 1) := by decide +kernel
theorem dX10_feed_1 : decode cX10_feed 1 = .ok (.getfield 26, 3) := by decide +kernel
theorem dX10_feed_4 : decode cX10_feed 4 = .ok (.invokevirtual 85, 3) := by decide +kernel
theorem dX10_feed_7 : decode cX10_feed 7 = .ok (.ifCond .ne 5, 3) := by decide +kernel
theorem dX10_feed_10 : decode cX10_feed 10 = .ok (.iconst (-1), 1) := by decide +kernel
theorem dX10_feed_11 : decode cX10_feed 11 = .ok (.ireturn, 1) := by decide +kernel
theorem dX10_feed_12 : decode cX10_feed 12 = .ok (.aload_n 0, 1) := by decide +kernel
theorem dX10_feed_13 : decode cX10_feed 13 = .ok (.getfield 26, 3) := by decide +kernel
theorem dX10_feed_16 : decode cX10_feed 16 = .ok (.iload_n 1, 1) := by decide +kernel
theorem dX10_feed_17 : decode cX10_feed 17 = .ok (.invokevirtual 89, 3) := by decide +kernel
theorem dX10_feed_20 : decode cX10_feed 20 = .ok (.aload_n 0, 1) := by decide +kernel
theorem dX10_feed_21 : decode cX10_feed 21 = .ok (.getfield 26, 3) := by decide +kernel
theorem dX10_feed_24 : decode cX10_feed 24 = .ok (.iload_n 2, 1) := by decide +kernel
theorem dX10_feed_25 : decode cX10_feed 25 = .ok (.invokevirtual 89, 3) := by decide +kernel
theorem dX10_feed_28 : decode cX10_feed 28 = .ok (.aload_n 0, 1) := by decide +kernel
theorem dX10_feed_29 : decode cX10_feed 29 = .ok (.getfield 26, 3) := by decide +kernel
theorem dX10_feed_32 : decode cX10_feed 32 = .ok (.iload_n 3, 1) := by decide +kernel
theorem dX10_feed_33 : decode cX10_feed 33 = .ok (.invokevirtual 89, 3) := by decide +kernel
theorem dX10_feed_36 : decode cX10_feed 36 = .ok (.aload_n 0, 1) := by decide +kernel
theorem dX10_feed_37 : decode cX10_feed 37 = .ok (.getfield 26, 3) := by decide +kernel
theorem dX10_feed_40 : decode cX10_feed 40 = .ok (.iload 4, 2) := by decide +kernel
theorem dX10_feed_42 : decode cX10_feed 42 = .ok (.invokevirtual 89, 3) := by decide +kernel
theorem dX10_feed_45 : decode cX10_feed 45 = .ok (.aload_n 0, 1) := by decide +kernel
theorem dX10_feed_46 : decode cX10_feed 46 = .ok (.getfield 26, 3) := by decide +kernel
theorem dX10_feed_49 : decode cX10_feed 49 = .ok (.iload 5, 2) := by decide +kernel
theorem dX10_feed_51 : decode cX10_feed 51 = .ok (.invokevirtual 89, 3) := by decide +kernel
theorem dX10_feed_54 : decode cX10_feed 54 = .ok (.aload_n 0, 1) := by decide +kernel
theorem dX10_feed_55 : decode cX10_feed 55 = .ok (.getfield 26, 3) := by decide +kernel
theorem dX10_feed_58 : decode cX10_feed 58 = .ok (.invokevirtual 93, 3) := by decide +kernel
theorem dX10_feed_61 : decode cX10_feed 61 = .ok (.ireturn, 1) := by decide +kernel
theorem dX10_end_0 : decode cX10_end 0 = .ok (.aload_n 0, 1) := by decide +kernel
theorem dX10_end_1 : decode cX10_end 1 = .ok (.getfield 26, 3) := by decide +kernel
theorem dX10_end_4 : decode cX10_end 4 = .ok (.iload_n 1, 1) := by decide +kernel
theorem dX10_end_5 : decode cX10_end 5 = .ok (.invokevirtual 97, 3) := by decide +kernel
theorem dX10_end_8 : decode cX10_end 8 = .ok (.ireturn, 1) := by decide +kernel
theorem dX10_text_0 : decode cX10_text 0 = .ok (.aload_n 0, 1) := by decide +kernel
theorem dX10_text_1 : decode cX10_text 1 = .ok (.getfield 10, 3) := by decide +kernel
theorem dX10_text_4 : decode cX10_text 4 = .ok (.iload_n 1, 1) := by decide +kernel
theorem dX10_text_5 : decode cX10_text 5 = .ok (.invokevirtual 101, 3) := by decide +kernel
theorem dX10_text_8 : decode cX10_text 8 = .ok (.astore_n 2, 1) := by decide +kernel
theorem dX10_text_9 : decode cX10_text 9 = .ok (.aload_n 2, 1) := by decide +kernel
theorem dX10_text_10 : decode cX10_text 10 = .ok (.ifnonnull 12, 3) := by decide +kernel
theorem dX10_text_13 : decode cX10_text 13 = .ok (.aload_n 0, 1) := by decide +kernel
theorem dX10_text_14 : decode cX10_text 14 = .ok (.getfield 26, 3) := by decide +kernel
theorem dX10_text_17 : decode cX10_text 17 = .ok (.invokevirtual 105, 3) := by decide +kernel
theorem dX10_text_20 : decode cX10_text 20 = .ok (.iconst (-1), 1) := by decide +kernel
theorem dX10_text_21 : decode cX10_text 21 = .ok (.ireturn, 1) := by decide +kernel
theorem dX10_text_22 : decode cX10_text 22 = .ok (.aload_n 0, 1) := by decide +kernel
theorem dX10_text_23 : decode cX10_text 23 = .ok (.getfield 26, 3) := by decide +kernel
theorem dX10_text_26 : decode cX10_text 26 = .ok (.invokevirtual 108, 3) := by decide +kernel
theorem dX10_text_29 : decode cX10_text 29 = .ok (.ifCond .ne 5, 3) := by decide +kernel
theorem dX10_text_32 : decode cX10_text 32 = .ok (.iconst (-1), 1) := by decide +kernel
theorem dX10_text_33 : decode cX10_text 33 = .ok (.ireturn, 1) := by decide +kernel
theorem dX10_text_34 : decode cX10_text 34 = .ok (.aload_n 0, 1) := by decide +kernel
theorem dX10_text_35 : decode cX10_text 35 = .ok (.getfield 10, 3) := by decide +kernel
theorem dX10_text_38 : decode cX10_text 38 = .ok (.iload_n 1, 1) := by decide +kernel
theorem dX10_text_39 : decode cX10_text 39 = .ok (.aload_n 0, 1) := by decide +kernel
theorem dX10_text_40 : decode cX10_text 40 = .ok (.getfield 26, 3) := by decide +kernel
theorem dX10_text_43 : decode cX10_text 43 = .ok (.invokevirtual 111, 3) := by decide +kernel
theorem dX10_text_46 : decode cX10_text 46 = .ok (.invokevirtual 115, 3) := by decide +kernel
theorem dX10_text_49 : decode cX10_text 49 = .ok (.aload_n 0, 1) := by decide +kernel
theorem dX10_text_50 : decode cX10_text 50 = .ok (.getfield 26, 3) := by decide +kernel
theorem dX10_text_53 : decode cX10_text 53 = .ok (.invokevirtual 111, 3) := by decide +kernel
theorem dX10_text_56 : decode cX10_text 56 = .ok (.invokevirtual 119, 3) := by decide +kernel
theorem dX10_text_59 : decode cX10_text 59 = .ok (.ireturn, 1) := by decide +kernel
theorem dX10_cube_0 : decode cX10_cube 0 = .ok (.aload_n 0, 1) := by decide +kernel
theorem dX10_cube_1 : decode cX10_cube 1 = .ok (.getfield 10, 3) := by decide +kernel
theorem dX10_cube_4 : decode cX10_cube 4 = .ok (.iload_n 1, 1) := by decide +kernel
theorem dX10_cube_5 : decode cX10_cube 5 = .ok (.invokevirtual 101, 3) := by decide +kernel
theorem dX10_cube_8 : decode cX10_cube 8 = .ok (.astore 5, 2) := by decide +kernel
theorem dX10_cube_10 : decode cX10_cube 10 = .ok (.aload 5, 2) := by decide +kernel
theorem dX10_cube_12 : decode cX10_cube 12 = .ok (.ifnull 15, 3) := by decide +kernel
theorem dX10_cube_15 : decode cX10_cube 15 = .ok (.aload 5, 2) := by decide +kernel
theorem dX10_cube_17 : decode cX10_cube 17 = .ok (.iload_n 2, 1) := by decide +kernel
theorem dX10_cube_18 : decode cX10_cube 18 = .ok (.iload_n 3, 1) := by decide +kernel
theorem dX10_cube_19 : decode cX10_cube 19 = .ok (.iload 4, 2) := by decide +kernel
theorem dX10_cube_21 : decode cX10_cube 21 = .ok (.invokevirtual 128, 3) := by decide +kernel
theorem dX10_cube_24 : decode cX10_cube 24 = .ok (.ifCond .ne 5, 3) := by decide +kernel
theorem dX10_cube_27 : decode cX10_cube 27 = .ok (.iconst (-1), 1) := by decide +kernel
theorem dX10_cube_28 : decode cX10_cube 28 = .ok (.ireturn, 1) := by decide +kernel
theorem dX10_cube_29 : decode cX10_cube 29 = .ok (.aload 5, 2) := by decide +kernel
theorem dX10_cube_31 : decode cX10_cube 31 = .ok (.iload_n 2, 1) := by decide +kernel
theorem dX10_cube_32 : decode cX10_cube 32 = .ok (.iload_n 3, 1) := by decide +kernel
theorem dX10_cube_33 : decode cX10_cube 33 = .ok (.iload 4, 2) := by decide +kernel
theorem dX10_cube_35 : decode cX10_cube 35 = .ok (.invokevirtual 143, 3) := by decide +kernel
theorem dX10_cube_38 : decode cX10_cube 38 = .ok (.ireturn, 1) := by decide +kernel
theorem dX10_of_0 : decode cX10_of 0 = .ok (.aload_n 0, 1) := by decide +kernel
theorem dX10_of_1 : decode cX10_of 1 = .ok (.getfield 10, 3) := by decide +kernel
theorem dX10_of_4 : decode cX10_of 4 = .ok (.iload_n 1, 1) := by decide +kernel
theorem dX10_of_5 : decode cX10_of 5 = .ok (.invokevirtual 101, 3) := by decide +kernel
theorem dX10_of_8 : decode cX10_of 8 = .ok (.astore_n 3, 1) := by decide +kernel
theorem dX10_of_9 : decode cX10_of 9 = .ok (.aload_n 3, 1) := by decide +kernel
theorem dX10_of_10 : decode cX10_of 10 = .ok (.ifnonnull 6, 3) := by decide +kernel
theorem dX10_of_13 : decode cX10_of 13 = .ok (.bipush (-2), 2) := by decide +kernel
theorem dX10_of_15 : decode cX10_of 15 = .ok (.ireturn, 1) := by decide +kernel
theorem dX10_of_16 : decode cX10_of 16 = .ok (.iload_n 2, 1) := by decide +kernel
theorem dX10_of_17 : decode cX10_of 17 = .ok (.tableswitch 244 0 17 #[87, 92, 97, 102, 119, 128, 137, 150, 168, 177, 177, 177, 190, 199, 208, 217, 226, 235], 87) := by decide +kernel
theorem dX10_of_104 : decode cX10_of 104 = .ok (.aload_n 3, 1) := by decide +kernel
theorem dX10_of_105 : decode cX10_of 105 = .ok (.invokevirtual 132, 3) := by decide +kernel
theorem dX10_of_108 : decode cX10_of 108 = .ok (.ireturn, 1) := by decide +kernel
theorem dX10_of_109 : decode cX10_of 109 = .ok (.aload_n 3, 1) := by decide +kernel
theorem dX10_of_110 : decode cX10_of 110 = .ok (.invokevirtual 147, 3) := by decide +kernel
theorem dX10_of_113 : decode cX10_of 113 = .ok (.ireturn, 1) := by decide +kernel
theorem dX10_of_114 : decode cX10_of 114 = .ok (.aload_n 3, 1) := by decide +kernel
theorem dX10_of_115 : decode cX10_of 115 = .ok (.invokevirtual 119, 3) := by decide +kernel
theorem dX10_of_118 : decode cX10_of 118 = .ok (.ireturn, 1) := by decide +kernel
theorem dX10_of_119 : decode cX10_of 119 = .ok (.aload_n 0, 1) := by decide +kernel
theorem dX10_of_120 : decode cX10_of 120 = .ok (.getfield 51, 3) := by decide +kernel
theorem dX10_of_123 : decode cX10_of 123 = .ok (.aload_n 3, 1) := by decide +kernel
theorem dX10_of_124 : decode cX10_of 124 = .ok (.invokevirtual 150, 3) := by decide +kernel
theorem dX10_of_127 : decode cX10_of 127 = .ok (.ifCond .eq 7, 3) := by decide +kernel
theorem dX10_of_130 : decode cX10_of 130 = .ok (.iconst 1, 1) := by decide +kernel
theorem dX10_of_131 : decode cX10_of 131 = .ok (.goto 4, 3) := by decide +kernel
theorem dX10_of_134 : decode cX10_of 134 = .ok (.iconst 0, 1) := by decide +kernel
theorem dX10_of_135 : decode cX10_of 135 = .ok (.ireturn, 1) := by decide +kernel
theorem dX10_of_136 : decode cX10_of 136 = .ok (.aload_n 0, 1) := by decide +kernel
theorem dX10_of_137 : decode cX10_of 137 = .ok (.getfield 51, 3) := by decide +kernel
theorem dX10_of_140 : decode cX10_of 140 = .ok (.aload_n 3, 1) := by decide +kernel
theorem dX10_of_141 : decode cX10_of 141 = .ok (.invokevirtual 154, 3) := by decide +kernel
theorem dX10_of_144 : decode cX10_of 144 = .ok (.ireturn, 1) := by decide +kernel
theorem dX10_of_145 : decode cX10_of 145 = .ok (.aload_n 0, 1) := by decide +kernel
theorem dX10_of_146 : decode cX10_of 146 = .ok (.getfield 51, 3) := by decide +kernel
theorem dX10_of_149 : decode cX10_of 149 = .ok (.aload_n 3, 1) := by decide +kernel
theorem dX10_of_150 : decode cX10_of 150 = .ok (.invokevirtual 158, 3) := by decide +kernel
theorem dX10_of_153 : decode cX10_of 153 = .ok (.ireturn, 1) := by decide +kernel
theorem dX10_of_154 : decode cX10_of 154 = .ok (.aload_n 3, 1) := by decide +kernel
theorem dX10_of_155 : decode cX10_of 155 = .ok (.invokevirtual 161, 3) := by decide +kernel
theorem dX10_of_158 : decode cX10_of 158 = .ok (.ifCond .eq 7, 3) := by decide +kernel
theorem dX10_of_161 : decode cX10_of 161 = .ok (.iconst 1, 1) := by decide +kernel
theorem dX10_of_162 : decode cX10_of 162 = .ok (.goto 4, 3) := by decide +kernel
theorem dX10_of_165 : decode cX10_of 165 = .ok (.iconst 0, 1) := by decide +kernel
theorem dX10_of_166 : decode cX10_of 166 = .ok (.ireturn, 1) := by decide +kernel
theorem dX10_of_167 : decode cX10_of 167 = .ok (.aload_n 0, 1) := by decide +kernel
theorem dX10_of_168 : decode cX10_of 168 = .ok (.getfield 51, 3) := by decide +kernel
theorem dX10_of_171 : decode cX10_of 171 = .ok (.aload_n 3, 1) := by decide +kernel
theorem dX10_of_172 : decode cX10_of 172 = .ok (.invokevirtual 164, 3) := by decide +kernel
theorem dX10_of_175 : decode cX10_of 175 = .ok (.iconst (-1), 1) := by decide +kernel
theorem dX10_of_176 : decode cX10_of 176 = .ok (.if_icmp .ne 7, 3) := by decide +kernel
theorem dX10_of_179 : decode cX10_of 179 = .ok (.iconst 1, 1) := by decide +kernel
theorem dX10_of_180 : decode cX10_of 180 = .ok (.goto 4, 3) := by decide +kernel
theorem dX10_of_183 : decode cX10_of 183 = .ok (.iconst 0, 1) := by decide +kernel
theorem dX10_of_184 : decode cX10_of 184 = .ok (.ireturn, 1) := by decide +kernel
theorem dX10_of_185 : decode cX10_of 185 = .ok (.aload_n 0, 1) := by decide +kernel
theorem dX10_of_186 : decode cX10_of 186 = .ok (.getfield 51, 3) := by decide +kernel
theorem dX10_of_189 : decode cX10_of 189 = .ok (.aload_n 3, 1) := by decide +kernel
theorem dX10_of_190 : decode cX10_of 190 = .ok (.invokevirtual 164, 3) := by decide +kernel
theorem dX10_of_193 : decode cX10_of 193 = .ok (.ireturn, 1) := by decide +kernel
theorem dX10_of_194 : decode cX10_of 194 = .ok (.aload_n 0, 1) := by decide +kernel
theorem dX10_of_195 : decode cX10_of 195 = .ok (.getfield 51, 3) := by decide +kernel
theorem dX10_of_198 : decode cX10_of 198 = .ok (.aload_n 3, 1) := by decide +kernel
theorem dX10_of_199 : decode cX10_of 199 = .ok (.iload_n 2, 1) := by decide +kernel
theorem dX10_of_200 : decode cX10_of 200 = .ok (.bipush 9, 2) := by decide +kernel
theorem dX10_of_202 : decode cX10_of 202 = .ok (.isub, 1) := by decide +kernel
theorem dX10_of_203 : decode cX10_of 203 = .ok (.invokevirtual 167, 3) := by decide +kernel
theorem dX10_of_206 : decode cX10_of 206 = .ok (.ireturn, 1) := by decide +kernel
theorem dX10_of_207 : decode cX10_of 207 = .ok (.aload_n 0, 1) := by decide +kernel
theorem dX10_of_208 : decode cX10_of 208 = .ok (.getfield 51, 3) := by decide +kernel
theorem dX10_of_211 : decode cX10_of 211 = .ok (.aload_n 3, 1) := by decide +kernel
theorem dX10_of_212 : decode cX10_of 212 = .ok (.invokevirtual 171, 3) := by decide +kernel
theorem dX10_of_215 : decode cX10_of 215 = .ok (.ireturn, 1) := by decide +kernel
theorem dX10_of_216 : decode cX10_of 216 = .ok (.aload_n 0, 1) := by decide +kernel
theorem dX10_of_217 : decode cX10_of 217 = .ok (.getfield 51, 3) := by decide +kernel
theorem dX10_of_220 : decode cX10_of 220 = .ok (.aload_n 3, 1) := by decide +kernel
theorem dX10_of_221 : decode cX10_of 221 = .ok (.invokevirtual 174, 3) := by decide +kernel
theorem dX10_of_224 : decode cX10_of 224 = .ok (.ireturn, 1) := by decide +kernel
theorem dX10_of_225 : decode cX10_of 225 = .ok (.aload_n 0, 1) := by decide +kernel
theorem dX10_of_226 : decode cX10_of 226 = .ok (.getfield 42, 3) := by decide +kernel
theorem dX10_of_229 : decode cX10_of 229 = .ok (.aload_n 3, 1) := by decide +kernel
theorem dX10_of_230 : decode cX10_of 230 = .ok (.invokevirtual 177, 3) := by decide +kernel
theorem dX10_of_233 : decode cX10_of 233 = .ok (.ireturn, 1) := by decide +kernel
theorem dX10_of_234 : decode cX10_of 234 = .ok (.aload_n 0, 1) := by decide +kernel
theorem dX10_of_235 : decode cX10_of 235 = .ok (.getfield 51, 3) := by decide +kernel
theorem dX10_of_238 : decode cX10_of 238 = .ok (.aload_n 3, 1) := by decide +kernel
theorem dX10_of_239 : decode cX10_of 239 = .ok (.invokevirtual 180, 3) := by decide +kernel
theorem dX10_of_242 : decode cX10_of 242 = .ok (.ireturn, 1) := by decide +kernel
theorem dX10_of_243 : decode cX10_of 243 = .ok (.aload_n 0, 1) := by decide +kernel
theorem dX10_of_244 : decode cX10_of 244 = .ok (.getfield 42, 3) := by decide +kernel
theorem dX10_of_247 : decode cX10_of 247 = .ok (.aload_n 3, 1) := by decide +kernel
theorem dX10_of_248 : decode cX10_of 248 = .ok (.invokevirtual 183, 3) := by decide +kernel
theorem dX10_of_251 : decode cX10_of 251 = .ok (.ireturn, 1) := by decide +kernel
theorem dX10_of_252 : decode cX10_of 252 = .ok (.aload_n 0, 1) := by decide +kernel
theorem dX10_of_253 : decode cX10_of 253 = .ok (.getfield 42, 3) := by decide +kernel
theorem dX10_of_256 : decode cX10_of 256 = .ok (.aload_n 3, 1) := by decide +kernel
theorem dX10_of_257 : decode cX10_of 257 = .ok (.invokevirtual 186, 3) := by decide +kernel
theorem dX10_of_260 : decode cX10_of 260 = .ok (.ireturn, 1) := by decide +kernel
theorem dX10_of_261 : decode cX10_of 261 = .ok (.bipush (-2), 2) := by decide +kernel
theorem dX10_of_263 : decode cX10_of 263 = .ok (.ireturn, 1) := by decide +kernel
theorem dX10_product_0 : decode cX10_product 0 = .ok (.aload_n 0, 1) := by decide +kernel
theorem dX10_product_1 : decode cX10_product 1 = .ok (.getfield 10, 3) := by decide +kernel
theorem dX10_product_4 : decode cX10_product 4 = .ok (.iload_n 1, 1) := by decide +kernel
theorem dX10_product_5 : decode cX10_product 5 = .ok (.invokevirtual 101, 3) := by decide +kernel
theorem dX10_product_8 : decode cX10_product 8 = .ok (.astore 4, 2) := by decide +kernel
theorem dX10_product_10 : decode cX10_product 10 = .ok (.aload 4, 2) := by decide +kernel
theorem dX10_product_12 : decode cX10_product 12 = .ok (.ifnull 21, 3) := by decide +kernel
theorem dX10_product_15 : decode cX10_product 15 = .ok (.aload 4, 2) := by decide +kernel
theorem dX10_product_17 : decode cX10_product 17 = .ok (.iload_n 2, 1) := by decide +kernel
theorem dX10_product_18 : decode cX10_product 18 = .ok (.invokevirtual 189, 3) := by decide +kernel
theorem dX10_product_21 : decode cX10_product 21 = .ok (.ifCond .eq 12, 3) := by decide +kernel
theorem dX10_product_24 : decode cX10_product 24 = .ok (.aload 4, 2) := by decide +kernel
theorem dX10_product_26 : decode cX10_product 26 = .ok (.iload_n 3, 1) := by decide +kernel
theorem dX10_product_27 : decode cX10_product 27 = .ok (.invokevirtual 189, 3) := by decide +kernel
theorem dX10_product_30 : decode cX10_product 30 = .ok (.ifCond .ne 5, 3) := by decide +kernel
theorem dX10_product_33 : decode cX10_product 33 = .ok (.iconst (-1), 1) := by decide +kernel
theorem dX10_product_34 : decode cX10_product 34 = .ok (.ireturn, 1) := by decide +kernel
theorem dX10_product_35 : decode cX10_product 35 = .ok (.aload 4, 2) := by decide +kernel
theorem dX10_product_37 : decode cX10_product 37 = .ok (.iload_n 2, 1) := by decide +kernel
theorem dX10_product_38 : decode cX10_product 38 = .ok (.iload_n 3, 1) := by decide +kernel
theorem dX10_product_39 : decode cX10_product 39 = .ok (.invokevirtual 192, 3) := by decide +kernel
theorem dX10_product_42 : decode cX10_product 42 = .ok (.ireturn, 1) := by decide +kernel
theorem dX10_look_0 : decode cX10_look 0 = .ok (.iload_n 1, 1) := by decide +kernel
theorem dX10_look_1 : decode cX10_look 1 = .ok (.ifCond .ne 11, 3) := by decide +kernel
theorem dX10_look_4 : decode cX10_look 4 = .ok (.aload_n 0, 1) := by decide +kernel
theorem dX10_look_5 : decode cX10_look 5 = .ok (.getfield 10, 3) := by decide +kernel
theorem dX10_look_8 : decode cX10_look 8 = .ok (.invokevirtual 276, 3) := by decide +kernel
theorem dX10_look_11 : decode cX10_look 11 = .ok (.ireturn, 1) := by decide +kernel
theorem dX10_look_12 : decode cX10_look 12 = .ok (.iload_n 1, 1) := by decide +kernel
theorem dX10_look_13 : decode cX10_look 13 = .ok (.iconst 1, 1) := by decide +kernel
theorem dX10_look_14 : decode cX10_look 14 = .ok (.if_icmp .ne 11, 3) := by decide +kernel
theorem dX10_look_17 : decode cX10_look 17 = .ok (.aload_n 0, 1) := by decide +kernel
theorem dX10_look_18 : decode cX10_look 18 = .ok (.getfield 10, 3) := by decide +kernel
theorem dX10_look_21 : decode cX10_look 21 = .ok (.invokevirtual 279, 3) := by decide +kernel
theorem dX10_look_24 : decode cX10_look 24 = .ok (.ireturn, 1) := by decide +kernel
theorem dX10_look_25 : decode cX10_look 25 = .ok (.iload_n 1, 1) := by decide +kernel
theorem dX10_look_26 : decode cX10_look 26 = .ok (.bipush 10, 2) := by decide +kernel
theorem dX10_look_28 : decode cX10_look 28 = .ok (.if_icmp .ge 7, 3) := by decide +kernel
theorem dX10_look_31 : decode cX10_look 31 = .ok (.iconst (-1), 1) := by decide +kernel
theorem dX10_look_32 : decode cX10_look 32 = .ok (.goto 14, 3) := by decide +kernel
theorem dX10_look_35 : decode cX10_look 35 = .ok (.aload_n 0, 1) := by decide +kernel
theorem dX10_look_36 : decode cX10_look 36 = .ok (.getfield 10, 3) := by decide +kernel
theorem dX10_look_39 : decode cX10_look 39 = .ok (.iload_n 1, 1) := by decide +kernel
theorem dX10_look_40 : decode cX10_look 40 = .ok (.bipush 10, 2) := by decide +kernel
theorem dX10_look_42 : decode cX10_look 42 = .ok (.isub, 1) := by decide +kernel
theorem dX10_look_43 : decode cX10_look 43 = .ok (.invokevirtual 282, 3) := by decide +kernel
theorem dX10_look_46 : decode cX10_look 46 = .ok (.ireturn, 1) := by decide +kernel
