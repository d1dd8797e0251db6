theorem dX4_init_0 : decode cX4_init 0 = .ok (.aload_n 0, 1) := by decide +kernel
theorem dX4_init_1 : decode cX4_init 1 = .ok (.invokespecial 3, 3) := by decide +kernel
theorem dX4_init_4 : decode cX4_init 4 = .ok (.aload_n 0, 1) := by decide +kernel
theorem dX4_init_5 : decode cX4_init 5 = .ok (.sipush 600, 3) := by decide +kernel
theorem dX4_init_8 : decode cX4_init 8 = .ok (.newarray .int, 2) := by decide +kernel
theorem dX4_init_10 : decode cX4_init 10 = .ok (.putfield 11, 3) := by decide +kernel
theorem dX4_init_13 : decode cX4_init 13 = .ok (.aload_n 0, 1) := by decide +kernel
theorem dX4_init_14 : decode cX4_init 14 = .ok (.iconst 0, 1) := by decide +kernel
theorem dX4_init_15 : decode cX4_init 15 = .ok (.putfield 15, 3) := by decide +kernel
theorem dX4_init_18 : decode cX4_init 18 = .ok (.aload_n 0, 1) := by decide +kernel
theorem dX4_init_19 : decode cX4_init 19 = .ok (.iconst 0, 1) := by decide +kernel
theorem dX4_init_20 : decode cX4_init 20 = .ok (.putfield 19, 3) := by decide +kernel
theorem dX4_init_23 : decode cX4_init 23 = .ok (.aload_n 0, 1) := by decide +kernel
theorem dX4_init_24 : decode cX4_init 24 = .ok (.iconst 0, 1) := by decide +kernel
theorem dX4_init_25 : decode cX4_init 25 = .ok (.putfield 22, 3) := by decide +kernel
theorem dX4_init_28 : decode cX4_init 28 = .ok (.aload_n 0, 1) := by decide +kernel
theorem dX4_init_29 : decode cX4_init 29 = .ok (.iconst 0, 1) := by decide +kernel
theorem dX4_init_30 : decode cX4_init 30 = .ok (.putfield 25, 3) := by decide +kernel
theorem dX4_init_33 : decode cX4_init 33 = .ok (.aload_n 0, 1) := by decide +kernel
theorem dX4_init_34 : decode cX4_init 34 = .ok (.iconst 0, 1) := by decide +kernel
theorem dX4_init_35 : decode cX4_init 35 = .ok (.putfield 28, 3) := by decide +kernel
theorem dX4_init_38 : decode cX4_init 38 = .ok (.aload_n 0, 1) := by decide +kernel
theorem dX4_init_39 : decode cX4_init 39 = .ok (.iconst 0, 1) := by decide +kernel
theorem dX4_init_40 : decode cX4_init 40 = .ok (.putfield 31, 3) := by decide +kernel
theorem dX4_init_43 : decode cX4_init 43 = .ok (.aload_n 0, 1) := by decide +kernel
theorem dX4_init_44 : decode cX4_init 44 = .ok (.iconst (-1), 1) := by decide +kernel
theorem dX4_init_45 : decode cX4_init 45 = .ok (.putfield 34, 3) := by decide +kernel
theorem dX4_init_48 : decode cX4_init 48 = .ok (.aload_n 0, 1) := by decide +kernel
theorem dX4_init_49 : decode cX4_init 49 = .ok (.iconst 0, 1) := by decide +kernel
theorem dX4_init_50 : decode cX4_init 50 = .ok (.putfield 37, 3) := by decide +kernel
theorem dX4_init_53 : decode cX4_init 53 = .ok (.aload_n 0, 1) := by decide +kernel
theorem dX4_init_54 : decode cX4_init 54 = .ok (.iconst 0, 1) := by decide +kernel
theorem dX4_init_55 : decode cX4_init 55 = .ok (.putfield 40, 3) := by decide +kernel
theorem dX4_init_58 : decode cX4_init 58 = .ok (.aload_n 0, 1) := by decide +kernel
theorem dX4_init_59 : decode cX4_init 59 = .ok (.new 44, 3) := by decide +kernel
theorem dX4_init_62 : decode cX4_init 62 = .ok (.dup, 1) := by decide +kernel
theorem dX4_init_63 : decode cX4_init 63 = .ok (.invokespecial 46, 3) := by decide +kernel
theorem dX4_init_66 : decode cX4_init 66 = .ok (.putfield 47, 3) := by decide +kernel
theorem dX4_init_69 : decode cX4_init 69 = .ok (.aload_n 0, 1) := by decide +kernel
theorem dX4_init_70 : decode cX4_init 70 = .ok (.new 44, 3) := by decide +kernel
theorem dX4_init_73 : decode cX4_init 73 = .ok (.dup, 1) := by decide +kernel
theorem dX4_init_74 : decode cX4_init 74 = .ok (.invokespecial 46, 3) := by decide +kernel
theorem dX4_init_77 : decode cX4_init 77 = .ok (.putfield 51, 3) := by decide +kernel
theorem dX4_init_80 : decode cX4_init 80 = .ok (.aload_n 0, 1) := by decide +kernel
theorem dX4_init_81 : decode cX4_init 81 = .ok (.new 44, 3) := by decide +kernel
theorem dX4_init_84 : decode cX4_init 84 = .ok (.dup, 1) := by decide +kernel
theorem dX4_init_85 : decode cX4_init 85 = .ok (.invokespecial 46, 3) := by decide +kernel
theorem dX4_init_88 : decode cX4_init 88 = .ok (.putfield 54, 3) := by decide +kernel
theorem dX4_init_91 : decode cX4_init 91 = .ok (.aload_n 0, 1) := by decide +kernel
theorem dX4_init_92 : decode cX4_init 92 = .ok (.iconst 5, 1) := by decide +kernel
theorem dX4_init_93 : decode cX4_init 93 = .ok (.newarray .int, 2) := by decide +kernel
theorem dX4_init_95 : decode cX4_init 95 = .ok (.putfield 57, 3) := by decide +kernel
theorem dX4_init_98 : decode cX4_init 98 = .ok (.aload_n 0, 1) := by decide +kernel
theorem dX4_init_99 : decode cX4_init 99 = .ok (.iconst 5, 1) := by decide +kernel
theorem dX4_init_100 : decode cX4_init 100 = .ok (.newarray .int, 2) := by decide +kernel
theorem dX4_init_102 : decode cX4_init 102 = .ok (.putfield 60, 3) := by decide +kernel
theorem dX4_init_105 : decode cX4_init 105 = .ok (.aload_n 0, 1) := by decide +kernel
theorem dX4_init_106 : decode cX4_init 106 = .ok (.iconst 5, 1) := by decide +kernel
theorem dX4_init_107 : decode cX4_init 107 = .ok (.newarray .int, 2) := by decide +kernel
theorem dX4_init_109 : decode cX4_init 109 = .ok (.putfield 63, 3) := by decide +kernel
theorem dX4_init_112 : decode cX4_init 112 = .ok (.return_, 1) := by decide +kernel
theorem dX4_hasRoom_0 : decode cX4_hasRoom 0 = .ok (.aload_n 0, 1) := by decide +kernel
theorem dX4_hasRoom_1 : decode cX4_hasRoom 1 = .ok (.getfield 15, 3) := by decide +kernel
theorem dX4_hasRoom_4 : decode cX4_hasRoom 4 = .ok (.bipush 20, 2) := by decide +kernel
theorem dX4_hasRoom_6 : decode cX4_hasRoom 6 = .ok (.iadd, 1) := by decide +kernel
theorem dX4_hasRoom_7 : decode cX4_hasRoom 7 = .ok (.sipush 600, 3) := by decide +kernel
theorem dX4_hasRoom_10 : decode cX4_hasRoom 10 = .ok (.if_icmp .gt 7, 3) := by decide +kernel
theorem dX4_hasRoom_13 : decode cX4_hasRoom 13 = .ok (.iconst 1, 1) := by decide +kernel
theorem dX4_hasRoom_14 : decode cX4_hasRoom 14 = .ok (.goto 4, 3) := by decide +kernel
theorem dX4_hasRoom_17 : decode cX4_hasRoom 17 = .ok (.iconst 0, 1) := by decide +kernel
theorem dX4_hasRoom_18 : decode cX4_hasRoom 18 = .ok (.ireturn, 1) := by decide +kernel
theorem dX4_takeNumber_0 : decode cX4_takeNumber 0 = .ok (.bipush 24, 2) := by decide +kernel
theorem dX4_takeNumber_2 : decode cX4_takeNumber 2 = .ok (.istore_n 2, 1) := by decide +kernel
theorem dX4_takeNumber_3 : decode cX4_takeNumber 3 = .ok (.iload_n 2, 1) := by decide +kernel
theorem dX4_takeNumber_4 : decode cX4_takeNumber 4 = .ok (.ifCond .lt 45, 3) := by decide +kernel
theorem dX4_takeNumber_7 : decode cX4_takeNumber 7 = .ok (.aload_n 0, 1) := by decide +kernel
theorem dX4_takeNumber_8 : decode cX4_takeNumber 8 = .ok (.getfield 15, 3) := by decide +kernel
theorem dX4_takeNumber_11 : decode cX4_takeNumber 11 = .ok (.sipush 600, 3) := by decide +kernel
theorem dX4_takeNumber_14 : decode cX4_takeNumber 14 = .ok (.if_icmp .ge 35, 3) := by decide +kernel
theorem dX4_takeNumber_17 : decode cX4_takeNumber 17 = .ok (.aload_n 0, 1) := by decide +kernel
theorem dX4_takeNumber_18 : decode cX4_takeNumber 18 = .ok (.getfield 11, 3) := by decide +kernel
theorem dX4_takeNumber_21 : decode cX4_takeNumber 21 = .ok (.aload_n 0, 1) := by decide +kernel
theorem dX4_takeNumber_22 : decode cX4_takeNumber 22 = .ok (.getfield 15, 3) := by decide +kernel
theorem dX4_takeNumber_25 : decode cX4_takeNumber 25 = .ok (.iload_n 1, 1) := by decide +kernel
theorem dX4_takeNumber_26 : decode cX4_takeNumber 26 = .ok (.iload_n 2, 1) := by decide +kernel
theorem dX4_takeNumber_27 : decode cX4_takeNumber 27 = .ok (.iushr, 1) := by decide +kernel
theorem dX4_takeNumber_28 : decode cX4_takeNumber 28 = .ok (.sipush 255, 3) := by decide +kernel
theorem dX4_takeNumber_31 : decode cX4_takeNumber 31 = .ok (.iand, 1) := by decide +kernel
theorem dX4_takeNumber_32 : decode cX4_takeNumber 32 = .ok (.iastore, 1) := by decide +kernel
theorem dX4_takeNumber_33 : decode cX4_takeNumber 33 = .ok (.aload_n 0, 1) := by decide +kernel
theorem dX4_takeNumber_34 : decode cX4_takeNumber 34 = .ok (.dup, 1) := by decide +kernel
theorem dX4_takeNumber_35 : decode cX4_takeNumber 35 = .ok (.getfield 15, 3) := by decide +kernel
theorem dX4_takeNumber_38 : decode cX4_takeNumber 38 = .ok (.iconst 1, 1) := by decide +kernel
theorem dX4_takeNumber_39 : decode cX4_takeNumber 39 = .ok (.iadd, 1) := by decide +kernel
theorem dX4_takeNumber_40 : decode cX4_takeNumber 40 = .ok (.putfield 15, 3) := by decide +kernel
theorem dX4_takeNumber_43 : decode cX4_takeNumber 43 = .ok (.iinc 2 (-8), 3) := by decide +kernel
theorem dX4_takeNumber_46 : decode cX4_takeNumber 46 = .ok (.goto (-43), 3) := by decide +kernel
theorem dX4_takeNumber_49 : decode cX4_takeNumber 49 = .ok (.return_, 1) := by decide +kernel
theorem dX4_length_0 : decode cX4_length 0 = .ok (.aload_n 0, 1) := by decide +kernel
theorem dX4_length_1 : decode cX4_length 1 = .ok (.getfield 15, 3) := by decide +kernel
theorem dX4_length_4 : decode cX4_length 4 = .ok (.ireturn, 1) := by decide +kernel
theorem dX4_cutAt_0 : decode cX4_cutAt 0 = .ok (.iload_n 1, 1) := by decide +kernel
theorem dX4_cutAt_1 : decode cX4_cutAt 1 = .ok (.ifCond .lt 11, 3) := by decide +kernel
theorem dX4_cutAt_4 : decode cX4_cutAt 4 = .ok (.iload_n 1, 1) := by decide +kernel
theorem dX4_cutAt_5 : decode cX4_cutAt 5 = .ok (.aload_n 0, 1) := by decide +kernel
theorem dX4_cutAt_6 : decode cX4_cutAt 6 = .ok (.getfield 15, 3) := by decide +kernel
theorem dX4_cutAt_9 : decode cX4_cutAt 9 = .ok (.if_icmp .le 5, 3) := by decide +kernel
theorem dX4_cutAt_12 : decode cX4_cutAt 12 = .ok (.iconst 0, 1) := by decide +kernel
theorem dX4_cutAt_13 : decode cX4_cutAt 13 = .ok (.ireturn, 1) := by decide +kernel
theorem dX4_cutAt_14 : decode cX4_cutAt 14 = .ok (.aload_n 0, 1) := by decide +kernel
theorem dX4_cutAt_15 : decode cX4_cutAt 15 = .ok (.iload_n 1, 1) := by decide +kernel
theorem dX4_cutAt_16 : decode cX4_cutAt 16 = .ok (.putfield 15, 3) := by decide +kernel
theorem dX4_cutAt_19 : decode cX4_cutAt 19 = .ok (.iconst 1, 1) := by decide +kernel
theorem dX4_cutAt_20 : decode cX4_cutAt 20 = .ok (.ireturn, 1) := by decide +kernel
theorem dX4_forget_0 : decode cX4_forget 0 = .ok (.aload_n 0, 1) := by decide +kernel
theorem dX4_forget_1 : decode cX4_forget 1 = .ok (.iconst 0, 1) := by decide +kernel
theorem dX4_forget_2 : decode cX4_forget 2 = .ok (.putfield 15, 3) := by decide +kernel
theorem dX4_forget_5 : decode cX4_forget 5 = .ok (.aload_n 0, 1) := by decide +kernel
theorem dX4_forget_6 : decode cX4_forget 6 = .ok (.iconst 0, 1) := by decide +kernel
theorem dX4_forget_7 : decode cX4_forget 7 = .ok (.putfield 31, 3) := by decide +kernel
theorem dX4_forget_10 : decode cX4_forget 10 = .ok (.aload_n 0, 1) := by decide +kernel
theorem dX4_forget_11 : decode cX4_forget 11 = .ok (.iconst (-1), 1) := by decide +kernel
theorem dX4_forget_12 : decode cX4_forget 12 = .ok (.putfield 34, 3) := by decide +kernel
theorem dX4_forget_15 : decode cX4_forget 15 = .ok (.return_, 1) := by decide +kernel
theorem dX4_told_0 : decode cX4_told 0 = .ok (.aload_n 0, 1) := by decide +kernel
theorem dX4_told_1 : decode cX4_told 1 = .ok (.getfield 47, 3) := by decide +kernel
theorem dX4_told_4 : decode cX4_told 4 = .ok (.areturn, 1) := by decide +kernel
theorem dX4_read_0 : decode cX4_read 0 = .ok (.aload_n 0, 1) := by decide +kernel
theorem dX4_read_1 : decode cX4_read 1 = .ok (.iconst 0, 1) := by decide +kernel
theorem dX4_read_2 : decode cX4_read 2 = .ok (.putfield 31, 3) := by decide +kernel
theorem dX4_read_5 : decode cX4_read 5 = .ok (.aload_n 0, 1) := by decide +kernel
theorem dX4_read_6 : decode cX4_read 6 = .ok (.iconst (-1), 1) := by decide +kernel
theorem dX4_read_7 : decode cX4_read 7 = .ok (.putfield 34, 3) := by decide +kernel
theorem dX4_read_10 : decode cX4_read 10 = .ok (.aload_n 0, 1) := by decide +kernel
theorem dX4_read_11 : decode cX4_read 11 = .ok (.iconst 0, 1) := by decide +kernel
theorem dX4_read_12 : decode cX4_read 12 = .ok (.putfield 19, 3) := by decide +kernel
theorem dX4_read_15 : decode cX4_read 15 = .ok (.aload_n 0, 1) := by decide +kernel
theorem dX4_read_16 : decode cX4_read 16 = .ok (.iconst 0, 1) := by decide +kernel
theorem dX4_read_17 : decode cX4_read 17 = .ok (.putfield 37, 3) := by decide +kernel
theorem dX4_read_20 : decode cX4_read 20 = .ok (.aload_n 0, 1) := by decide +kernel
theorem dX4_read_21 : decode cX4_read 21 = .ok (.iconst 0, 1) := by decide +kernel
theorem dX4_read_22 : decode cX4_read 22 = .ok (.putfield 40, 3) := by decide +kernel
theorem dX4_read_25 : decode cX4_read 25 = .ok (.aload_n 0, 1) := by decide +kernel
theorem dX4_read_26 : decode cX4_read 26 = .ok (.getfield 47, 3) := by decide +kernel
theorem dX4_read_29 : decode cX4_read 29 = .ok (.iconst 2, 1) := by decide +kernel
theorem dX4_read_30 : decode cX4_read 30 = .ok (.iconst 1, 1) := by decide +kernel
theorem dX4_read_31 : decode cX4_read 31 = .ok (.invokevirtual 66, 3) := by decide +kernel
theorem dX4_read_34 : decode cX4_read 34 = .ok (.aload_n 0, 1) := by decide +kernel
theorem dX4_read_35 : decode cX4_read 35 = .ok (.invokevirtual 70, 3) := by decide +kernel
theorem dX4_read_38 : decode cX4_read 38 = .ok (.iconst 0, 1) := by decide +kernel
theorem dX4_read_39 : decode cX4_read 39 = .ok (.istore_n 1, 1) := by decide +kernel
theorem dX4_read_40 : decode cX4_read 40 = .ok (.iload_n 1, 1) := by decide +kernel
theorem dX4_read_41 : decode cX4_read 41 = .ok (.sipush 600, 3) := by decide +kernel
theorem dX4_read_44 : decode cX4_read 44 = .ok (.if_icmp .gt 27, 3) := by decide +kernel
theorem dX4_read_47 : decode cX4_read 47 = .ok (.aload_n 0, 1) := by decide +kernel
theorem dX4_read_48 : decode cX4_read 48 = .ok (.getfield 22, 3) := by decide +kernel
theorem dX4_read_51 : decode cX4_read 51 = .ok (.ifCond .eq 20, 3) := by decide +kernel
theorem dX4_read_54 : decode cX4_read 54 = .ok (.aload_n 0, 1) := by decide +kernel
theorem dX4_read_55 : decode cX4_read 55 = .ok (.getfield 31, 3) := by decide +kernel
theorem dX4_read_58 : decode cX4_read 58 = .ok (.ifCond .ne 13, 3) := by decide +kernel
theorem dX4_read_61 : decode cX4_read 61 = .ok (.aload_n 0, 1) := by decide +kernel
theorem dX4_read_62 : decode cX4_read 62 = .ok (.invokevirtual 73, 3) := by decide +kernel
theorem dX4_read_65 : decode cX4_read 65 = .ok (.iinc 1 1, 3) := by decide +kernel
theorem dX4_read_68 : decode cX4_read 68 = .ok (.goto (-28), 3) := by decide +kernel
theorem dX4_read_71 : decode cX4_read 71 = .ok (.aload_n 0, 1) := by decide +kernel
theorem dX4_read_72 : decode cX4_read 72 = .ok (.iconst 0, 1) := by decide +kernel
theorem dX4_read_73 : decode cX4_read 73 = .ok (.putfield 15, 3) := by decide +kernel
theorem dX4_read_76 : decode cX4_read 76 = .ok (.aload_n 0, 1) := by decide +kernel
theorem dX4_read_77 : decode cX4_read 77 = .ok (.getfield 31, 3) := by decide +kernel
theorem dX4_read_80 : decode cX4_read 80 = .ok (.ifCond .ne 7, 3) := by decide +kernel
theorem dX4_read_83 : decode cX4_read 83 = .ok (.iconst 1, 1) := by decide +kernel
theorem dX4_read_84 : decode cX4_read 84 = .ok (.goto 4, 3) := by decide +kernel
theorem dX4_read_87 : decode cX4_read 87 = .ok (.iconst 0, 1) := by decide +kernel
theorem dX4_read_88 : decode cX4_read 88 = .ok (.ireturn, 1) := by decide +kernel
theorem dX4_fail_0 : decode cX4_fail 0 = .ok (.aload_n 0, 1) := by decide +kernel
theorem dX4_fail_1 : decode cX4_fail 1 = .ok (.iload_n 1, 1) := by decide +kernel
theorem dX4_fail_2 : decode cX4_fail 2 = .ok (.putfield 31, 3) := by decide +kernel
theorem dX4_fail_5 : decode cX4_fail 5 = .ok (.aload_n 0, 1) := by decide +kernel
theorem dX4_fail_6 : decode cX4_fail 6 = .ok (.aload_n 0, 1) := by decide +kernel
theorem dX4_fail_7 : decode cX4_fail 7 = .ok (.getfield 25, 3) := by decide +kernel
theorem dX4_fail_10 : decode cX4_fail 10 = .ok (.putfield 34, 3) := by decide +kernel
theorem dX4_fail_13 : decode cX4_fail 13 = .ok (.iconst 0, 1) := by decide +kernel
theorem dX4_fail_14 : decode cX4_fail 14 = .ok (.ireturn, 1) := by decide +kernel
theorem dX4_statement_0 : decode cX4_statement 0 = .ok (.aload_n 0, 1) := by decide +kernel
theorem dX4_statement_1 : decode cX4_statement 1 = .ok (.ldc 76, 2) := by decide +kernel
theorem dX4_statement_3 : decode cX4_statement 3 = .ok (.invokevirtual 78, 3) := by decide +kernel
theorem dX4_statement_6 : decode cX4_statement 6 = .ok (.istore_n 1, 1) := by decide +kernel
theorem dX4_statement_7 : decode cX4_statement 7 = .ok (.aload_n 0, 1) := by decide +kernel
theorem dX4_statement_8 : decode cX4_statement 8 = .ok (.ldc 82, 2) := by decide +kernel
theorem dX4_statement_10 : decode cX4_statement 10 = .ok (.invokevirtual 78, 3) := by decide +kernel
theorem dX4_statement_13 : decode cX4_statement 13 = .ok (.istore_n 2, 1) := by decide +kernel
theorem dX4_statement_14 : decode cX4_statement 14 = .ok (.aload_n 0, 1) := by decide +kernel
theorem dX4_statement_15 : decode cX4_statement 15 = .ok (.ldc 84, 2) := by decide +kernel
theorem dX4_statement_17 : decode cX4_statement 17 = .ok (.invokevirtual 78, 3) := by decide +kernel
theorem dX4_statement_20 : decode cX4_statement 20 = .ok (.istore_n 3, 1) := by decide +kernel
theorem dX4_statement_21 : decode cX4_statement 21 = .ok (.aload_n 0, 1) := by decide +kernel
theorem dX4_statement_22 : decode cX4_statement 22 = .ok (.ldc 85, 2) := by decide +kernel
theorem dX4_statement_24 : decode cX4_statement 24 = .ok (.invokevirtual 78, 3) := by decide +kernel
theorem dX4_statement_27 : decode cX4_statement 27 = .ok (.istore 4, 2) := by decide +kernel
theorem dX4_statement_29 : decode cX4_statement 29 = .ok (.iload_n 1, 1) := by decide +kernel
theorem dX4_statement_30 : decode cX4_statement 30 = .ok (.ifCond .ne 25, 3) := by decide +kernel
theorem dX4_statement_33 : decode cX4_statement 33 = .ok (.iload_n 2, 1) := by decide +kernel
theorem dX4_statement_34 : decode cX4_statement 34 = .ok (.ifCond .ne 21, 3) := by decide +kernel
theorem dX4_statement_37 : decode cX4_statement 37 = .ok (.iload_n 3, 1) := by decide +kernel
theorem dX4_statement_38 : decode cX4_statement 38 = .ok (.ifCond .ne 17, 3) := by decide +kernel
theorem dX4_statement_41 : decode cX4_statement 41 = .ok (.iload 4, 2) := by decide +kernel
theorem dX4_statement_43 : decode cX4_statement 43 = .ok (.ifCond .ne 12, 3) := by decide +kernel
theorem dX4_statement_46 : decode cX4_statement 46 = .ok (.aload_n 0, 1) := by decide +kernel
theorem dX4_statement_47 : decode cX4_statement 47 = .ok (.ldc 87, 2) := by decide +kernel
theorem dX4_statement_49 : decode cX4_statement 49 = .ok (.invokevirtual 78, 3) := by decide +kernel
theorem dX4_statement_52 : decode cX4_statement 52 = .ok (.ifCond .eq 7, 3) := by decide +kernel
theorem dX4_statement_55 : decode cX4_statement 55 = .ok (.iconst 1, 1) := by decide +kernel
theorem dX4_statement_56 : decode cX4_statement 56 = .ok (.goto 4, 3) := by decide +kernel
theorem dX4_statement_59 : decode cX4_statement 59 = .ok (.iconst 0, 1) := by decide +kernel
theorem dX4_statement_60 : decode cX4_statement 60 = .ok (.istore 5, 2) := by decide +kernel
theorem dX4_statement_62 : decode cX4_statement 62 = .ok (.iload 5, 2) := by decide +kernel
theorem dX4_statement_64 : decode cX4_statement 64 = .ok (.ifCond .eq 30, 3) := by decide +kernel
theorem dX4_statement_67 : decode cX4_statement 67 = .ok (.iload_n 1, 1) := by decide +kernel
theorem dX4_statement_68 : decode cX4_statement 68 = .ok (.aload_n 0, 1) := by decide +kernel
theorem dX4_statement_69 : decode cX4_statement 69 = .ok (.getfield 37, 3) := by decide +kernel
theorem dX4_statement_72 : decode cX4_statement 72 = .ok (.ifCond .ne 7, 3) := by decide +kernel
theorem dX4_statement_75 : decode cX4_statement 75 = .ok (.iconst 1, 1) := by decide +kernel
theorem dX4_statement_76 : decode cX4_statement 76 = .ok (.goto 4, 3) := by decide +kernel
theorem dX4_statement_79 : decode cX4_statement 79 = .ok (.iconst 0, 1) := by decide +kernel
theorem dX4_statement_80 : decode cX4_statement 80 = .ok (.if_icmp .ne 14, 3) := by decide +kernel
theorem dX4_statement_83 : decode cX4_statement 83 = .ok (.iload_n 2, 1) := by decide +kernel
theorem dX4_statement_84 : decode cX4_statement 84 = .ok (.ifCond .eq 17, 3) := by decide +kernel
theorem dX4_statement_87 : decode cX4_statement 87 = .ok (.aload_n 0, 1) := by decide +kernel
theorem dX4_statement_88 : decode cX4_statement 88 = .ok (.getfield 40, 3) := by decide +kernel
theorem dX4_statement_91 : decode cX4_statement 91 = .ok (.ifCond .ne 10, 3) := by decide +kernel
theorem dX4_statement_94 : decode cX4_statement 94 = .ok (.aload_n 0, 1) := by decide +kernel
theorem dX4_statement_95 : decode cX4_statement 95 = .ok (.iconst 1, 1) := by decide +kernel
theorem dX4_statement_96 : decode cX4_statement 96 = .ok (.invokevirtual 89, 3) := by decide +kernel
theorem dX4_statement_99 : decode cX4_statement 99 = .ok (.pop, 1) := by decide +kernel
theorem dX4_statement_100 : decode cX4_statement 100 = .ok (.return_, 1) := by decide +kernel
theorem dX4_statement_101 : decode cX4_statement 101 = .ok (.aload_n 0, 1) := by decide +kernel
theorem dX4_statement_102 : decode cX4_statement 102 = .ok (.getfield 37, 3) := by decide +kernel
theorem dX4_statement_105 : decode cX4_statement 105 = .ok (.bipush 40, 2) := by decide +kernel
theorem dX4_statement_107 : decode cX4_statement 107 = .ok (.if_icmp .lt 10, 3) := by decide +kernel
theorem dX4_statement_110 : decode cX4_statement 110 = .ok (.aload_n 0, 1) := by decide +kernel
theorem dX4_statement_111 : decode cX4_statement 111 = .ok (.iconst 3, 1) := by decide +kernel
theorem dX4_statement_112 : decode cX4_statement 112 = .ok (.invokevirtual 89, 3) := by decide +kernel
theorem dX4_statement_115 : decode cX4_statement 115 = .ok (.pop, 1) := by decide +kernel
theorem dX4_statement_116 : decode cX4_statement 116 = .ok (.return_, 1) := by decide +kernel
theorem dX4_statement_117 : decode cX4_statement 117 = .ok (.aload_n 0, 1) := by decide +kernel
theorem dX4_statement_118 : decode cX4_statement 118 = .ok (.dup, 1) := by decide +kernel
theorem dX4_statement_119 : decode cX4_statement 119 = .ok (.getfield 37, 3) := by decide +kernel
theorem dX4_statement_122 : decode cX4_statement 122 = .ok (.iconst 1, 1) := by decide +kernel
theorem dX4_statement_123 : decode cX4_statement 123 = .ok (.iadd, 1) := by decide +kernel
theorem dX4_statement_124 : decode cX4_statement 124 = .ok (.putfield 37, 3) := by decide +kernel
theorem dX4_statement_127 : decode cX4_statement 127 = .ok (.iload_n 1, 1) := by decide +kernel
theorem dX4_statement_128 : decode cX4_statement 128 = .ok (.ifCond .eq 10, 3) := by decide +kernel
theorem dX4_statement_131 : decode cX4_statement 131 = .ok (.aload_n 0, 1) := by decide +kernel
theorem dX4_statement_132 : decode cX4_statement 132 = .ok (.invokevirtual 93, 3) := by decide +kernel
theorem dX4_statement_135 : decode cX4_statement 135 = .ok (.goto 41, 3) := by decide +kernel
theorem dX4_statement_138 : decode cX4_statement 138 = .ok (.iload_n 2, 1) := by decide +kernel
theorem dX4_statement_139 : decode cX4_statement 139 = .ok (.ifCond .eq 10, 3) := by decide +kernel
theorem dX4_statement_142 : decode cX4_statement 142 = .ok (.aload_n 0, 1) := by decide +kernel
theorem dX4_statement_143 : decode cX4_statement 143 = .ok (.invokevirtual 96, 3) := by decide +kernel
theorem dX4_statement_146 : decode cX4_statement 146 = .ok (.goto 30, 3) := by decide +kernel
theorem dX4_statement_149 : decode cX4_statement 149 = .ok (.iload_n 3, 1) := by decide +kernel
theorem dX4_statement_150 : decode cX4_statement 150 = .ok (.ifCond .eq 10, 3) := by decide +kernel
theorem dX4_statement_153 : decode cX4_statement 153 = .ok (.aload_n 0, 1) := by decide +kernel
theorem dX4_statement_154 : decode cX4_statement 154 = .ok (.invokevirtual 98, 3) := by decide +kernel
theorem dX4_statement_157 : decode cX4_statement 157 = .ok (.goto 19, 3) := by decide +kernel
theorem dX4_statement_160 : decode cX4_statement 160 = .ok (.iload 4, 2) := by decide +kernel
theorem dX4_statement_162 : decode cX4_statement 162 = .ok (.ifCond .eq 10, 3) := by decide +kernel
theorem dX4_statement_165 : decode cX4_statement 165 = .ok (.aload_n 0, 1) := by decide +kernel
theorem dX4_statement_166 : decode cX4_statement 166 = .ok (.invokevirtual 101, 3) := by decide +kernel
theorem dX4_statement_169 : decode cX4_statement 169 = .ok (.goto 7, 3) := by decide +kernel
theorem dX4_statement_172 : decode cX4_statement 172 = .ok (.aload_n 0, 1) := by decide +kernel
theorem dX4_statement_173 : decode cX4_statement 173 = .ok (.invokevirtual 104, 3) := by decide +kernel
theorem dX4_statement_176 : decode cX4_statement 176 = .ok (.istore 6, 2) := by decide +kernel
theorem dX4_statement_178 : decode cX4_statement 178 = .ok (.iload 6, 2) := by decide +kernel
theorem dX4_statement_180 : decode cX4_statement 180 = .ok (.ifCond .eq 15, 3) := by decide +kernel
theorem dX4_statement_183 : decode cX4_statement 183 = .ok (.aload_n 0, 1) := by decide +kernel
theorem dX4_statement_184 : decode cX4_statement 184 = .ok (.iconst 3, 1) := by decide +kernel
theorem dX4_statement_185 : decode cX4_statement 185 = .ok (.invokevirtual 107, 3) := by decide +kernel
theorem dX4_statement_188 : decode cX4_statement 188 = .ok (.ifCond .eq 7, 3) := by decide +kernel
theorem dX4_statement_191 : decode cX4_statement 191 = .ok (.aload_n 0, 1) := by decide +kernel
theorem dX4_statement_192 : decode cX4_statement 192 = .ok (.invokevirtual 70, 3) := by decide +kernel
theorem dX4_statement_195 : decode cX4_statement 195 = .ok (.return_, 1) := by decide +kernel
theorem dX4_expect_0 : decode cX4_expect 0 = .ok (.aload_n 0, 1) := by decide +kernel
theorem dX4_expect_1 : decode cX4_expect 1 = .ok (.getfield 22, 3) := by decide +kernel
theorem dX4_expect_4 : decode cX4_expect 4 = .ok (.iload_n 1, 1) := by decide +kernel
theorem dX4_expect_5 : decode cX4_expect 5 = .ok (.if_icmp .eq 11, 3) := by decide +kernel
theorem dX4_expect_8 : decode cX4_expect 8 = .ok (.aload_n 0, 1) := by decide +kernel
theorem dX4_expect_9 : decode cX4_expect 9 = .ok (.iconst 1, 1) := by decide +kernel
theorem dX4_expect_10 : decode cX4_expect 10 = .ok (.invokevirtual 89, 3) := by decide +kernel
theorem dX4_expect_13 : decode cX4_expect 13 = .ok (.ifCond .eq 7, 3) := by decide +kernel
theorem dX4_expect_16 : decode cX4_expect 16 = .ok (.iconst 1, 1) := by decide +kernel
theorem dX4_expect_17 : decode cX4_expect 17 = .ok (.goto 4, 3) := by decide +kernel
theorem dX4_expect_20 : decode cX4_expect 20 = .ok (.iconst 0, 1) := by decide +kernel
theorem dX4_expect_21 : decode cX4_expect 21 = .ok (.ireturn, 1) := by decide +kernel
theorem dX4_numberBelow_0 : decode cX4_numberBelow 0 = .ok (.aload_n 0, 1) := by decide +kernel
theorem dX4_numberBelow_1 : decode cX4_numberBelow 1 = .ok (.invokevirtual 70, 3) := by decide +kernel
theorem dX4_numberBelow_4 : decode cX4_numberBelow 4 = .ok (.aload_n 0, 1) := by decide +kernel
theorem dX4_numberBelow_5 : decode cX4_numberBelow 5 = .ok (.iconst 2, 1) := by decide +kernel
theorem dX4_numberBelow_6 : decode cX4_numberBelow 6 = .ok (.invokevirtual 107, 3) := by decide +kernel
theorem dX4_numberBelow_9 : decode cX4_numberBelow 9 = .ok (.ifCond .ne 5, 3) := by decide +kernel
theorem dX4_numberBelow_12 : decode cX4_numberBelow 12 = .ok (.iconst 0, 1) := by decide +kernel
theorem dX4_numberBelow_13 : decode cX4_numberBelow 13 = .ok (.ireturn, 1) := by decide +kernel
theorem dX4_numberBelow_14 : decode cX4_numberBelow 14 = .ok (.aload_n 0, 1) := by decide +kernel
theorem dX4_numberBelow_15 : decode cX4_numberBelow 15 = .ok (.getfield 28, 3) := by decide +kernel
theorem dX4_numberBelow_18 : decode cX4_numberBelow 18 = .ok (.iload_n 1, 1) := by decide +kernel
theorem dX4_numberBelow_19 : decode cX4_numberBelow 19 = .ok (.if_icmp .lt 11, 3) := by decide +kernel
theorem dX4_numberBelow_22 : decode cX4_numberBelow 22 = .ok (.aload_n 0, 1) := by decide +kernel
theorem dX4_numberBelow_23 : decode cX4_numberBelow 23 = .ok (.iconst 2, 1) := by decide +kernel
theorem dX4_numberBelow_24 : decode cX4_numberBelow 24 = .ok (.invokevirtual 89, 3) := by decide +kernel
theorem dX4_numberBelow_27 : decode cX4_numberBelow 27 = .ok (.ifCond .eq 7, 3) := by decide +kernel
theorem dX4_numberBelow_30 : decode cX4_numberBelow 30 = .ok (.iconst 1, 1) := by decide +kernel
theorem dX4_numberBelow_31 : decode cX4_numberBelow 31 = .ok (.goto 4, 3) := by decide +kernel
theorem dX4_numberBelow_34 : decode cX4_numberBelow 34 = .ok (.iconst 0, 1) := by decide +kernel
theorem dX4_numberBelow_35 : decode cX4_numberBelow 35 = .ok (.ireturn, 1) := by decide +kernel
theorem dX4_order_0 : decode cX4_order 0 = .ok (.aload_n 0, 1) := by decide +kernel
theorem dX4_order_1 : decode cX4_order 1 = .ok (.bipush 6, 2) := by decide +kernel
theorem dX4_order_3 : decode cX4_order 3 = .ok (.invokevirtual 110, 3) := by decide +kernel
theorem dX4_order_6 : decode cX4_order 6 = .ok (.ifCond .ne 5, 3) := by decide +kernel
theorem dX4_order_9 : decode cX4_order 9 = .ok (.iconst 0, 1) := by decide +kernel
theorem dX4_order_10 : decode cX4_order 10 = .ok (.ireturn, 1) := by decide +kernel
theorem dX4_order_11 : decode cX4_order 11 = .ok (.aload_n 0, 1) := by decide +kernel
theorem dX4_order_12 : decode cX4_order 12 = .ok (.getfield 28, 3) := by decide +kernel
theorem dX4_order_15 : decode cX4_order 15 = .ok (.istore_n 1, 1) := by decide +kernel
theorem dX4_order_16 : decode cX4_order 16 = .ok (.iload_n 1, 1) := by decide +kernel
theorem dX4_order_17 : decode cX4_order 17 = .ok (.invokestatic 113, 3) := by decide +kernel
theorem dX4_order_20 : decode cX4_order 20 = .ok (.ifCond .ne 9, 3) := by decide +kernel
theorem dX4_order_23 : decode cX4_order 23 = .ok (.aload_n 0, 1) := by decide +kernel
theorem dX4_order_24 : decode cX4_order 24 = .ok (.iconst 2, 1) := by decide +kernel
theorem dX4_order_25 : decode cX4_order 25 = .ok (.invokevirtual 89, 3) := by decide +kernel
theorem dX4_order_28 : decode cX4_order 28 = .ok (.ireturn, 1) := by decide +kernel
theorem dX4_order_29 : decode cX4_order 29 = .ok (.aload_n 0, 1) := by decide +kernel
theorem dX4_order_30 : decode cX4_order 30 = .ok (.bipush 6, 2) := by decide +kernel
theorem dX4_order_32 : decode cX4_order 32 = .ok (.invokevirtual 110, 3) := by decide +kernel
theorem dX4_order_35 : decode cX4_order 35 = .ok (.ifCond .ne 5, 3) := by decide +kernel
theorem dX4_order_38 : decode cX4_order 38 = .ok (.iconst 0, 1) := by decide +kernel
theorem dX4_order_39 : decode cX4_order 39 = .ok (.ireturn, 1) := by decide +kernel
theorem dX4_order_40 : decode cX4_order 40 = .ok (.iload_n 1, 1) := by decide +kernel
theorem dX4_order_41 : decode cX4_order 41 = .ok (.aload_n 0, 1) := by decide +kernel
theorem dX4_order_42 : decode cX4_order 42 = .ok (.getfield 28, 3) := by decide +kernel
theorem dX4_order_45 : decode cX4_order 45 = .ok (.invokestatic 118, 3) := by decide +kernel
theorem dX4_order_48 : decode cX4_order 48 = .ok (.ifCond .ne 9, 3) := by decide +kernel
theorem dX4_order_51 : decode cX4_order 51 = .ok (.aload_n 0, 1) := by decide +kernel
theorem dX4_order_52 : decode cX4_order 52 = .ok (.iconst 2, 1) := by decide +kernel
theorem dX4_order_53 : decode cX4_order 53 = .ok (.invokevirtual 89, 3) := by decide +kernel
theorem dX4_order_56 : decode cX4_order 56 = .ok (.ireturn, 1) := by decide +kernel
theorem dX4_order_57 : decode cX4_order 57 = .ok (.aload_n 0, 1) := by decide +kernel
theorem dX4_order_58 : decode cX4_order 58 = .ok (.getfield 47, 3) := by decide +kernel
theorem dX4_order_61 : decode cX4_order 61 = .ok (.iload_n 1, 1) := by decide +kernel
theorem dX4_order_62 : decode cX4_order 62 = .ok (.aload_n 0, 1) := by decide +kernel
theorem dX4_order_63 : decode cX4_order 63 = .ok (.getfield 28, 3) := by decide +kernel
theorem dX4_order_66 : decode cX4_order 66 = .ok (.invokevirtual 66, 3) := by decide +kernel
theorem dX4_order_69 : decode cX4_order 69 = .ok (.aload_n 0, 1) := by decide +kernel
theorem dX4_order_70 : decode cX4_order 70 = .ok (.invokevirtual 70, 3) := by decide +kernel
theorem dX4_order_73 : decode cX4_order 73 = .ok (.iconst 1, 1) := by decide +kernel
theorem dX4_order_74 : decode cX4_order 74 = .ok (.ireturn, 1) := by decide +kernel
theorem dX4_polynomials_0 : decode cX4_polynomials 0 = .ok (.iconst 0, 1) := by decide +kernel
theorem dX4_polynomials_1 : decode cX4_polynomials 1 = .ok (.istore_n 1, 1) := by decide +kernel
theorem dX4_polynomials_2 : decode cX4_polynomials 2 = .ok (.iload_n 1, 1) := by decide +kernel
theorem dX4_polynomials_3 : decode cX4_polynomials 3 = .ok (.aload_n 0, 1) := by decide +kernel
theorem dX4_polynomials_4 : decode cX4_polynomials 4 = .ok (.getfield 47, 3) := by decide +kernel
theorem dX4_polynomials_7 : decode cX4_polynomials 7 = .ok (.invokevirtual 122, 3) := by decide +kernel
theorem dX4_polynomials_10 : decode cX4_polynomials 10 = .ok (.if_icmp .ge 35, 3) := by decide +kernel
theorem dX4_polynomials_13 : decode cX4_polynomials 13 = .ok (.aload_n 0, 1) := by decide +kernel
theorem dX4_polynomials_14 : decode cX4_polynomials 14 = .ok (.aload_n 0, 1) := by decide +kernel
theorem dX4_polynomials_15 : decode cX4_polynomials 15 = .ok (.getfield 47, 3) := by decide +kernel
theorem dX4_polynomials_18 : decode cX4_polynomials 18 = .ok (.invokevirtual 126, 3) := by decide +kernel
theorem dX4_polynomials_21 : decode cX4_polynomials 21 = .ok (.invokevirtual 110, 3) := by decide +kernel
theorem dX4_polynomials_24 : decode cX4_polynomials 24 = .ok (.ifCond .ne 5, 3) := by decide +kernel
theorem dX4_polynomials_27 : decode cX4_polynomials 27 = .ok (.iconst 0, 1) := by decide +kernel
theorem dX4_polynomials_28 : decode cX4_polynomials 28 = .ok (.ireturn, 1) := by decide +kernel
theorem dX4_polynomials_29 : decode cX4_polynomials 29 = .ok (.aload_n 0, 1) := by decide +kernel
theorem dX4_polynomials_30 : decode cX4_polynomials 30 = .ok (.getfield 57, 3) := by decide +kernel
theorem dX4_polynomials_33 : decode cX4_polynomials 33 = .ok (.iload_n 1, 1) := by decide +kernel
theorem dX4_polynomials_34 : decode cX4_polynomials 34 = .ok (.aload_n 0, 1) := by decide +kernel
theorem dX4_polynomials_35 : decode cX4_polynomials 35 = .ok (.getfield 28, 3) := by decide +kernel
theorem dX4_polynomials_38 : decode cX4_polynomials 38 = .ok (.iastore, 1) := by decide +kernel
theorem dX4_polynomials_39 : decode cX4_polynomials 39 = .ok (.iinc 1 1, 3) := by decide +kernel
theorem dX4_polynomials_42 : decode cX4_polynomials 42 = .ok (.goto (-40), 3) := by decide +kernel
theorem dX4_polynomials_45 : decode cX4_polynomials 45 = .ok (.aload_n 0, 1) := by decide +kernel
theorem dX4_polynomials_46 : decode cX4_polynomials 46 = .ok (.invokevirtual 129, 3) := by decide +kernel
theorem dX4_polynomials_49 : decode cX4_polynomials 49 = .ok (.aload_n 0, 1) := by decide +kernel
theorem dX4_polynomials_50 : decode cX4_polynomials 50 = .ok (.getfield 51, 3) := by decide +kernel
theorem dX4_polynomials_53 : decode cX4_polynomials 53 = .ok (.aload_n 0, 1) := by decide +kernel
theorem dX4_polynomials_54 : decode cX4_polynomials 54 = .ok (.getfield 47, 3) := by decide +kernel
theorem dX4_polynomials_57 : decode cX4_polynomials 57 = .ok (.invokevirtual 132, 3) := by decide +kernel
theorem dX4_polynomials_60 : decode cX4_polynomials 60 = .ok (.aload_n 0, 1) := by decide +kernel
theorem dX4_polynomials_61 : decode cX4_polynomials 61 = .ok (.iconst 1, 1) := by decide +kernel
theorem dX4_polynomials_62 : decode cX4_polynomials 62 = .ok (.putfield 40, 3) := by decide +kernel
theorem dX4_polynomials_65 : decode cX4_polynomials 65 = .ok (.aload_n 0, 1) := by decide +kernel
theorem dX4_polynomials_66 : decode cX4_polynomials 66 = .ok (.invokevirtual 70, 3) := by decide +kernel
theorem dX4_polynomials_69 : decode cX4_polynomials 69 = .ok (.iconst 1, 1) := by decide +kernel
theorem dX4_polynomials_70 : decode cX4_polynomials 70 = .ok (.ireturn, 1) := by decide +kernel
theorem dX4_fillPolynomials_0 : decode cX4_fillPolynomials 0 = .ok (.aload_n 0, 1) := by decide +kernel
theorem dX4_fillPolynomials_1 : decode cX4_fillPolynomials 1 = .ok (.getfield 47, 3) := by decide +kernel
theorem dX4_fillPolynomials_4 : decode cX4_fillPolynomials 4 = .ok (.invokevirtual 122, 3) := by decide +kernel
theorem dX4_fillPolynomials_7 : decode cX4_fillPolynomials 7 = .ok (.istore_n 1, 1) := by decide +kernel
theorem dX4_fillPolynomials_8 : decode cX4_fillPolynomials 8 = .ok (.aload_n 0, 1) := by decide +kernel
theorem dX4_fillPolynomials_9 : decode cX4_fillPolynomials 9 = .ok (.getfield 47, 3) := by decide +kernel
theorem dX4_fillPolynomials_12 : decode cX4_fillPolynomials 12 = .ok (.invokevirtual 126, 3) := by decide +kernel
theorem dX4_fillPolynomials_15 : decode cX4_fillPolynomials 15 = .ok (.istore_n 2, 1) := by decide +kernel
theorem dX4_fillPolynomials_16 : decode cX4_fillPolynomials 16 = .ok (.iconst 0, 1) := by decide +kernel
theorem dX4_fillPolynomials_17 : decode cX4_fillPolynomials 17 = .ok (.istore_n 3, 1) := by decide +kernel
theorem dX4_fillPolynomials_18 : decode cX4_fillPolynomials 18 = .ok (.iconst 0, 1) := by decide +kernel
theorem dX4_fillPolynomials_19 : decode cX4_fillPolynomials 19 = .ok (.istore 4, 2) := by decide +kernel
theorem dX4_fillPolynomials_21 : decode cX4_fillPolynomials 21 = .ok (.iload 4, 2) := by decide +kernel
theorem dX4_fillPolynomials_23 : decode cX4_fillPolynomials 23 = .ok (.iload_n 1, 1) := by decide +kernel
theorem dX4_fillPolynomials_24 : decode cX4_fillPolynomials 24 = .ok (.if_icmp .ge 29, 3) := by decide +kernel
theorem dX4_fillPolynomials_27 : decode cX4_fillPolynomials 27 = .ok (.iload_n 3, 1) := by decide +kernel
theorem dX4_fillPolynomials_28 : decode cX4_fillPolynomials 28 = .ok (.aload_n 0, 1) := by decide +kernel
theorem dX4_fillPolynomials_29 : decode cX4_fillPolynomials 29 = .ok (.getfield 57, 3) := by decide +kernel
theorem dX4_fillPolynomials_32 : decode cX4_fillPolynomials 32 = .ok (.iload 4, 2) := by decide +kernel
theorem dX4_fillPolynomials_34 : decode cX4_fillPolynomials 34 = .ok (.iaload, 1) := by decide +kernel
theorem dX4_fillPolynomials_35 : decode cX4_fillPolynomials 35 = .ok (.aload_n 0, 1) := by decide +kernel
theorem dX4_fillPolynomials_36 : decode cX4_fillPolynomials 36 = .ok (.getfield 47, 3) := by decide +kernel
theorem dX4_fillPolynomials_39 : decode cX4_fillPolynomials 39 = .ok (.iload 4, 2) := by decide +kernel
theorem dX4_fillPolynomials_41 : decode cX4_fillPolynomials 41 = .ok (.invokevirtual 136, 3) := by decide +kernel
theorem dX4_fillPolynomials_44 : decode cX4_fillPolynomials 44 = .ok (.imul, 1) := by decide +kernel
theorem dX4_fillPolynomials_45 : decode cX4_fillPolynomials 45 = .ok (.iadd, 1) := by decide +kernel
theorem dX4_fillPolynomials_46 : decode cX4_fillPolynomials 46 = .ok (.istore_n 3, 1) := by decide +kernel
theorem dX4_fillPolynomials_47 : decode cX4_fillPolynomials 47 = .ok (.iinc 4 1, 3) := by decide +kernel
theorem dX4_fillPolynomials_50 : decode cX4_fillPolynomials 50 = .ok (.goto (-29), 3) := by decide +kernel
theorem dX4_fillPolynomials_53 : decode cX4_fillPolynomials 53 = .ok (.iconst 1, 1) := by decide +kernel
theorem dX4_fillPolynomials_54 : decode cX4_fillPolynomials 54 = .ok (.istore 4, 2) := by decide +kernel
theorem dX4_fillPolynomials_56 : decode cX4_fillPolynomials 56 = .ok (.aload_n 0, 1) := by decide +kernel
theorem dX4_fillPolynomials_57 : decode cX4_fillPolynomials 57 = .ok (.getfield 47, 3) := by decide +kernel
theorem dX4_fillPolynomials_60 : decode cX4_fillPolynomials 60 = .ok (.iload_n 1, 1) := by decide +kernel
theorem dX4_fillPolynomials_61 : decode cX4_fillPolynomials 61 = .ok (.iconst 1, 1) := by decide +kernel
theorem dX4_fillPolynomials_62 : decode cX4_fillPolynomials 62 = .ok (.isub, 1) := by decide +kernel
theorem dX4_fillPolynomials_63 : decode cX4_fillPolynomials 63 = .ok (.invokevirtual 136, 3) := by decide +kernel
theorem dX4_fillPolynomials_66 : decode cX4_fillPolynomials 66 = .ok (.istore 5, 2) := by decide +kernel
theorem dX4_fillPolynomials_68 : decode cX4_fillPolynomials 68 = .ok (.iconst 0, 1) := by decide +kernel
theorem dX4_fillPolynomials_69 : decode cX4_fillPolynomials 69 = .ok (.istore 6, 2) := by decide +kernel
theorem dX4_fillPolynomials_71 : decode cX4_fillPolynomials 71 = .ok (.iload 6, 2) := by decide +kernel
theorem dX4_fillPolynomials_73 : decode cX4_fillPolynomials 73 = .ok (.iconst 2, 1) := by decide +kernel
theorem dX4_fillPolynomials_74 : decode cX4_fillPolynomials 74 = .ok (.iload_n 1, 1) := by decide +kernel
theorem dX4_fillPolynomials_75 : decode cX4_fillPolynomials 75 = .ok (.imul, 1) := by decide +kernel
theorem dX4_fillPolynomials_76 : decode cX4_fillPolynomials 76 = .ok (.iconst 2, 1) := by decide +kernel
theorem dX4_fillPolynomials_77 : decode cX4_fillPolynomials 77 = .ok (.isub, 1) := by decide +kernel
theorem dX4_fillPolynomials_78 : decode cX4_fillPolynomials 78 = .ok (.if_icmp .gt 96, 3) := by decide +kernel
theorem dX4_fillPolynomials_81 : decode cX4_fillPolynomials 81 = .ok (.iconst 0, 1) := by decide +kernel
theorem dX4_fillPolynomials_82 : decode cX4_fillPolynomials 82 = .ok (.iload 6, 2) := by decide +kernel
theorem dX4_fillPolynomials_84 : decode cX4_fillPolynomials 84 = .ok (.iload_n 1, 1) := by decide +kernel
theorem dX4_fillPolynomials_85 : decode cX4_fillPolynomials 85 = .ok (.isub, 1) := by decide +kernel
theorem dX4_fillPolynomials_86 : decode cX4_fillPolynomials 86 = .ok (.iconst 1, 1) := by decide +kernel
theorem dX4_fillPolynomials_87 : decode cX4_fillPolynomials 87 = .ok (.iadd, 1) := by decide +kernel
theorem dX4_fillPolynomials_88 : decode cX4_fillPolynomials 88 = .ok (.invokestatic 140, 3) := by decide +kernel
theorem dX4_fillPolynomials_91 : decode cX4_fillPolynomials 91 = .ok (.istore 7, 2) := by decide +kernel
theorem dX4_fillPolynomials_93 : decode cX4_fillPolynomials 93 = .ok (.iload 7, 2) := by decide +kernel
theorem dX4_fillPolynomials_95 : decode cX4_fillPolynomials 95 = .ok (.iload 6, 2) := by decide +kernel
theorem dX4_fillPolynomials_97 : decode cX4_fillPolynomials 97 = .ok (.if_icmp .gt 31, 3) := by decide +kernel
theorem dX4_fillPolynomials_100 : decode cX4_fillPolynomials 100 = .ok (.iload 7, 2) := by decide +kernel
theorem dX4_fillPolynomials_102 : decode cX4_fillPolynomials 102 = .ok (.iload_n 1, 1) := by decide +kernel
theorem dX4_fillPolynomials_103 : decode cX4_fillPolynomials 103 = .ok (.if_icmp .ge 25, 3) := by decide +kernel
theorem dX4_fillPolynomials_106 : decode cX4_fillPolynomials 106 = .ok (.aload_n 0, 1) := by decide +kernel
theorem dX4_fillPolynomials_107 : decode cX4_fillPolynomials 107 = .ok (.getfield 47, 3) := by decide +kernel
theorem dX4_fillPolynomials_110 : decode cX4_fillPolynomials 110 = .ok (.iload 7, 2) := by decide +kernel
theorem dX4_fillPolynomials_112 : decode cX4_fillPolynomials 112 = .ok (.iload 6, 2) := by decide +kernel
theorem dX4_fillPolynomials_114 : decode cX4_fillPolynomials 114 = .ok (.iload 7, 2) := by decide +kernel
theorem dX4_fillPolynomials_116 : decode cX4_fillPolynomials 116 = .ok (.isub, 1) := by decide +kernel
theorem dX4_fillPolynomials_117 : decode cX4_fillPolynomials 117 = .ok (.iload 4, 2) := by decide +kernel
theorem dX4_fillPolynomials_119 : decode cX4_fillPolynomials 119 = .ok (.invokevirtual 146, 3) := by decide +kernel
theorem dX4_fillPolynomials_122 : decode cX4_fillPolynomials 122 = .ok (.iinc 7 1, 3) := by decide +kernel
theorem dX4_fillPolynomials_125 : decode cX4_fillPolynomials 125 = .ok (.goto (-32), 3) := by decide +kernel
theorem dX4_fillPolynomials_128 : decode cX4_fillPolynomials 128 = .ok (.iload 5, 2) := by decide +kernel
theorem dX4_fillPolynomials_130 : decode cX4_fillPolynomials 130 = .ok (.iconst 1, 1) := by decide +kernel
theorem dX4_fillPolynomials_131 : decode cX4_fillPolynomials 131 = .ok (.if_icmp .ge 7, 3) := by decide +kernel
theorem dX4_fillPolynomials_134 : decode cX4_fillPolynomials 134 = .ok (.iconst 0, 1) := by decide +kernel
theorem dX4_fillPolynomials_135 : decode cX4_fillPolynomials 135 = .ok (.goto 8, 3) := by decide +kernel
theorem dX4_fillPolynomials_138 : decode cX4_fillPolynomials 138 = .ok (.iload 4, 2) := by decide +kernel
theorem dX4_fillPolynomials_140 : decode cX4_fillPolynomials 140 = .ok (.iload 5, 2) := by decide +kernel
theorem dX4_fillPolynomials_142 : decode cX4_fillPolynomials 142 = .ok (.idiv, 1) := by decide +kernel
theorem dX4_fillPolynomials_143 : decode cX4_fillPolynomials 143 = .ok (.istore 7, 2) := by decide +kernel
theorem dX4_fillPolynomials_145 : decode cX4_fillPolynomials 145 = .ok (.iload_n 2, 1) := by decide +kernel
theorem dX4_fillPolynomials_146 : decode cX4_fillPolynomials 146 = .ok (.iload 4, 2) := by decide +kernel
theorem dX4_fillPolynomials_148 : decode cX4_fillPolynomials 148 = .ok (.iload 7, 2) := by decide +kernel
theorem dX4_fillPolynomials_150 : decode cX4_fillPolynomials 150 = .ok (.iload 5, 2) := by decide +kernel
theorem dX4_fillPolynomials_152 : decode cX4_fillPolynomials 152 = .ok (.imul, 1) := by decide +kernel
theorem dX4_fillPolynomials_153 : decode cX4_fillPolynomials 153 = .ok (.isub, 1) := by decide +kernel
theorem dX4_fillPolynomials_154 : decode cX4_fillPolynomials 154 = .ok (.iload_n 2, 1) := by decide +kernel
theorem dX4_fillPolynomials_155 : decode cX4_fillPolynomials 155 = .ok (.imul, 1) := by decide +kernel
theorem dX4_fillPolynomials_156 : decode cX4_fillPolynomials 156 = .ok (.iload_n 2, 1) := by decide +kernel
theorem dX4_fillPolynomials_157 : decode cX4_fillPolynomials 157 = .ok (.iload 7, 2) := by decide +kernel
theorem dX4_fillPolynomials_159 : decode cX4_fillPolynomials 159 = .ok (.iload_n 3, 1) := by decide +kernel
theorem dX4_fillPolynomials_160 : decode cX4_fillPolynomials 160 = .ok (.invokestatic 150, 3) := by decide +kernel
theorem dX4_fillPolynomials_163 : decode cX4_fillPolynomials 163 = .ok (.invokestatic 154, 3) := by decide +kernel
theorem dX4_fillPolynomials_166 : decode cX4_fillPolynomials 166 = .ok (.istore 4, 2) := by decide +kernel
theorem dX4_fillPolynomials_168 : decode cX4_fillPolynomials 168 = .ok (.iinc 6 1, 3) := by decide +kernel
theorem dX4_fillPolynomials_171 : decode cX4_fillPolynomials 171 = .ok (.goto (-100), 3) := by decide +kernel
theorem dX4_fillPolynomials_174 : decode cX4_fillPolynomials 174 = .ok (.return_, 1) := by decide +kernel
theorem dX4_twist_0 : decode cX4_twist 0 = .ok (.aload_n 0, 1) := by decide +kernel
theorem dX4_twist_1 : decode cX4_twist 1 = .ok (.aload_n 0, 1) := by decide +kernel
theorem dX4_twist_2 : decode cX4_twist 2 = .ok (.getfield 47, 3) := by decide +kernel
theorem dX4_twist_5 : decode cX4_twist 5 = .ok (.invokevirtual 157, 3) := by decide +kernel
theorem dX4_twist_8 : decode cX4_twist 8 = .ok (.invokevirtual 110, 3) := by decide +kernel
theorem dX4_twist_11 : decode cX4_twist 11 = .ok (.ifCond .ne 5, 3) := by decide +kernel
theorem dX4_twist_14 : decode cX4_twist 14 = .ok (.iconst 0, 1) := by decide +kernel
theorem dX4_twist_15 : decode cX4_twist 15 = .ok (.ireturn, 1) := by decide +kernel
theorem dX4_twist_16 : decode cX4_twist 16 = .ok (.aload_n 0, 1) := by decide +kernel
theorem dX4_twist_17 : decode cX4_twist 17 = .ok (.getfield 28, 3) := by decide +kernel
theorem dX4_twist_20 : decode cX4_twist 20 = .ok (.istore_n 1, 1) := by decide +kernel
theorem dX4_twist_21 : decode cX4_twist 21 = .ok (.aload_n 0, 1) := by decide +kernel
theorem dX4_twist_22 : decode cX4_twist 22 = .ok (.iconst 5, 1) := by decide +kernel
theorem dX4_twist_23 : decode cX4_twist 23 = .ok (.invokevirtual 110, 3) := by decide +kernel
theorem dX4_twist_26 : decode cX4_twist 26 = .ok (.ifCond .ne 5, 3) := by decide +kernel
theorem dX4_twist_29 : decode cX4_twist 29 = .ok (.iconst 0, 1) := by decide +kernel
theorem dX4_twist_30 : decode cX4_twist 30 = .ok (.ireturn, 1) := by decide +kernel
theorem dX4_twist_31 : decode cX4_twist 31 = .ok (.aload_n 0, 1) := by decide +kernel
theorem dX4_twist_32 : decode cX4_twist 32 = .ok (.getfield 28, 3) := by decide +kernel
theorem dX4_twist_35 : decode cX4_twist 35 = .ok (.istore_n 2, 1) := by decide +kernel
theorem dX4_twist_36 : decode cX4_twist 36 = .ok (.aload_n 0, 1) := by decide +kernel
theorem dX4_twist_37 : decode cX4_twist 37 = .ok (.iconst 5, 1) := by decide +kernel
theorem dX4_twist_38 : decode cX4_twist 38 = .ok (.invokevirtual 110, 3) := by decide +kernel
theorem dX4_twist_41 : decode cX4_twist 41 = .ok (.ifCond .ne 5, 3) := by decide +kernel
theorem dX4_twist_44 : decode cX4_twist 44 = .ok (.iconst 0, 1) := by decide +kernel
theorem dX4_twist_45 : decode cX4_twist 45 = .ok (.ireturn, 1) := by decide +kernel
theorem dX4_twist_46 : decode cX4_twist 46 = .ok (.aload_n 0, 1) := by decide +kernel
theorem dX4_twist_47 : decode cX4_twist 47 = .ok (.iload_n 1, 1) := by decide +kernel
theorem dX4_twist_48 : decode cX4_twist 48 = .ok (.iload_n 2, 1) := by decide +kernel
theorem dX4_twist_49 : decode cX4_twist 49 = .ok (.aload_n 0, 1) := by decide +kernel
theorem dX4_twist_50 : decode cX4_twist 50 = .ok (.getfield 28, 3) := by decide +kernel
theorem dX4_twist_53 : decode cX4_twist 53 = .ok (.invokevirtual 159, 3) := by decide +kernel
theorem dX4_twist_56 : decode cX4_twist 56 = .ok (.aload_n 0, 1) := by decide +kernel
theorem dX4_twist_57 : decode cX4_twist 57 = .ok (.invokevirtual 70, 3) := by decide +kernel
theorem dX4_twist_60 : decode cX4_twist 60 = .ok (.iconst 1, 1) := by decide +kernel
theorem dX4_twist_61 : decode cX4_twist 61 = .ok (.ireturn, 1) := by decide +kernel
theorem dX4_fillTwist_0 : decode cX4_fillTwist 0 = .ok (.aload_n 0, 1) := by decide +kernel
theorem dX4_fillTwist_1 : decode cX4_fillTwist 1 = .ok (.getfield 47, 3) := by decide +kernel
theorem dX4_fillTwist_4 : decode cX4_fillTwist 4 = .ok (.invokevirtual 122, 3) := by decide +kernel
theorem dX4_fillTwist_7 : decode cX4_fillTwist 7 = .ok (.istore 4, 2) := by decide +kernel
theorem dX4_fillTwist_9 : decode cX4_fillTwist 9 = .ok (.iconst 0, 1) := by decide +kernel
theorem dX4_fillTwist_10 : decode cX4_fillTwist 10 = .ok (.istore 5, 2) := by decide +kernel
theorem dX4_fillTwist_12 : decode cX4_fillTwist 12 = .ok (.iload 5, 2) := by decide +kernel
theorem dX4_fillTwist_14 : decode cX4_fillTwist 14 = .ok (.iload 4, 2) := by decide +kernel
theorem dX4_fillTwist_16 : decode cX4_fillTwist 16 = .ok (.if_icmp .ge 51, 3) := by decide +kernel
theorem dX4_fillTwist_19 : decode cX4_fillTwist 19 = .ok (.aload_n 0, 1) := by decide +kernel
theorem dX4_fillTwist_20 : decode cX4_fillTwist 20 = .ok (.getfield 60, 3) := by decide +kernel
theorem dX4_fillTwist_23 : decode cX4_fillTwist 23 = .ok (.iload 5, 2) := by decide +kernel
theorem dX4_fillTwist_25 : decode cX4_fillTwist 25 = .ok (.aload_n 0, 1) := by decide +kernel
theorem dX4_fillTwist_26 : decode cX4_fillTwist 26 = .ok (.aload_n 0, 1) := by decide +kernel
theorem dX4_fillTwist_27 : decode cX4_fillTwist 27 = .ok (.getfield 47, 3) := by decide +kernel
theorem dX4_fillTwist_30 : decode cX4_fillTwist 30 = .ok (.iload 5, 2) := by decide +kernel
theorem dX4_fillTwist_32 : decode cX4_fillTwist 32 = .ok (.invokevirtual 136, 3) := by decide +kernel
theorem dX4_fillTwist_35 : decode cX4_fillTwist 35 = .ok (.iload_n 2, 1) := by decide +kernel
theorem dX4_fillTwist_36 : decode cX4_fillTwist 36 = .ok (.invokevirtual 162, 3) := by decide +kernel
theorem dX4_fillTwist_39 : decode cX4_fillTwist 39 = .ok (.iastore, 1) := by decide +kernel
theorem dX4_fillTwist_40 : decode cX4_fillTwist 40 = .ok (.aload_n 0, 1) := by decide +kernel
theorem dX4_fillTwist_41 : decode cX4_fillTwist 41 = .ok (.getfield 63, 3) := by decide +kernel
theorem dX4_fillTwist_44 : decode cX4_fillTwist 44 = .ok (.iload 5, 2) := by decide +kernel
theorem dX4_fillTwist_46 : decode cX4_fillTwist 46 = .ok (.aload_n 0, 1) := by decide +kernel
theorem dX4_fillTwist_47 : decode cX4_fillTwist 47 = .ok (.aload_n 0, 1) := by decide +kernel
theorem dX4_fillTwist_48 : decode cX4_fillTwist 48 = .ok (.getfield 47, 3) := by decide +kernel
theorem dX4_fillTwist_51 : decode cX4_fillTwist 51 = .ok (.iload 5, 2) := by decide +kernel
theorem dX4_fillTwist_53 : decode cX4_fillTwist 53 = .ok (.invokevirtual 136, 3) := by decide +kernel
theorem dX4_fillTwist_56 : decode cX4_fillTwist 56 = .ok (.iload_n 3, 1) := by decide +kernel
theorem dX4_fillTwist_57 : decode cX4_fillTwist 57 = .ok (.invokevirtual 162, 3) := by decide +kernel
theorem dX4_fillTwist_60 : decode cX4_fillTwist 60 = .ok (.iastore, 1) := by decide +kernel
theorem dX4_fillTwist_61 : decode cX4_fillTwist 61 = .ok (.iinc 5 1, 3) := by decide +kernel
theorem dX4_fillTwist_64 : decode cX4_fillTwist 64 = .ok (.goto (-52), 3) := by decide +kernel
theorem dX4_fillTwist_67 : decode cX4_fillTwist 67 = .ok (.iconst 0, 1) := by decide +kernel
theorem dX4_fillTwist_68 : decode cX4_fillTwist 68 = .ok (.istore 5, 2) := by decide +kernel
theorem dX4_fillTwist_70 : decode cX4_fillTwist 70 = .ok (.iload 5, 2) := by decide +kernel
theorem dX4_fillTwist_72 : decode cX4_fillTwist 72 = .ok (.iload 4, 2) := by decide +kernel
theorem dX4_fillTwist_74 : decode cX4_fillTwist 74 = .ok (.if_icmp .ge 112, 3) := by decide +kernel
theorem dX4_fillTwist_77 : decode cX4_fillTwist 77 = .ok (.aload_n 0, 1) := by decide +kernel
theorem dX4_fillTwist_78 : decode cX4_fillTwist 78 = .ok (.getfield 51, 3) := by decide +kernel
theorem dX4_fillTwist_81 : decode cX4_fillTwist 81 = .ok (.iload_n 1, 1) := by decide +kernel
theorem dX4_fillTwist_82 : decode cX4_fillTwist 82 = .ok (.aload_n 0, 1) := by decide +kernel
theorem dX4_fillTwist_83 : decode cX4_fillTwist 83 = .ok (.getfield 60, 3) := by decide +kernel
theorem dX4_fillTwist_86 : decode cX4_fillTwist 86 = .ok (.iload 5, 2) := by decide +kernel
theorem dX4_fillTwist_88 : decode cX4_fillTwist 88 = .ok (.iaload, 1) := by decide +kernel
theorem dX4_fillTwist_89 : decode cX4_fillTwist 89 = .ok (.invokevirtual 165, 3) := by decide +kernel
theorem dX4_fillTwist_92 : decode cX4_fillTwist 92 = .ok (.istore 6, 2) := by decide +kernel
theorem dX4_fillTwist_94 : decode cX4_fillTwist 94 = .ok (.iconst 0, 1) := by decide +kernel
theorem dX4_fillTwist_95 : decode cX4_fillTwist 95 = .ok (.istore 7, 2) := by decide +kernel
theorem dX4_fillTwist_97 : decode cX4_fillTwist 97 = .ok (.iload 7, 2) := by decide +kernel
theorem dX4_fillTwist_99 : decode cX4_fillTwist 99 = .ok (.iload 4, 2) := by decide +kernel
theorem dX4_fillTwist_101 : decode cX4_fillTwist 101 = .ok (.if_icmp .ge 79, 3) := by decide +kernel
theorem dX4_fillTwist_104 : decode cX4_fillTwist 104 = .ok (.aload_n 0, 1) := by decide +kernel
theorem dX4_fillTwist_105 : decode cX4_fillTwist 105 = .ok (.getfield 51, 3) := by decide +kernel
theorem dX4_fillTwist_108 : decode cX4_fillTwist 108 = .ok (.aload_n 0, 1) := by decide +kernel
theorem dX4_fillTwist_109 : decode cX4_fillTwist 109 = .ok (.getfield 47, 3) := by decide +kernel
theorem dX4_fillTwist_112 : decode cX4_fillTwist 112 = .ok (.iload 5, 2) := by decide +kernel
theorem dX4_fillTwist_114 : decode cX4_fillTwist 114 = .ok (.invokevirtual 136, 3) := by decide +kernel
theorem dX4_fillTwist_117 : decode cX4_fillTwist 117 = .ok (.aload_n 0, 1) := by decide +kernel
theorem dX4_fillTwist_118 : decode cX4_fillTwist 118 = .ok (.getfield 47, 3) := by decide +kernel
theorem dX4_fillTwist_121 : decode cX4_fillTwist 121 = .ok (.iload 7, 2) := by decide +kernel
theorem dX4_fillTwist_123 : decode cX4_fillTwist 123 = .ok (.invokevirtual 136, 3) := by decide +kernel
theorem dX4_fillTwist_126 : decode cX4_fillTwist 126 = .ok (.invokevirtual 165, 3) := by decide +kernel
theorem dX4_fillTwist_129 : decode cX4_fillTwist 129 = .ok (.istore 8, 2) := by decide +kernel
theorem dX4_fillTwist_131 : decode cX4_fillTwist 131 = .ok (.aload_n 0, 1) := by decide +kernel
theorem dX4_fillTwist_132 : decode cX4_fillTwist 132 = .ok (.getfield 51, 3) := by decide +kernel
theorem dX4_fillTwist_135 : decode cX4_fillTwist 135 = .ok (.iload 6, 2) := by decide +kernel
theorem dX4_fillTwist_137 : decode cX4_fillTwist 137 = .ok (.aload_n 0, 1) := by decide +kernel
theorem dX4_fillTwist_138 : decode cX4_fillTwist 138 = .ok (.getfield 63, 3) := by decide +kernel
theorem dX4_fillTwist_141 : decode cX4_fillTwist 141 = .ok (.iload 7, 2) := by decide +kernel
theorem dX4_fillTwist_143 : decode cX4_fillTwist 143 = .ok (.iaload, 1) := by decide +kernel
theorem dX4_fillTwist_144 : decode cX4_fillTwist 144 = .ok (.invokevirtual 165, 3) := by decide +kernel
theorem dX4_fillTwist_147 : decode cX4_fillTwist 147 = .ok (.istore 9, 2) := by decide +kernel
theorem dX4_fillTwist_149 : decode cX4_fillTwist 149 = .ok (.aload_n 0, 1) := by decide +kernel
theorem dX4_fillTwist_150 : decode cX4_fillTwist 150 = .ok (.getfield 47, 3) := by decide +kernel
theorem dX4_fillTwist_153 : decode cX4_fillTwist 153 = .ok (.iload 5, 2) := by decide +kernel
theorem dX4_fillTwist_155 : decode cX4_fillTwist 155 = .ok (.iload 7, 2) := by decide +kernel
theorem dX4_fillTwist_157 : decode cX4_fillTwist 157 = .ok (.aload_n 0, 1) := by decide +kernel
theorem dX4_fillTwist_158 : decode cX4_fillTwist 158 = .ok (.getfield 47, 3) := by decide +kernel
theorem dX4_fillTwist_161 : decode cX4_fillTwist 161 = .ok (.invokevirtual 126, 3) := by decide +kernel
theorem dX4_fillTwist_164 : decode cX4_fillTwist 164 = .ok (.iload 8, 2) := by decide +kernel
theorem dX4_fillTwist_166 : decode cX4_fillTwist 166 = .ok (.iload 9, 2) := by decide +kernel
theorem dX4_fillTwist_168 : decode cX4_fillTwist 168 = .ok (.invokestatic 168, 3) := by decide +kernel
theorem dX4_fillTwist_171 : decode cX4_fillTwist 171 = .ok (.invokevirtual 146, 3) := by decide +kernel
theorem dX4_fillTwist_174 : decode cX4_fillTwist 174 = .ok (.iinc 7 1, 3) := by decide +kernel
theorem dX4_fillTwist_177 : decode cX4_fillTwist 177 = .ok (.goto (-80), 3) := by decide +kernel
theorem dX4_fillTwist_180 : decode cX4_fillTwist 180 = .ok (.iinc 5 1, 3) := by decide +kernel
theorem dX4_fillTwist_183 : decode cX4_fillTwist 183 = .ok (.goto (-113), 3) := by decide +kernel
theorem dX4_fillTwist_186 : decode cX4_fillTwist 186 = .ok (.return_, 1) := by decide +kernel
theorem dX4_raise_0 : decode cX4_raise 0 = .ok (.iload_n 1, 1) := by decide +kernel
theorem dX4_raise_1 : decode cX4_raise 1 = .ok (.istore_n 3, 1) := by decide +kernel
theorem dX4_raise_2 : decode cX4_raise 2 = .ok (.iconst 0, 1) := by decide +kernel
theorem dX4_raise_3 : decode cX4_raise 3 = .ok (.istore 4, 2) := by decide +kernel
theorem dX4_raise_5 : decode cX4_raise 5 = .ok (.iload 4, 2) := by decide +kernel
theorem dX4_raise_7 : decode cX4_raise 7 = .ok (.iload_n 2, 1) := by decide +kernel
theorem dX4_raise_8 : decode cX4_raise 8 = .ok (.if_icmp .ge 50, 3) := by decide +kernel
theorem dX4_raise_11 : decode cX4_raise 11 = .ok (.iload 4, 2) := by decide +kernel
theorem dX4_raise_13 : decode cX4_raise 13 = .ok (.iconst 5, 1) := by decide +kernel
theorem dX4_raise_14 : decode cX4_raise 14 = .ok (.if_icmp .ge 44, 3) := by decide +kernel
theorem dX4_raise_17 : decode cX4_raise 17 = .ok (.iload_n 3, 1) := by decide +kernel
theorem dX4_raise_18 : decode cX4_raise 18 = .ok (.istore 5, 2) := by decide +kernel
theorem dX4_raise_20 : decode cX4_raise 20 = .ok (.iconst 1, 1) := by decide +kernel
theorem dX4_raise_21 : decode cX4_raise 21 = .ok (.istore 6, 2) := by decide +kernel
theorem dX4_raise_23 : decode cX4_raise 23 = .ok (.iload 6, 2) := by decide +kernel
theorem dX4_raise_25 : decode cX4_raise 25 = .ok (.aload_n 0, 1) := by decide +kernel
theorem dX4_raise_26 : decode cX4_raise 26 = .ok (.getfield 51, 3) := by decide +kernel
theorem dX4_raise_29 : decode cX4_raise 29 = .ok (.invokevirtual 126, 3) := by decide +kernel
theorem dX4_raise_32 : decode cX4_raise 32 = .ok (.if_icmp .ge 20, 3) := by decide +kernel
theorem dX4_raise_35 : decode cX4_raise 35 = .ok (.aload_n 0, 1) := by decide +kernel
theorem dX4_raise_36 : decode cX4_raise 36 = .ok (.getfield 51, 3) := by decide +kernel
theorem dX4_raise_39 : decode cX4_raise 39 = .ok (.iload_n 3, 1) := by decide +kernel
theorem dX4_raise_40 : decode cX4_raise 40 = .ok (.iload 5, 2) := by decide +kernel
theorem dX4_raise_42 : decode cX4_raise 42 = .ok (.invokevirtual 165, 3) := by decide +kernel
theorem dX4_raise_45 : decode cX4_raise 45 = .ok (.istore_n 3, 1) := by decide +kernel
theorem dX4_raise_46 : decode cX4_raise 46 = .ok (.iinc 6 1, 3) := by decide +kernel
theorem dX4_raise_49 : decode cX4_raise 49 = .ok (.goto (-26), 3) := by decide +kernel
theorem dX4_raise_52 : decode cX4_raise 52 = .ok (.iinc 4 1, 3) := by decide +kernel
theorem dX4_raise_55 : decode cX4_raise 55 = .ok (.goto (-50), 3) := by decide +kernel
theorem dX4_raise_58 : decode cX4_raise 58 = .ok (.iload_n 3, 1) := by decide +kernel
theorem dX4_raise_59 : decode cX4_raise 59 = .ok (.ireturn, 1) := by decide +kernel
theorem dX4_row_0 : decode cX4_row 0 = .ok (.aload_n 0, 1) := by decide +kernel
theorem dX4_row_1 : decode cX4_row 1 = .ok (.aload_n 0, 1) := by decide +kernel
theorem dX4_row_2 : decode cX4_row 2 = .ok (.getfield 47, 3) := by decide +kernel
theorem dX4_row_5 : decode cX4_row 5 = .ok (.invokevirtual 122, 3) := by decide +kernel
theorem dX4_row_8 : decode cX4_row 8 = .ok (.invokevirtual 110, 3) := by decide +kernel
theorem dX4_row_11 : decode cX4_row 11 = .ok (.ifCond .ne 5, 3) := by decide +kernel
theorem dX4_row_14 : decode cX4_row 14 = .ok (.iconst 0, 1) := by decide +kernel
theorem dX4_row_15 : decode cX4_row 15 = .ok (.ireturn, 1) := by decide +kernel
theorem dX4_row_16 : decode cX4_row 16 = .ok (.aload_n 0, 1) := by decide +kernel
theorem dX4_row_17 : decode cX4_row 17 = .ok (.getfield 28, 3) := by decide +kernel
theorem dX4_row_20 : decode cX4_row 20 = .ok (.istore_n 1, 1) := by decide +kernel
theorem dX4_row_21 : decode cX4_row 21 = .ok (.aload_n 0, 1) := by decide +kernel
theorem dX4_row_22 : decode cX4_row 22 = .ok (.aload_n 0, 1) := by decide +kernel
theorem dX4_row_23 : decode cX4_row 23 = .ok (.getfield 47, 3) := by decide +kernel
theorem dX4_row_26 : decode cX4_row 26 = .ok (.invokevirtual 122, 3) := by decide +kernel
theorem dX4_row_29 : decode cX4_row 29 = .ok (.invokevirtual 110, 3) := by decide +kernel
theorem dX4_row_32 : decode cX4_row 32 = .ok (.ifCond .ne 5, 3) := by decide +kernel
theorem dX4_row_35 : decode cX4_row 35 = .ok (.iconst 0, 1) := by decide +kernel
theorem dX4_row_36 : decode cX4_row 36 = .ok (.ireturn, 1) := by decide +kernel
theorem dX4_row_37 : decode cX4_row 37 = .ok (.aload_n 0, 1) := by decide +kernel
theorem dX4_row_38 : decode cX4_row 38 = .ok (.getfield 28, 3) := by decide +kernel
theorem dX4_row_41 : decode cX4_row 41 = .ok (.istore_n 2, 1) := by decide +kernel
theorem dX4_row_42 : decode cX4_row 42 = .ok (.iconst 0, 1) := by decide +kernel
theorem dX4_row_43 : decode cX4_row 43 = .ok (.istore_n 3, 1) := by decide +kernel
theorem dX4_row_44 : decode cX4_row 44 = .ok (.iload_n 3, 1) := by decide +kernel
theorem dX4_row_45 : decode cX4_row 45 = .ok (.aload_n 0, 1) := by decide +kernel
theorem dX4_row_46 : decode cX4_row 46 = .ok (.getfield 47, 3) := by decide +kernel
theorem dX4_row_49 : decode cX4_row 49 = .ok (.invokevirtual 122, 3) := by decide +kernel
theorem dX4_row_52 : decode cX4_row 52 = .ok (.if_icmp .ge 39, 3) := by decide +kernel
theorem dX4_row_55 : decode cX4_row 55 = .ok (.aload_n 0, 1) := by decide +kernel
theorem dX4_row_56 : decode cX4_row 56 = .ok (.aload_n 0, 1) := by decide +kernel
theorem dX4_row_57 : decode cX4_row 57 = .ok (.getfield 47, 3) := by decide +kernel
theorem dX4_row_60 : decode cX4_row 60 = .ok (.invokevirtual 126, 3) := by decide +kernel
theorem dX4_row_63 : decode cX4_row 63 = .ok (.invokevirtual 110, 3) := by decide +kernel
theorem dX4_row_66 : decode cX4_row 66 = .ok (.ifCond .ne 5, 3) := by decide +kernel
theorem dX4_row_69 : decode cX4_row 69 = .ok (.iconst 0, 1) := by decide +kernel
theorem dX4_row_70 : decode cX4_row 70 = .ok (.ireturn, 1) := by decide +kernel
theorem dX4_row_71 : decode cX4_row 71 = .ok (.aload_n 0, 1) := by decide +kernel
theorem dX4_row_72 : decode cX4_row 72 = .ok (.getfield 47, 3) := by decide +kernel
theorem dX4_row_75 : decode cX4_row 75 = .ok (.iload_n 1, 1) := by decide +kernel
theorem dX4_row_76 : decode cX4_row 76 = .ok (.iload_n 2, 1) := by decide +kernel
theorem dX4_row_77 : decode cX4_row 77 = .ok (.iload_n 3, 1) := by decide +kernel
theorem dX4_row_78 : decode cX4_row 78 = .ok (.aload_n 0, 1) := by decide +kernel
theorem dX4_row_79 : decode cX4_row 79 = .ok (.getfield 28, 3) := by decide +kernel
theorem dX4_row_82 : decode cX4_row 82 = .ok (.invokevirtual 171, 3) := by decide +kernel
theorem dX4_row_85 : decode cX4_row 85 = .ok (.iinc 3 1, 3) := by decide +kernel
theorem dX4_row_88 : decode cX4_row 88 = .ok (.goto (-44), 3) := by decide +kernel
theorem dX4_row_91 : decode cX4_row 91 = .ok (.aload_n 0, 1) := by decide +kernel
theorem dX4_row_92 : decode cX4_row 92 = .ok (.invokevirtual 70, 3) := by decide +kernel
theorem dX4_row_95 : decode cX4_row 95 = .ok (.iconst 1, 1) := by decide +kernel
theorem dX4_row_96 : decode cX4_row 96 = .ok (.ireturn, 1) := by decide +kernel
theorem dX4_turning_0 : decode cX4_turning 0 = .ok (.aload_n 0, 1) := by decide +kernel
theorem dX4_turning_1 : decode cX4_turning 1 = .ok (.bipush 6, 2) := by decide +kernel
theorem dX4_turning_3 : decode cX4_turning 3 = .ok (.invokevirtual 110, 3) := by decide +kernel
theorem dX4_turning_6 : decode cX4_turning 6 = .ok (.ifCond .ne 5, 3) := by decide +kernel
theorem dX4_turning_9 : decode cX4_turning 9 = .ok (.iconst 0, 1) := by decide +kernel
theorem dX4_turning_10 : decode cX4_turning 10 = .ok (.ireturn, 1) := by decide +kernel
theorem dX4_turning_11 : decode cX4_turning 11 = .ok (.aload_n 0, 1) := by decide +kernel
theorem dX4_turning_12 : decode cX4_turning 12 = .ok (.getfield 54, 3) := by decide +kernel
theorem dX4_turning_15 : decode cX4_turning 15 = .ok (.aload_n 0, 1) := by decide +kernel
theorem dX4_turning_16 : decode cX4_turning 16 = .ok (.getfield 47, 3) := by decide +kernel
theorem dX4_turning_19 : decode cX4_turning 19 = .ok (.invokevirtual 132, 3) := by decide +kernel
theorem dX4_turning_22 : decode cX4_turning 22 = .ok (.aload_n 0, 1) := by decide +kernel
theorem dX4_turning_23 : decode cX4_turning 23 = .ok (.getfield 47, 3) := by decide +kernel
theorem dX4_turning_26 : decode cX4_turning 26 = .ok (.aload_n 0, 1) := by decide +kernel
theorem dX4_turning_27 : decode cX4_turning 27 = .ok (.getfield 54, 3) := by decide +kernel
theorem dX4_turning_30 : decode cX4_turning 30 = .ok (.aload_n 0, 1) := by decide +kernel
theorem dX4_turning_31 : decode cX4_turning 31 = .ok (.getfield 28, 3) := by decide +kernel
theorem dX4_turning_34 : decode cX4_turning 34 = .ok (.invokevirtual 175, 3) := by decide +kernel
theorem dX4_turning_37 : decode cX4_turning 37 = .ok (.aload_n 0, 1) := by decide +kernel
theorem dX4_turning_38 : decode cX4_turning 38 = .ok (.invokevirtual 70, 3) := by decide +kernel
theorem dX4_turning_41 : decode cX4_turning 41 = .ok (.iconst 1, 1) := by decide +kernel
theorem dX4_turning_42 : decode cX4_turning 42 = .ok (.ireturn, 1) := by decide +kernel
theorem dX4_step_0 : decode cX4_step 0 = .ok (.aload_n 0, 1) := by decide +kernel
theorem dX4_step_1 : decode cX4_step 1 = .ok (.getfield 19, 3) := by decide +kernel
theorem dX4_step_4 : decode cX4_step 4 = .ok (.aload_n 0, 1) := by decide +kernel
theorem dX4_step_5 : decode cX4_step 5 = .ok (.getfield 15, 3) := by decide +kernel
theorem dX4_step_8 : decode cX4_step 8 = .ok (.if_icmp .ge 54, 3) := by decide +kernel
theorem dX4_step_11 : decode cX4_step 11 = .ok (.aload_n 0, 1) := by decide +kernel
theorem dX4_step_12 : decode cX4_step 12 = .ok (.getfield 19, 3) := by decide +kernel
theorem dX4_step_15 : decode cX4_step 15 = .ok (.sipush 600, 3) := by decide +kernel
theorem dX4_step_18 : decode cX4_step 18 = .ok (.if_icmp .ge 44, 3) := by decide +kernel
theorem dX4_step_21 : decode cX4_step 21 = .ok (.aload_n 0, 1) := by decide +kernel
theorem dX4_step_22 : decode cX4_step 22 = .ok (.getfield 11, 3) := by decide +kernel
theorem dX4_step_25 : decode cX4_step 25 = .ok (.aload_n 0, 1) := by decide +kernel
theorem dX4_step_26 : decode cX4_step 26 = .ok (.getfield 19, 3) := by decide +kernel
theorem dX4_step_29 : decode cX4_step 29 = .ok (.iaload, 1) := by decide +kernel
theorem dX4_step_30 : decode cX4_step 30 = .ok (.bipush 32, 2) := by decide +kernel
theorem dX4_step_32 : decode cX4_step 32 = .ok (.if_icmp .eq 17, 3) := by decide +kernel
theorem dX4_step_35 : decode cX4_step 35 = .ok (.aload_n 0, 1) := by decide +kernel
theorem dX4_step_36 : decode cX4_step 36 = .ok (.getfield 11, 3) := by decide +kernel
theorem dX4_step_39 : decode cX4_step 39 = .ok (.aload_n 0, 1) := by decide +kernel
theorem dX4_step_40 : decode cX4_step 40 = .ok (.getfield 19, 3) := by decide +kernel
theorem dX4_step_43 : decode cX4_step 43 = .ok (.iaload, 1) := by decide +kernel
theorem dX4_step_44 : decode cX4_step 44 = .ok (.bipush 10, 2) := by decide +kernel
theorem dX4_step_46 : decode cX4_step 46 = .ok (.if_icmp .ne 16, 3) := by decide +kernel
theorem dX4_step_49 : decode cX4_step 49 = .ok (.aload_n 0, 1) := by decide +kernel
theorem dX4_step_50 : decode cX4_step 50 = .ok (.dup, 1) := by decide +kernel
theorem dX4_step_51 : decode cX4_step 51 = .ok (.getfield 19, 3) := by decide +kernel
theorem dX4_step_54 : decode cX4_step 54 = .ok (.iconst 1, 1) := by decide +kernel
theorem dX4_step_55 : decode cX4_step 55 = .ok (.iadd, 1) := by decide +kernel
theorem dX4_step_56 : decode cX4_step 56 = .ok (.putfield 19, 3) := by decide +kernel
theorem dX4_step_59 : decode cX4_step 59 = .ok (.goto (-59), 3) := by decide +kernel
theorem dX4_step_62 : decode cX4_step 62 = .ok (.aload_n 0, 1) := by decide +kernel
theorem dX4_step_63 : decode cX4_step 63 = .ok (.aload_n 0, 1) := by decide +kernel
theorem dX4_step_64 : decode cX4_step 64 = .ok (.getfield 19, 3) := by decide +kernel
theorem dX4_step_67 : decode cX4_step 67 = .ok (.putfield 25, 3) := by decide +kernel
theorem dX4_step_70 : decode cX4_step 70 = .ok (.aload_n 0, 1) := by decide +kernel
theorem dX4_step_71 : decode cX4_step 71 = .ok (.getfield 19, 3) := by decide +kernel
theorem dX4_step_74 : decode cX4_step 74 = .ok (.aload_n 0, 1) := by decide +kernel
theorem dX4_step_75 : decode cX4_step 75 = .ok (.getfield 15, 3) := by decide +kernel
theorem dX4_step_78 : decode cX4_step 78 = .ok (.if_icmp .ge 13, 3) := by decide +kernel
theorem dX4_step_81 : decode cX4_step 81 = .ok (.aload_n 0, 1) := by decide +kernel
theorem dX4_step_82 : decode cX4_step 82 = .ok (.getfield 19, 3) := by decide +kernel
theorem dX4_step_85 : decode cX4_step 85 = .ok (.sipush 600, 3) := by decide +kernel
theorem dX4_step_88 : decode cX4_step 88 = .ok (.if_icmp .lt 11, 3) := by decide +kernel
theorem dX4_step_91 : decode cX4_step 91 = .ok (.aload_n 0, 1) := by decide +kernel
theorem dX4_step_92 : decode cX4_step 92 = .ok (.iconst 0, 1) := by decide +kernel
theorem dX4_step_93 : decode cX4_step 93 = .ok (.putfield 22, 3) := by decide +kernel
theorem dX4_step_96 : decode cX4_step 96 = .ok (.goto 127, 3) := by decide +kernel
theorem dX4_step_99 : decode cX4_step 99 = .ok (.aload_n 0, 1) := by decide +kernel
theorem dX4_step_100 : decode cX4_step 100 = .ok (.getfield 11, 3) := by decide +kernel
theorem dX4_step_103 : decode cX4_step 103 = .ok (.aload_n 0, 1) := by decide +kernel
theorem dX4_step_104 : decode cX4_step 104 = .ok (.getfield 19, 3) := by decide +kernel
theorem dX4_step_107 : decode cX4_step 107 = .ok (.iaload, 1) := by decide +kernel
theorem dX4_step_108 : decode cX4_step 108 = .ok (.invokestatic 179, 3) := by decide +kernel
theorem dX4_step_111 : decode cX4_step 111 = .ok (.ifCond .eq 57, 3) := by decide +kernel
theorem dX4_step_114 : decode cX4_step 114 = .ok (.aload_n 0, 1) := by decide +kernel
theorem dX4_step_115 : decode cX4_step 115 = .ok (.iconst 1, 1) := by decide +kernel
theorem dX4_step_116 : decode cX4_step 116 = .ok (.putfield 22, 3) := by decide +kernel
theorem dX4_step_119 : decode cX4_step 119 = .ok (.aload_n 0, 1) := by decide +kernel
theorem dX4_step_120 : decode cX4_step 120 = .ok (.getfield 19, 3) := by decide +kernel
theorem dX4_step_123 : decode cX4_step 123 = .ok (.aload_n 0, 1) := by decide +kernel
theorem dX4_step_124 : decode cX4_step 124 = .ok (.getfield 15, 3) := by decide +kernel
theorem dX4_step_127 : decode cX4_step 127 = .ok (.if_icmp .ge 96, 3) := by decide +kernel
theorem dX4_step_130 : decode cX4_step 130 = .ok (.aload_n 0, 1) := by decide +kernel
theorem dX4_step_131 : decode cX4_step 131 = .ok (.getfield 19, 3) := by decide +kernel
theorem dX4_step_134 : decode cX4_step 134 = .ok (.sipush 600, 3) := by decide +kernel
theorem dX4_step_137 : decode cX4_step 137 = .ok (.if_icmp .ge 86, 3) := by decide +kernel
theorem dX4_step_140 : decode cX4_step 140 = .ok (.aload_n 0, 1) := by decide +kernel
theorem dX4_step_141 : decode cX4_step 141 = .ok (.getfield 11, 3) := by decide +kernel
theorem dX4_step_144 : decode cX4_step 144 = .ok (.aload_n 0, 1) := by decide +kernel
theorem dX4_step_145 : decode cX4_step 145 = .ok (.getfield 19, 3) := by decide +kernel
theorem dX4_step_148 : decode cX4_step 148 = .ok (.iaload, 1) := by decide +kernel
theorem dX4_step_149 : decode cX4_step 149 = .ok (.invokestatic 179, 3) := by decide +kernel
theorem dX4_step_152 : decode cX4_step 152 = .ok (.ifCond .eq 71, 3) := by decide +kernel
theorem dX4_step_155 : decode cX4_step 155 = .ok (.aload_n 0, 1) := by decide +kernel
theorem dX4_step_156 : decode cX4_step 156 = .ok (.dup, 1) := by decide +kernel
theorem dX4_step_157 : decode cX4_step 157 = .ok (.getfield 19, 3) := by decide +kernel
theorem dX4_step_160 : decode cX4_step 160 = .ok (.iconst 1, 1) := by decide +kernel
theorem dX4_step_161 : decode cX4_step 161 = .ok (.iadd, 1) := by decide +kernel
theorem dX4_step_162 : decode cX4_step 162 = .ok (.putfield 19, 3) := by decide +kernel
theorem dX4_step_165 : decode cX4_step 165 = .ok (.goto (-46), 3) := by decide +kernel
theorem dX4_step_168 : decode cX4_step 168 = .ok (.aload_n 0, 1) := by decide +kernel
theorem dX4_step_169 : decode cX4_step 169 = .ok (.getfield 11, 3) := by decide +kernel
theorem dX4_step_172 : decode cX4_step 172 = .ok (.aload_n 0, 1) := by decide +kernel
theorem dX4_step_173 : decode cX4_step 173 = .ok (.getfield 19, 3) := by decide +kernel
theorem dX4_step_176 : decode cX4_step 176 = .ok (.iaload, 1) := by decide +kernel
theorem dX4_step_177 : decode cX4_step 177 = .ok (.invokestatic 182, 3) := by decide +kernel
theorem dX4_step_180 : decode cX4_step 180 = .ok (.ifCond .eq 10, 3) := by decide +kernel
theorem dX4_step_183 : decode cX4_step 183 = .ok (.aload_n 0, 1) := by decide +kernel
theorem dX4_step_184 : decode cX4_step 184 = .ok (.invokevirtual 185, 3) := by decide +kernel
theorem dX4_step_187 : decode cX4_step 187 = .ok (.goto 36, 3) := by decide +kernel
theorem dX4_step_190 : decode cX4_step 190 = .ok (.aload_n 0, 1) := by decide +kernel
theorem dX4_step_191 : decode cX4_step 191 = .ok (.aload_n 0, 1) := by decide +kernel
theorem dX4_step_192 : decode cX4_step 192 = .ok (.getfield 11, 3) := by decide +kernel
theorem dX4_step_195 : decode cX4_step 195 = .ok (.aload_n 0, 1) := by decide +kernel
theorem dX4_step_196 : decode cX4_step 196 = .ok (.getfield 19, 3) := by decide +kernel
theorem dX4_step_199 : decode cX4_step 199 = .ok (.iaload, 1) := by decide +kernel
theorem dX4_step_200 : decode cX4_step 200 = .ok (.bipush 59, 2) := by decide +kernel
theorem dX4_step_202 : decode cX4_step 202 = .ok (.if_icmp .ne 7, 3) := by decide +kernel
theorem dX4_step_205 : decode cX4_step 205 = .ok (.iconst 3, 1) := by decide +kernel
theorem dX4_step_206 : decode cX4_step 206 = .ok (.goto 4, 3) := by decide +kernel
theorem dX4_step_209 : decode cX4_step 209 = .ok (.iconst 4, 1) := by decide +kernel
theorem dX4_step_210 : decode cX4_step 210 = .ok (.putfield 22, 3) := by decide +kernel
theorem dX4_step_213 : decode cX4_step 213 = .ok (.aload_n 0, 1) := by decide +kernel
theorem dX4_step_214 : decode cX4_step 214 = .ok (.dup, 1) := by decide +kernel
theorem dX4_step_215 : decode cX4_step 215 = .ok (.getfield 19, 3) := by decide +kernel
theorem dX4_step_218 : decode cX4_step 218 = .ok (.iconst 1, 1) := by decide +kernel
theorem dX4_step_219 : decode cX4_step 219 = .ok (.iadd, 1) := by decide +kernel
theorem dX4_step_220 : decode cX4_step 220 = .ok (.putfield 19, 3) := by decide +kernel
theorem dX4_step_223 : decode cX4_step 223 = .ok (.return_, 1) := by decide +kernel
theorem dX4_stepNumber_0 : decode cX4_stepNumber 0 = .ok (.aload_n 0, 1) := by decide +kernel
theorem dX4_stepNumber_1 : decode cX4_stepNumber 1 = .ok (.iconst 0, 1) := by decide +kernel
theorem dX4_stepNumber_2 : decode cX4_stepNumber 2 = .ok (.putfield 28, 3) := by decide +kernel
theorem dX4_stepNumber_5 : decode cX4_stepNumber 5 = .ok (.aload_n 0, 1) := by decide +kernel
theorem dX4_stepNumber_6 : decode cX4_stepNumber 6 = .ok (.getfield 19, 3) := by decide +kernel
theorem dX4_stepNumber_9 : decode cX4_stepNumber 9 = .ok (.aload_n 0, 1) := by decide +kernel
theorem dX4_stepNumber_10 : decode cX4_stepNumber 10 = .ok (.getfield 15, 3) := by decide +kernel
theorem dX4_stepNumber_13 : decode cX4_stepNumber 13 = .ok (.if_icmp .ge 78, 3) := by decide +kernel
theorem dX4_stepNumber_16 : decode cX4_stepNumber 16 = .ok (.aload_n 0, 1) := by decide +kernel
theorem dX4_stepNumber_17 : decode cX4_stepNumber 17 = .ok (.getfield 19, 3) := by decide +kernel
theorem dX4_stepNumber_20 : decode cX4_stepNumber 20 = .ok (.sipush 600, 3) := by decide +kernel
theorem dX4_stepNumber_23 : decode cX4_stepNumber 23 = .ok (.if_icmp .ge 68, 3) := by decide +kernel
theorem dX4_stepNumber_26 : decode cX4_stepNumber 26 = .ok (.aload_n 0, 1) := by decide +kernel
theorem dX4_stepNumber_27 : decode cX4_stepNumber 27 = .ok (.getfield 11, 3) := by decide +kernel
theorem dX4_stepNumber_30 : decode cX4_stepNumber 30 = .ok (.aload_n 0, 1) := by decide +kernel
theorem dX4_stepNumber_31 : decode cX4_stepNumber 31 = .ok (.getfield 19, 3) := by decide +kernel
theorem dX4_stepNumber_34 : decode cX4_stepNumber 34 = .ok (.iaload, 1) := by decide +kernel
theorem dX4_stepNumber_35 : decode cX4_stepNumber 35 = .ok (.invokestatic 182, 3) := by decide +kernel
theorem dX4_stepNumber_38 : decode cX4_stepNumber 38 = .ok (.ifCond .eq 53, 3) := by decide +kernel
theorem dX4_stepNumber_41 : decode cX4_stepNumber 41 = .ok (.aload_n 0, 1) := by decide +kernel
theorem dX4_stepNumber_42 : decode cX4_stepNumber 42 = .ok (.getfield 19, 3) := by decide +kernel
theorem dX4_stepNumber_45 : decode cX4_stepNumber 45 = .ok (.aload_n 0, 1) := by decide +kernel
theorem dX4_stepNumber_46 : decode cX4_stepNumber 46 = .ok (.getfield 25, 3) := by decide +kernel
theorem dX4_stepNumber_49 : decode cX4_stepNumber 49 = .ok (.isub, 1) := by decide +kernel
theorem dX4_stepNumber_50 : decode cX4_stepNumber 50 = .ok (.iconst 4, 1) := by decide +kernel
theorem dX4_stepNumber_51 : decode cX4_stepNumber 51 = .ok (.if_icmp .ge 27, 3) := by decide +kernel
theorem dX4_stepNumber_54 : decode cX4_stepNumber 54 = .ok (.aload_n 0, 1) := by decide +kernel
theorem dX4_stepNumber_55 : decode cX4_stepNumber 55 = .ok (.bipush 10, 2) := by decide +kernel
theorem dX4_stepNumber_57 : decode cX4_stepNumber 57 = .ok (.aload_n 0, 1) := by decide +kernel
theorem dX4_stepNumber_58 : decode cX4_stepNumber 58 = .ok (.getfield 28, 3) := by decide +kernel
theorem dX4_stepNumber_61 : decode cX4_stepNumber 61 = .ok (.imul, 1) := by decide +kernel
theorem dX4_stepNumber_62 : decode cX4_stepNumber 62 = .ok (.aload_n 0, 1) := by decide +kernel
theorem dX4_stepNumber_63 : decode cX4_stepNumber 63 = .ok (.getfield 11, 3) := by decide +kernel
theorem dX4_stepNumber_66 : decode cX4_stepNumber 66 = .ok (.aload_n 0, 1) := by decide +kernel
theorem dX4_stepNumber_67 : decode cX4_stepNumber 67 = .ok (.getfield 19, 3) := by decide +kernel
theorem dX4_stepNumber_70 : decode cX4_stepNumber 70 = .ok (.iaload, 1) := by decide +kernel
theorem dX4_stepNumber_71 : decode cX4_stepNumber 71 = .ok (.iadd, 1) := by decide +kernel
theorem dX4_stepNumber_72 : decode cX4_stepNumber 72 = .ok (.bipush 48, 2) := by decide +kernel
theorem dX4_stepNumber_74 : decode cX4_stepNumber 74 = .ok (.isub, 1) := by decide +kernel
theorem dX4_stepNumber_75 : decode cX4_stepNumber 75 = .ok (.putfield 28, 3) := by decide +kernel
theorem dX4_stepNumber_78 : decode cX4_stepNumber 78 = .ok (.aload_n 0, 1) := by decide +kernel
theorem dX4_stepNumber_79 : decode cX4_stepNumber 79 = .ok (.dup, 1) := by decide +kernel
theorem dX4_stepNumber_80 : decode cX4_stepNumber 80 = .ok (.getfield 19, 3) := by decide +kernel
theorem dX4_stepNumber_83 : decode cX4_stepNumber 83 = .ok (.iconst 1, 1) := by decide +kernel
theorem dX4_stepNumber_84 : decode cX4_stepNumber 84 = .ok (.iadd, 1) := by decide +kernel
theorem dX4_stepNumber_85 : decode cX4_stepNumber 85 = .ok (.putfield 19, 3) := by decide +kernel
theorem dX4_stepNumber_88 : decode cX4_stepNumber 88 = .ok (.goto (-83), 3) := by decide +kernel
theorem dX4_stepNumber_91 : decode cX4_stepNumber 91 = .ok (.aload_n 0, 1) := by decide +kernel
theorem dX4_stepNumber_92 : decode cX4_stepNumber 92 = .ok (.aload_n 0, 1) := by decide +kernel
theorem dX4_stepNumber_93 : decode cX4_stepNumber 93 = .ok (.getfield 19, 3) := by decide +kernel
theorem dX4_stepNumber_96 : decode cX4_stepNumber 96 = .ok (.aload_n 0, 1) := by decide +kernel
theorem dX4_stepNumber_97 : decode cX4_stepNumber 97 = .ok (.getfield 25, 3) := by decide +kernel
theorem dX4_stepNumber_100 : decode cX4_stepNumber 100 = .ok (.isub, 1) := by decide +kernel
theorem dX4_stepNumber_101 : decode cX4_stepNumber 101 = .ok (.iconst 4, 1) := by decide +kernel
theorem dX4_stepNumber_102 : decode cX4_stepNumber 102 = .ok (.if_icmp .gt 7, 3) := by decide +kernel
theorem dX4_stepNumber_105 : decode cX4_stepNumber 105 = .ok (.iconst 2, 1) := by decide +kernel
theorem dX4_stepNumber_106 : decode cX4_stepNumber 106 = .ok (.goto 4, 3) := by decide +kernel
theorem dX4_stepNumber_109 : decode cX4_stepNumber 109 = .ok (.iconst 4, 1) := by decide +kernel
theorem dX4_stepNumber_110 : decode cX4_stepNumber 110 = .ok (.putfield 22, 3) := by decide +kernel
theorem dX4_stepNumber_113 : decode cX4_stepNumber 113 = .ok (.return_, 1) := by decide +kernel
theorem dX4_isWord_0 : decode cX4_isWord 0 = .ok (.aload_n 0, 1) := by decide +kernel
theorem dX4_isWord_1 : decode cX4_isWord 1 = .ok (.getfield 22, 3) := by decide +kernel
theorem dX4_isWord_4 : decode cX4_isWord 4 = .ok (.iconst 1, 1) := by decide +kernel
theorem dX4_isWord_5 : decode cX4_isWord 5 = .ok (.if_icmp .ne 29, 3) := by decide +kernel
theorem dX4_isWord_8 : decode cX4_isWord 8 = .ok (.aload_n 0, 1) := by decide +kernel
theorem dX4_isWord_9 : decode cX4_isWord 9 = .ok (.getfield 19, 3) := by decide +kernel
theorem dX4_isWord_12 : decode cX4_isWord 12 = .ok (.aload_n 0, 1) := by decide +kernel
theorem dX4_isWord_13 : decode cX4_isWord 13 = .ok (.getfield 25, 3) := by decide +kernel
theorem dX4_isWord_16 : decode cX4_isWord 16 = .ok (.isub, 1) := by decide +kernel
theorem dX4_isWord_17 : decode cX4_isWord 17 = .ok (.aload_n 1, 1) := by decide +kernel
theorem dX4_isWord_18 : decode cX4_isWord 18 = .ok (.invokevirtual 188, 3) := by decide +kernel
theorem dX4_isWord_21 : decode cX4_isWord 21 = .ok (.if_icmp .ne 13, 3) := by decide +kernel
theorem dX4_isWord_24 : decode cX4_isWord 24 = .ok (.aload_n 0, 1) := by decide +kernel
theorem dX4_isWord_25 : decode cX4_isWord 25 = .ok (.getfield 19, 3) := by decide +kernel
theorem dX4_isWord_28 : decode cX4_isWord 28 = .ok (.sipush 600, 3) := by decide +kernel
theorem dX4_isWord_31 : decode cX4_isWord 31 = .ok (.if_icmp .le 5, 3) := by decide +kernel
theorem dX4_isWord_34 : decode cX4_isWord 34 = .ok (.iconst 0, 1) := by decide +kernel
theorem dX4_isWord_35 : decode cX4_isWord 35 = .ok (.ireturn, 1) := by decide +kernel
theorem dX4_isWord_36 : decode cX4_isWord 36 = .ok (.iconst 0, 1) := by decide +kernel
theorem dX4_isWord_37 : decode cX4_isWord 37 = .ok (.istore_n 2, 1) := by decide +kernel
theorem dX4_isWord_38 : decode cX4_isWord 38 = .ok (.iload_n 2, 1) := by decide +kernel
theorem dX4_isWord_39 : decode cX4_isWord 39 = .ok (.aload_n 1, 1) := by decide +kernel
theorem dX4_isWord_40 : decode cX4_isWord 40 = .ok (.invokevirtual 188, 3) := by decide +kernel
theorem dX4_isWord_43 : decode cX4_isWord 43 = .ok (.if_icmp .ge 30, 3) := by decide +kernel
theorem dX4_isWord_46 : decode cX4_isWord 46 = .ok (.aload_n 0, 1) := by decide +kernel
theorem dX4_isWord_47 : decode cX4_isWord 47 = .ok (.getfield 11, 3) := by decide +kernel
theorem dX4_isWord_50 : decode cX4_isWord 50 = .ok (.aload_n 0, 1) := by decide +kernel
theorem dX4_isWord_51 : decode cX4_isWord 51 = .ok (.getfield 25, 3) := by decide +kernel
theorem dX4_isWord_54 : decode cX4_isWord 54 = .ok (.iload_n 2, 1) := by decide +kernel
theorem dX4_isWord_55 : decode cX4_isWord 55 = .ok (.iadd, 1) := by decide +kernel
theorem dX4_isWord_56 : decode cX4_isWord 56 = .ok (.iaload, 1) := by decide +kernel
theorem dX4_isWord_57 : decode cX4_isWord 57 = .ok (.aload_n 1, 1) := by decide +kernel
theorem dX4_isWord_58 : decode cX4_isWord 58 = .ok (.iload_n 2, 1) := by decide +kernel
theorem dX4_isWord_59 : decode cX4_isWord 59 = .ok (.invokevirtual 192, 3) := by decide +kernel
theorem dX4_isWord_62 : decode cX4_isWord 62 = .ok (.if_icmp .eq 5, 3) := by decide +kernel
theorem dX4_isWord_65 : decode cX4_isWord 65 = .ok (.iconst 0, 1) := by decide +kernel
theorem dX4_isWord_66 : decode cX4_isWord 66 = .ok (.ireturn, 1) := by decide +kernel
theorem dX4_isWord_67 : decode cX4_isWord 67 = .ok (.iinc 2 1, 3) := by decide +kernel
theorem dX4_isWord_70 : decode cX4_isWord 70 = .ok (.goto (-32), 3) := by decide +kernel
theorem dX4_isWord_73 : decode cX4_isWord 73 = .ok (.iconst 1, 1) := by decide +kernel
theorem dX4_isWord_74 : decode cX4_isWord 74 = .ok (.ireturn, 1) := by decide +kernel
theorem dX4_isLetter_0 : decode cX4_isLetter 0 = .ok (.iload_n 0, 1) := by decide +kernel
theorem dX4_isLetter_1 : decode cX4_isLetter 1 = .ok (.bipush 97, 2) := by decide +kernel
theorem dX4_isLetter_3 : decode cX4_isLetter 3 = .ok (.if_icmp .lt 9, 3) := by decide +kernel
theorem dX4_isLetter_6 : decode cX4_isLetter 6 = .ok (.iload_n 0, 1) := by decide +kernel
theorem dX4_isLetter_7 : decode cX4_isLetter 7 = .ok (.bipush 122, 2) := by decide +kernel
theorem dX4_isLetter_9 : decode cX4_isLetter 9 = .ok (.if_icmp .le 15, 3) := by decide +kernel
theorem dX4_isLetter_12 : decode cX4_isLetter 12 = .ok (.iload_n 0, 1) := by decide +kernel
theorem dX4_isLetter_13 : decode cX4_isLetter 13 = .ok (.bipush 65, 2) := by decide +kernel
theorem dX4_isLetter_15 : decode cX4_isLetter 15 = .ok (.if_icmp .lt 13, 3) := by decide +kernel
theorem dX4_isLetter_18 : decode cX4_isLetter 18 = .ok (.iload_n 0, 1) := by decide +kernel
theorem dX4_isLetter_19 : decode cX4_isLetter 19 = .ok (.bipush 90, 2) := by decide +kernel
theorem dX4_isLetter_21 : decode cX4_isLetter 21 = .ok (.if_icmp .gt 7, 3) := by decide +kernel
theorem dX4_isLetter_24 : decode cX4_isLetter 24 = .ok (.iconst 1, 1) := by decide +kernel
theorem dX4_isLetter_25 : decode cX4_isLetter 25 = .ok (.goto 4, 3) := by decide +kernel
theorem dX4_isLetter_28 : decode cX4_isLetter 28 = .ok (.iconst 0, 1) := by decide +kernel
theorem dX4_isLetter_29 : decode cX4_isLetter 29 = .ok (.ireturn, 1) := by decide +kernel
theorem dX4_isDigit_0 : decode cX4_isDigit 0 = .ok (.iload_n 0, 1) := by decide +kernel
theorem dX4_isDigit_1 : decode cX4_isDigit 1 = .ok (.bipush 48, 2) := by decide +kernel
theorem dX4_isDigit_3 : decode cX4_isDigit 3 = .ok (.if_icmp .lt 13, 3) := by decide +kernel
theorem dX4_isDigit_6 : decode cX4_isDigit 6 = .ok (.iload_n 0, 1) := by decide +kernel
theorem dX4_isDigit_7 : decode cX4_isDigit 7 = .ok (.bipush 57, 2) := by decide +kernel
theorem dX4_isDigit_9 : decode cX4_isDigit 9 = .ok (.if_icmp .gt 7, 3) := by decide +kernel
theorem dX4_isDigit_12 : decode cX4_isDigit 12 = .ok (.iconst 1, 1) := by decide +kernel
theorem dX4_isDigit_13 : decode cX4_isDigit 13 = .ok (.goto 4, 3) := by decide +kernel
theorem dX4_isDigit_16 : decode cX4_isDigit 16 = .ok (.iconst 0, 1) := by decide +kernel
theorem dX4_isDigit_17 : decode cX4_isDigit 17 = .ok (.ireturn, 1) := by decide +kernel
theorem dX5_init_0 : decode cX5_init 0 = .ok (.aload_n 0, 1) := by decide +kernel
theorem dX5_init_1 : decode cX5_init 1 = .ok (.invokespecial 3, 3) := by decide +kernel
theorem dX5_init_4 : decode cX5_init 4 = .ok (.aload_n 0, 1) := by decide +kernel
theorem dX5_init_5 : decode cX5_init 5 = .ok (.iconst 2, 1) := by decide +kernel
theorem dX5_init_6 : decode cX5_init 6 = .ok (.putfield 9, 3) := by decide +kernel
theorem dX5_init_9 : decode cX5_init 9 = .ok (.aload_n 0, 1) := by decide +kernel
theorem dX5_init_10 : decode cX5_init 10 = .ok (.iconst 1, 1) := by decide +kernel
theorem dX5_init_11 : decode cX5_init 11 = .ok (.putfield 15, 3) := by decide +kernel
theorem dX5_init_14 : decode cX5_init 14 = .ok (.aload_n 0, 1) := by decide +kernel
theorem dX5_init_15 : decode cX5_init 15 = .ok (.iconst 2, 1) := by decide +kernel
theorem dX5_init_16 : decode cX5_init 16 = .ok (.putfield 18, 3) := by decide +kernel
theorem dX5_init_19 : decode cX5_init 19 = .ok (.aload_n 0, 1) := by decide +kernel
theorem dX5_init_20 : decode cX5_init 20 = .ok (.iconst 0, 1) := by decide +kernel
theorem dX5_init_21 : decode cX5_init 21 = .ok (.putfield 21, 3) := by decide +kernel
theorem dX5_init_24 : decode cX5_init 24 = .ok (.aload_n 0, 1) := by decide +kernel
theorem dX5_init_25 : decode cX5_init 25 = .ok (.iconst 0, 1) := by decide +kernel
theorem dX5_init_26 : decode cX5_init 26 = .ok (.putfield 24, 3) := by decide +kernel
theorem dX5_init_29 : decode cX5_init 29 = .ok (.aload_n 0, 1) := by decide +kernel
theorem dX5_init_30 : decode cX5_init 30 = .ok (.sipush 729, 3) := by decide +kernel
theorem dX5_init_33 : decode cX5_init 33 = .ok (.newarray .int, 2) := by decide +kernel
theorem dX5_init_35 : decode cX5_init 35 = .ok (.putfield 27, 3) := by decide +kernel
theorem dX5_init_38 : decode cX5_init 38 = .ok (.aload_n 0, 1) := by decide +kernel
theorem dX5_init_39 : decode cX5_init 39 = .ok (.sipush 729, 3) := by decide +kernel
theorem dX5_init_42 : decode cX5_init 42 = .ok (.newarray .int, 2) := by decide +kernel
theorem dX5_init_44 : decode cX5_init 44 = .ok (.putfield 31, 3) := by decide +kernel
theorem dX5_init_47 : decode cX5_init 47 = .ok (.aload_n 0, 1) := by decide +kernel
theorem dX5_init_48 : decode cX5_init 48 = .ok (.bipush 27, 2) := by decide +kernel
theorem dX5_init_50 : decode cX5_init 50 = .ok (.newarray .int, 2) := by decide +kernel
theorem dX5_init_52 : decode cX5_init 52 = .ok (.putfield 34, 3) := by decide +kernel
theorem dX5_init_55 : decode cX5_init 55 = .ok (.aload_n 0, 1) := by decide +kernel
theorem dX5_init_56 : decode cX5_init 56 = .ok (.bipush 27, 2) := by decide +kernel
theorem dX5_init_58 : decode cX5_init 58 = .ok (.newarray .int, 2) := by decide +kernel
theorem dX5_init_60 : decode cX5_init 60 = .ok (.putfield 37, 3) := by decide +kernel
theorem dX5_init_63 : decode cX5_init 63 = .ok (.aload_n 0, 1) := by decide +kernel
theorem dX5_init_64 : decode cX5_init 64 = .ok (.bipush 27, 2) := by decide +kernel
theorem dX5_init_66 : decode cX5_init 66 = .ok (.newarray .int, 2) := by decide +kernel
theorem dX5_init_68 : decode cX5_init 68 = .ok (.putfield 40, 3) := by decide +kernel
theorem dX5_init_71 : decode cX5_init 71 = .ok (.aload_n 0, 1) := by decide +kernel
theorem dX5_init_72 : decode cX5_init 72 = .ok (.bipush 27, 2) := by decide +kernel
theorem dX5_init_74 : decode cX5_init 74 = .ok (.newarray .int, 2) := by decide +kernel
theorem dX5_init_76 : decode cX5_init 76 = .ok (.putfield 43, 3) := by decide +kernel
theorem dX5_init_79 : decode cX5_init 79 = .ok (.aload_n 0, 1) := by decide +kernel
theorem dX5_init_80 : decode cX5_init 80 = .ok (.iconst 5, 1) := by decide +kernel
theorem dX5_init_81 : decode cX5_init 81 = .ok (.newarray .int, 2) := by decide +kernel
theorem dX5_init_83 : decode cX5_init 83 = .ok (.putfield 46, 3) := by decide +kernel
theorem dX5_init_86 : decode cX5_init 86 = .ok (.aload_n 0, 1) := by decide +kernel
theorem dX5_init_87 : decode cX5_init 87 = .ok (.iconst 5, 1) := by decide +kernel
theorem dX5_init_88 : decode cX5_init 88 = .ok (.newarray .int, 2) := by decide +kernel
theorem dX5_init_90 : decode cX5_init 90 = .ok (.putfield 49, 3) := by decide +kernel
theorem dX5_init_93 : decode cX5_init 93 = .ok (.aload_n 0, 1) := by decide +kernel
theorem dX5_init_94 : decode cX5_init 94 = .ok (.iconst 5, 1) := by decide +kernel
theorem dX5_init_95 : decode cX5_init 95 = .ok (.newarray .int, 2) := by decide +kernel
theorem dX5_init_97 : decode cX5_init 97 = .ok (.putfield 52, 3) := by decide +kernel
theorem dX5_init_100 : decode cX5_init 100 = .ok (.aload_n 0, 1) := by decide +kernel
theorem dX5_init_101 : decode cX5_init 101 = .ok (.bipush 25, 2) := by decide +kernel
theorem dX5_init_103 : decode cX5_init 103 = .ok (.newarray .int, 2) := by decide +kernel
theorem dX5_init_105 : decode cX5_init 105 = .ok (.putfield 55, 3) := by decide +kernel
theorem dX5_init_108 : decode cX5_init 108 = .ok (.aload_n 0, 1) := by decide +kernel
theorem dX5_init_109 : decode cX5_init 109 = .ok (.bipush 25, 2) := by decide +kernel
theorem dX5_init_111 : decode cX5_init 111 = .ok (.newarray .int, 2) := by decide +kernel
theorem dX5_init_113 : decode cX5_init 113 = .ok (.putfield 58, 3) := by decide +kernel
theorem dX5_init_116 : decode cX5_init 116 = .ok (.aload_n 0, 1) := by decide +kernel
theorem dX5_init_117 : decode cX5_init 117 = .ok (.iconst 5, 1) := by decide +kernel
theorem dX5_init_118 : decode cX5_init 118 = .ok (.newarray .int, 2) := by decide +kernel
theorem dX5_init_120 : decode cX5_init 120 = .ok (.putfield 61, 3) := by decide +kernel
theorem dX5_init_123 : decode cX5_init 123 = .ok (.aload_n 0, 1) := by decide +kernel
theorem dX5_init_124 : decode cX5_init 124 = .ok (.bipush 27, 2) := by decide +kernel
theorem dX5_init_126 : decode cX5_init 126 = .ok (.newarray .int, 2) := by decide +kernel
theorem dX5_init_128 : decode cX5_init 128 = .ok (.putfield 64, 3) := by decide +kernel
theorem dX5_init_131 : decode cX5_init 131 = .ok (.return_, 1) := by decide +kernel
theorem dX6_init_0 : decode cX6_init 0 = .ok (.aload_n 0, 1) := by decide +kernel
theorem dX6_init_1 : decode cX6_init 1 = .ok (.invokespecial 3, 3) := by decide +kernel
theorem dX6_init_4 : decode cX6_init 4 = .ok (.aload_n 0, 1) := by decide +kernel
theorem dX6_init_5 : decode cX6_init 5 = .ok (.bipush 6, 2) := by decide +kernel
theorem dX6_init_7 : decode cX6_init 7 = .ok (.anewarray 9, 3) := by decide +kernel
theorem dX6_init_10 : decode cX6_init 10 = .ok (.putfield 11, 3) := by decide +kernel
theorem dX6_init_13 : decode cX6_init 13 = .ok (.aload_n 0, 1) := by decide +kernel
theorem dX6_init_14 : decode cX6_init 14 = .ok (.bipush 20, 2) := by decide +kernel
theorem dX6_init_16 : decode cX6_init 16 = .ok (.anewarray 9, 3) := by decide +kernel
theorem dX6_init_19 : decode cX6_init 19 = .ok (.putfield 17, 3) := by decide +kernel
theorem dX6_init_22 : decode cX6_init 22 = .ok (.aload_n 0, 1) := by decide +kernel
theorem dX6_init_23 : decode cX6_init 23 = .ok (.bipush 20, 2) := by decide +kernel
theorem dX6_init_25 : decode cX6_init 25 = .ok (.newarray .int, 2) := by decide +kernel
theorem dX6_init_27 : decode cX6_init 27 = .ok (.putfield 20, 3) := by decide +kernel
theorem dX6_init_30 : decode cX6_init 30 = .ok (.aload_n 0, 1) := by decide +kernel
theorem dX6_init_31 : decode cX6_init 31 = .ok (.bipush 15, 2) := by decide +kernel
theorem dX6_init_33 : decode cX6_init 33 = .ok (.newarray .int, 2) := by decide +kernel
theorem dX6_init_35 : decode cX6_init 35 = .ok (.putfield 24, 3) := by decide +kernel
theorem dX6_init_38 : decode cX6_init 38 = .ok (.aload_n 0, 1) := by decide +kernel
theorem dX6_init_39 : decode cX6_init 39 = .ok (.iconst 0, 1) := by decide +kernel
theorem dX6_init_40 : decode cX6_init 40 = .ok (.putfield 27, 3) := by decide +kernel
theorem dX6_init_43 : decode cX6_init 43 = .ok (.aload_n 0, 1) := by decide +kernel
theorem dX6_init_44 : decode cX6_init 44 = .ok (.iconst 0, 1) := by decide +kernel
theorem dX6_init_45 : decode cX6_init 45 = .ok (.putfield 31, 3) := by decide +kernel
theorem dX6_init_48 : decode cX6_init 48 = .ok (.iconst 0, 1) := by decide +kernel
theorem dX6_init_49 : decode cX6_init 49 = .ok (.istore_n 1, 1) := by decide +kernel
theorem dX6_init_50 : decode cX6_init 50 = .ok (.iload_n 1, 1) := by decide +kernel
theorem dX6_init_51 : decode cX6_init 51 = .ok (.bipush 6, 2) := by decide +kernel
theorem dX6_init_53 : decode cX6_init 53 = .ok (.if_icmp .ge 22, 3) := by decide +kernel
theorem dX6_init_56 : decode cX6_init 56 = .ok (.aload_n 0, 1) := by decide +kernel
theorem dX6_init_57 : decode cX6_init 57 = .ok (.getfield 11, 3) := by decide +kernel
theorem dX6_init_60 : decode cX6_init 60 = .ok (.iload_n 1, 1) := by decide +kernel
theorem dX6_init_61 : decode cX6_init 61 = .ok (.new 9, 3) := by decide +kernel
theorem dX6_init_64 : decode cX6_init 64 = .ok (.dup, 1) := by decide +kernel
theorem dX6_init_65 : decode cX6_init 65 = .ok (.invokespecial 34, 3) := by decide +kernel
theorem dX6_init_68 : decode cX6_init 68 = .ok (.aastore, 1) := by decide +kernel
theorem dX6_init_69 : decode cX6_init 69 = .ok (.iinc 1 1, 3) := by decide +kernel
theorem dX6_init_72 : decode cX6_init 72 = .ok (.goto (-22), 3) := by decide +kernel
theorem dX6_init_75 : decode cX6_init 75 = .ok (.iconst 0, 1) := by decide +kernel
theorem dX6_init_76 : decode cX6_init 76 = .ok (.istore_n 1, 1) := by decide +kernel
theorem dX6_init_77 : decode cX6_init 77 = .ok (.iload_n 1, 1) := by decide +kernel
theorem dX6_init_78 : decode cX6_init 78 = .ok (.bipush 20, 2) := by decide +kernel
theorem dX6_init_80 : decode cX6_init 80 = .ok (.if_icmp .ge 22, 3) := by decide +kernel
theorem dX6_init_83 : decode cX6_init 83 = .ok (.aload_n 0, 1) := by decide +kernel
theorem dX6_init_84 : decode cX6_init 84 = .ok (.getfield 17, 3) := by decide +kernel
theorem dX6_init_87 : decode cX6_init 87 = .ok (.iload_n 1, 1) := by decide +kernel
theorem dX6_init_88 : decode cX6_init 88 = .ok (.new 9, 3) := by decide +kernel
theorem dX6_init_91 : decode cX6_init 91 = .ok (.dup, 1) := by decide +kernel
theorem dX6_init_92 : decode cX6_init 92 = .ok (.invokespecial 34, 3) := by decide +kernel
theorem dX6_init_95 : decode cX6_init 95 = .ok (.aastore, 1) := by decide +kernel
theorem dX6_init_96 : decode cX6_init 96 = .ok (.iinc 1 1, 3) := by decide +kernel
theorem dX6_init_99 : decode cX6_init 99 = .ok (.goto (-22), 3) := by decide +kernel
theorem dX6_init_102 : decode cX6_init 102 = .ok (.iconst 0, 1) := by decide +kernel
theorem dX6_init_103 : decode cX6_init 103 = .ok (.istore_n 1, 1) := by decide +kernel
theorem dX6_init_104 : decode cX6_init 104 = .ok (.iload_n 1, 1) := by decide +kernel
theorem dX6_init_105 : decode cX6_init 105 = .ok (.bipush 15, 2) := by decide +kernel
theorem dX6_init_107 : decode cX6_init 107 = .ok (.if_icmp .ge 16, 3) := by decide +kernel
theorem dX6_init_110 : decode cX6_init 110 = .ok (.aload_n 0, 1) := by decide +kernel
theorem dX6_init_111 : decode cX6_init 111 = .ok (.getfield 24, 3) := by decide +kernel
theorem dX6_init_114 : decode cX6_init 114 = .ok (.iload_n 1, 1) := by decide +kernel
theorem dX6_init_115 : decode cX6_init 115 = .ok (.iconst (-1), 1) := by decide +kernel
theorem dX6_init_116 : decode cX6_init 116 = .ok (.iastore, 1) := by decide +kernel
theorem dX6_init_117 : decode cX6_init 117 = .ok (.iinc 1 1, 3) := by decide +kernel
theorem dX6_init_120 : decode cX6_init 120 = .ok (.goto (-16), 3) := by decide +kernel
theorem dX6_init_123 : decode cX6_init 123 = .ok (.return_, 1) := by decide +kernel
theorem dX6_world_0 : decode cX6_world 0 = .ok (.iload_n 1, 1) := by decide +kernel
theorem dX6_world_1 : decode cX6_world 1 = .ok (.ifCond .lt 18, 3) := by decide +kernel
theorem dX6_world_4 : decode cX6_world 4 = .ok (.iload_n 1, 1) := by decide +kernel
theorem dX6_world_5 : decode cX6_world 5 = .ok (.bipush 6, 2) := by decide +kernel
theorem dX6_world_7 : decode cX6_world 7 = .ok (.if_icmp .ge 12, 3) := by decide +kernel
theorem dX6_world_10 : decode cX6_world 10 = .ok (.aload_n 0, 1) := by decide +kernel
theorem dX6_world_11 : decode cX6_world 11 = .ok (.getfield 11, 3) := by decide +kernel
theorem dX6_world_14 : decode cX6_world 14 = .ok (.iload_n 1, 1) := by decide +kernel
theorem dX6_world_15 : decode cX6_world 15 = .ok (.aaload, 1) := by decide +kernel
theorem dX6_world_16 : decode cX6_world 16 = .ok (.goto 4, 3) := by decide +kernel
theorem dX6_world_19 : decode cX6_world 19 = .ok (.aconst_null, 1) := by decide +kernel
theorem dX6_world_20 : decode cX6_world 20 = .ok (.areturn, 1) := by decide +kernel
theorem dX6_tell_0 : decode cX6_tell 0 = .ok (.iload_n 1, 1) := by decide +kernel
theorem dX6_tell_1 : decode cX6_tell 1 = .ok (.ifCond .lt 13, 3) := by decide +kernel
theorem dX6_tell_4 : decode cX6_tell 4 = .ok (.iload_n 1, 1) := by decide +kernel
theorem dX6_tell_5 : decode cX6_tell 5 = .ok (.bipush 6, 2) := by decide +kernel
theorem dX6_tell_7 : decode cX6_tell 7 = .ok (.if_icmp .ge 7, 3) := by decide +kernel
theorem dX6_tell_10 : decode cX6_tell 10 = .ok (.aload_n 2, 1) := by decide +kernel
theorem dX6_tell_11 : decode cX6_tell 11 = .ok (.ifnonnull 4, 3) := by decide +kernel
theorem dX6_tell_14 : decode cX6_tell 14 = .ok (.return_, 1) := by decide +kernel
theorem dX6_tell_15 : decode cX6_tell 15 = .ok (.aload_n 0, 1) := by decide +kernel
theorem dX6_tell_16 : decode cX6_tell 16 = .ok (.getfield 27, 3) := by decide +kernel
theorem dX6_tell_19 : decode cX6_tell 19 = .ok (.bipush 20, 2) := by decide +kernel
theorem dX6_tell_21 : decode cX6_tell 21 = .ok (.if_icmp .lt 7, 3) := by decide +kernel
theorem dX6_tell_24 : decode cX6_tell 24 = .ok (.aload_n 0, 1) := by decide +kernel
theorem dX6_tell_25 : decode cX6_tell 25 = .ok (.invokevirtual 45, 3) := by decide +kernel
theorem dX6_tell_28 : decode cX6_tell 28 = .ok (.aload_n 0, 1) := by decide +kernel
theorem dX6_tell_29 : decode cX6_tell 29 = .ok (.getfield 17, 3) := by decide +kernel
theorem dX6_tell_32 : decode cX6_tell 32 = .ok (.aload_n 0, 1) := by decide +kernel
theorem dX6_tell_33 : decode cX6_tell 33 = .ok (.getfield 27, 3) := by decide +kernel
theorem dX6_tell_36 : decode cX6_tell 36 = .ok (.aaload, 1) := by decide +kernel
theorem dX6_tell_37 : decode cX6_tell 37 = .ok (.aload_n 0, 1) := by decide +kernel
theorem dX6_tell_38 : decode cX6_tell 38 = .ok (.getfield 11, 3) := by decide +kernel
theorem dX6_tell_41 : decode cX6_tell 41 = .ok (.iload_n 1, 1) := by decide +kernel
theorem dX6_tell_42 : decode cX6_tell 42 = .ok (.aaload, 1) := by decide +kernel
theorem dX6_tell_43 : decode cX6_tell 43 = .ok (.invokevirtual 35, 3) := by decide +kernel
theorem dX6_tell_46 : decode cX6_tell 46 = .ok (.aload_n 0, 1) := by decide +kernel
theorem dX6_tell_47 : decode cX6_tell 47 = .ok (.getfield 20, 3) := by decide +kernel
theorem dX6_tell_50 : decode cX6_tell 50 = .ok (.aload_n 0, 1) := by decide +kernel
theorem dX6_tell_51 : decode cX6_tell 51 = .ok (.getfield 27, 3) := by decide +kernel
theorem dX6_tell_54 : decode cX6_tell 54 = .ok (.iload_n 1, 1) := by decide +kernel
theorem dX6_tell_55 : decode cX6_tell 55 = .ok (.iastore, 1) := by decide +kernel
theorem dX6_tell_56 : decode cX6_tell 56 = .ok (.aload_n 0, 1) := by decide +kernel
theorem dX6_tell_57 : decode cX6_tell 57 = .ok (.dup, 1) := by decide +kernel
theorem dX6_tell_58 : decode cX6_tell 58 = .ok (.getfield 27, 3) := by decide +kernel
theorem dX6_tell_61 : decode cX6_tell 61 = .ok (.iconst 1, 1) := by decide +kernel
theorem dX6_tell_62 : decode cX6_tell 62 = .ok (.iadd, 1) := by decide +kernel
theorem dX6_tell_63 : decode cX6_tell 63 = .ok (.putfield 27, 3) := by decide +kernel
theorem dX6_tell_66 : decode cX6_tell 66 = .ok (.aload_n 0, 1) := by decide +kernel
theorem dX6_tell_67 : decode cX6_tell 67 = .ok (.iconst 0, 1) := by decide +kernel
theorem dX6_tell_68 : decode cX6_tell 68 = .ok (.putfield 31, 3) := by decide +kernel
theorem dX6_tell_71 : decode cX6_tell 71 = .ok (.aload_n 0, 1) := by decide +kernel
theorem dX6_tell_72 : decode cX6_tell 72 = .ok (.getfield 11, 3) := by decide +kernel
theorem dX6_tell_75 : decode cX6_tell 75 = .ok (.iload_n 1, 1) := by decide +kernel
theorem dX6_tell_76 : decode cX6_tell 76 = .ok (.aaload, 1) := by decide +kernel
theorem dX6_tell_77 : decode cX6_tell 77 = .ok (.aload_n 2, 1) := by decide +kernel
theorem dX6_tell_78 : decode cX6_tell 78 = .ok (.invokevirtual 35, 3) := by decide +kernel
theorem dX6_tell_81 : decode cX6_tell 81 = .ok (.return_, 1) := by decide +kernel
theorem dX6_dropOldest_0 : decode cX6_dropOldest 0 = .ok (.aload_n 0, 1) := by decide +kernel
theorem dX6_dropOldest_1 : decode cX6_dropOldest 1 = .ok (.getfield 17, 3) := by decide +kernel
theorem dX6_dropOldest_4 : decode cX6_dropOldest 4 = .ok (.iconst 0, 1) := by decide +kernel
theorem dX6_dropOldest_5 : decode cX6_dropOldest 5 = .ok (.aaload, 1) := by decide +kernel
theorem dX6_dropOldest_6 : decode cX6_dropOldest 6 = .ok (.astore_n 1, 1) := by decide +kernel
theorem dX6_dropOldest_7 : decode cX6_dropOldest 7 = .ok (.iconst 1, 1) := by decide +kernel
theorem dX6_dropOldest_8 : decode cX6_dropOldest 8 = .ok (.istore_n 2, 1) := by decide +kernel
theorem dX6_dropOldest_9 : decode cX6_dropOldest 9 = .ok (.iload_n 2, 1) := by decide +kernel
theorem dX6_dropOldest_10 : decode cX6_dropOldest 10 = .ok (.bipush 20, 2) := by decide +kernel
theorem dX6_dropOldest_12 : decode cX6_dropOldest 12 = .ok (.if_icmp .ge 37, 3) := by decide +kernel
theorem dX6_dropOldest_15 : decode cX6_dropOldest 15 = .ok (.aload_n 0, 1) := by decide +kernel
theorem dX6_dropOldest_16 : decode cX6_dropOldest 16 = .ok (.getfield 17, 3) := by decide +kernel
theorem dX6_dropOldest_19 : decode cX6_dropOldest 19 = .ok (.iload_n 2, 1) := by decide +kernel
theorem dX6_dropOldest_20 : decode cX6_dropOldest 20 = .ok (.iconst 1, 1) := by decide +kernel
theorem dX6_dropOldest_21 : decode cX6_dropOldest 21 = .ok (.isub, 1) := by decide +kernel
theorem dX6_dropOldest_22 : decode cX6_dropOldest 22 = .ok (.aload_n 0, 1) := by decide +kernel
theorem dX6_dropOldest_23 : decode cX6_dropOldest 23 = .ok (.getfield 17, 3) := by decide +kernel
theorem dX6_dropOldest_26 : decode cX6_dropOldest 26 = .ok (.iload_n 2, 1) := by decide +kernel
theorem dX6_dropOldest_27 : decode cX6_dropOldest 27 = .ok (.aaload, 1) := by decide +kernel
theorem dX6_dropOldest_28 : decode cX6_dropOldest 28 = .ok (.aastore, 1) := by decide +kernel
theorem dX6_dropOldest_29 : decode cX6_dropOldest 29 = .ok (.aload_n 0, 1) := by decide +kernel
theorem dX6_dropOldest_30 : decode cX6_dropOldest 30 = .ok (.getfield 20, 3) := by decide +kernel
theorem dX6_dropOldest_33 : decode cX6_dropOldest 33 = .ok (.iload_n 2, 1) := by decide +kernel
theorem dX6_dropOldest_34 : decode cX6_dropOldest 34 = .ok (.iconst 1, 1) := by decide +kernel
theorem dX6_dropOldest_35 : decode cX6_dropOldest 35 = .ok (.isub, 1) := by decide +kernel
theorem dX6_dropOldest_36 : decode cX6_dropOldest 36 = .ok (.aload_n 0, 1) := by decide +kernel
theorem dX6_dropOldest_37 : decode cX6_dropOldest 37 = .ok (.getfield 20, 3) := by decide +kernel
theorem dX6_dropOldest_40 : decode cX6_dropOldest 40 = .ok (.iload_n 2, 1) := by decide +kernel
theorem dX6_dropOldest_41 : decode cX6_dropOldest 41 = .ok (.iaload, 1) := by decide +kernel
theorem dX6_dropOldest_42 : decode cX6_dropOldest 42 = .ok (.iastore, 1) := by decide +kernel
theorem dX6_dropOldest_43 : decode cX6_dropOldest 43 = .ok (.iinc 2 1, 3) := by decide +kernel
theorem dX6_dropOldest_46 : decode cX6_dropOldest 46 = .ok (.goto (-37), 3) := by decide +kernel
theorem dX6_dropOldest_49 : decode cX6_dropOldest 49 = .ok (.aload_n 0, 1) := by decide +kernel
theorem dX6_dropOldest_50 : decode cX6_dropOldest 50 = .ok (.getfield 17, 3) := by decide +kernel
theorem dX6_dropOldest_53 : decode cX6_dropOldest 53 = .ok (.bipush 19, 2) := by decide +kernel
theorem dX6_dropOldest_55 : decode cX6_dropOldest 55 = .ok (.aload_n 1, 1) := by decide +kernel
theorem dX6_dropOldest_56 : decode cX6_dropOldest 56 = .ok (.aastore, 1) := by decide +kernel
theorem dX6_dropOldest_57 : decode cX6_dropOldest 57 = .ok (.aload_n 0, 1) := by decide +kernel
theorem dX6_dropOldest_58 : decode cX6_dropOldest 58 = .ok (.bipush 19, 2) := by decide +kernel
theorem dX6_dropOldest_60 : decode cX6_dropOldest 60 = .ok (.putfield 27, 3) := by decide +kernel
theorem dX6_dropOldest_63 : decode cX6_dropOldest 63 = .ok (.return_, 1) := by decide +kernel
theorem dX6_canGoBack_0 : decode cX6_canGoBack 0 = .ok (.aload_n 0, 1) := by decide +kernel
theorem dX6_canGoBack_1 : decode cX6_canGoBack 1 = .ok (.getfield 27, 3) := by decide +kernel
theorem dX6_canGoBack_4 : decode cX6_canGoBack 4 = .ok (.ireturn, 1) := by decide +kernel
theorem dX6_canGoForth_0 : decode cX6_canGoForth 0 = .ok (.aload_n 0, 1) := by decide +kernel
theorem dX6_canGoForth_1 : decode cX6_canGoForth 1 = .ok (.getfield 31, 3) := by decide +kernel
theorem dX6_canGoForth_4 : decode cX6_canGoForth 4 = .ok (.ireturn, 1) := by decide +kernel
theorem dX6_imageAt_0 : decode cX6_imageAt 0 = .ok (.iload_n 1, 1) := by decide +kernel
theorem dX6_imageAt_1 : decode cX6_imageAt 1 = .ok (.ifCond .lt 18, 3) := by decide +kernel
theorem dX6_imageAt_4 : decode cX6_imageAt 4 = .ok (.iload_n 1, 1) := by decide +kernel
theorem dX6_imageAt_5 : decode cX6_imageAt 5 = .ok (.bipush 15, 2) := by decide +kernel
theorem dX6_imageAt_7 : decode cX6_imageAt 7 = .ok (.if_icmp .ge 12, 3) := by decide +kernel
theorem dX6_imageAt_10 : decode cX6_imageAt 10 = .ok (.aload_n 0, 1) := by decide +kernel
theorem dX6_imageAt_11 : decode cX6_imageAt 11 = .ok (.getfield 24, 3) := by decide +kernel
theorem dX6_imageAt_14 : decode cX6_imageAt 14 = .ok (.iload_n 1, 1) := by decide +kernel
theorem dX6_imageAt_15 : decode cX6_imageAt 15 = .ok (.iaload, 1) := by decide +kernel
theorem dX6_imageAt_16 : decode cX6_imageAt 16 = .ok (.goto 4, 3) := by decide +kernel
theorem dX6_imageAt_19 : decode cX6_imageAt 19 = .ok (.iconst (-1), 1) := by decide +kernel
theorem dX6_imageAt_20 : decode cX6_imageAt 20 = .ok (.ireturn, 1) := by decide +kernel
