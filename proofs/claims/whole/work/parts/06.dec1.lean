theorem dX0_init_0 : decode cX0_init 0 = .ok (.aload_n 0, 1) := by decide +kernel
theorem dX0_init_1 : decode cX0_init 1 = .ok (.invokespecial 1, 3) := by decide +kernel
theorem dX0_init_4 : decode cX0_init 4 = .ok (.aload_n 0, 1) := by decide +kernel
theorem dX0_init_5 : decode cX0_init 5 = .ok (.iconst 2, 1) := by decide +kernel
theorem dX0_init_6 : decode cX0_init 6 = .ok (.putfield 7, 3) := by decide +kernel
theorem dX0_init_9 : decode cX0_init 9 = .ok (.aload_n 0, 1) := by decide +kernel
theorem dX0_init_10 : decode cX0_init 10 = .ok (.iconst 1, 1) := by decide +kernel
theorem dX0_init_11 : decode cX0_init 11 = .ok (.putfield 13, 3) := by decide +kernel
theorem dX0_init_14 : decode cX0_init 14 = .ok (.aload_n 0, 1) := by decide +kernel
theorem dX0_init_15 : decode cX0_init 15 = .ok (.iconst 0, 1) := by decide +kernel
theorem dX0_init_16 : decode cX0_init 16 = .ok (.putfield 16, 3) := by decide +kernel
theorem dX0_init_19 : decode cX0_init 19 = .ok (.aload_n 0, 1) := by decide +kernel
theorem dX0_init_20 : decode cX0_init 20 = .ok (.bipush 75, 2) := by decide +kernel
theorem dX0_init_22 : decode cX0_init 22 = .ok (.bipush 75, 2) := by decide +kernel
theorem dX0_init_24 : decode cX0_init 24 = .ok (.multianewarray 19 2, 4) := by decide +kernel
theorem dX0_init_28 : decode cX0_init 28 = .ok (.putfield 21, 3) := by decide +kernel
theorem dX0_init_31 : decode cX0_init 31 = .ok (.aload_n 0, 1) := by decide +kernel
theorem dX0_init_32 : decode cX0_init 32 = .ok (.bipush 75, 2) := by decide +kernel
theorem dX0_init_34 : decode cX0_init 34 = .ok (.newarray .boolean, 2) := by decide +kernel
theorem dX0_init_36 : decode cX0_init 36 = .ok (.putfield 24, 3) := by decide +kernel
theorem dX0_init_39 : decode cX0_init 39 = .ok (.aload_n 0, 1) := by decide +kernel
theorem dX0_init_40 : decode cX0_init 40 = .ok (.bipush 75, 2) := by decide +kernel
theorem dX0_init_42 : decode cX0_init 42 = .ok (.newarray .int, 2) := by decide +kernel
theorem dX0_init_44 : decode cX0_init 44 = .ok (.putfield 28, 3) := by decide +kernel
theorem dX0_init_47 : decode cX0_init 47 = .ok (.return_, 1) := by decide +kernel
theorem dX0_start_0 : decode cX0_start 0 = .ok (.iload_n 1, 1) := by decide +kernel
theorem dX0_start_1 : decode cX0_start 1 = .ok (.invokestatic 32, 3) := by decide +kernel
theorem dX0_start_4 : decode cX0_start 4 = .ok (.ifCond .eq 14, 3) := by decide +kernel
theorem dX0_start_7 : decode cX0_start 7 = .ok (.iload_n 2, 1) := by decide +kernel
theorem dX0_start_8 : decode cX0_start 8 = .ok (.iconst 1, 1) := by decide +kernel
theorem dX0_start_9 : decode cX0_start 9 = .ok (.if_icmp .lt 9, 3) := by decide +kernel
theorem dX0_start_12 : decode cX0_start 12 = .ok (.iload_n 2, 1) := by decide +kernel
theorem dX0_start_13 : decode cX0_start 13 = .ok (.bipush 75, 2) := by decide +kernel
theorem dX0_start_15 : decode cX0_start 15 = .ok (.if_icmp .le 4, 3) := by decide +kernel
theorem dX0_start_18 : decode cX0_start 18 = .ok (.return_, 1) := by decide +kernel
theorem dX0_start_19 : decode cX0_start 19 = .ok (.aload_n 0, 1) := by decide +kernel
theorem dX0_start_20 : decode cX0_start 20 = .ok (.iload_n 1, 1) := by decide +kernel
theorem dX0_start_21 : decode cX0_start 21 = .ok (.putfield 7, 3) := by decide +kernel
theorem dX0_start_24 : decode cX0_start 24 = .ok (.aload_n 0, 1) := by decide +kernel
theorem dX0_start_25 : decode cX0_start 25 = .ok (.iload_n 2, 1) := by decide +kernel
theorem dX0_start_26 : decode cX0_start 26 = .ok (.putfield 13, 3) := by decide +kernel
theorem dX0_start_29 : decode cX0_start 29 = .ok (.aload_n 0, 1) := by decide +kernel
theorem dX0_start_30 : decode cX0_start 30 = .ok (.iconst 0, 1) := by decide +kernel
theorem dX0_start_31 : decode cX0_start 31 = .ok (.putfield 16, 3) := by decide +kernel
theorem dX0_start_34 : decode cX0_start 34 = .ok (.iconst 0, 1) := by decide +kernel
theorem dX0_start_35 : decode cX0_start 35 = .ok (.istore_n 3, 1) := by decide +kernel
theorem dX0_start_36 : decode cX0_start 36 = .ok (.iload_n 3, 1) := by decide +kernel
theorem dX0_start_37 : decode cX0_start 37 = .ok (.aload_n 0, 1) := by decide +kernel
theorem dX0_start_38 : decode cX0_start 38 = .ok (.getfield 13, 3) := by decide +kernel
theorem dX0_start_41 : decode cX0_start 41 = .ok (.if_icmp .ge 23, 3) := by decide +kernel
theorem dX0_start_44 : decode cX0_start 44 = .ok (.aload_n 0, 1) := by decide +kernel
theorem dX0_start_45 : decode cX0_start 45 = .ok (.getfield 24, 3) := by decide +kernel
theorem dX0_start_48 : decode cX0_start 48 = .ok (.iload_n 3, 1) := by decide +kernel
theorem dX0_start_49 : decode cX0_start 49 = .ok (.iconst 0, 1) := by decide +kernel
theorem dX0_start_50 : decode cX0_start 50 = .ok (.bastore, 1) := by decide +kernel
theorem dX0_start_51 : decode cX0_start 51 = .ok (.aload_n 0, 1) := by decide +kernel
theorem dX0_start_52 : decode cX0_start 52 = .ok (.getfield 28, 3) := by decide +kernel
theorem dX0_start_55 : decode cX0_start 55 = .ok (.iload_n 3, 1) := by decide +kernel
theorem dX0_start_56 : decode cX0_start 56 = .ok (.iconst 0, 1) := by decide +kernel
theorem dX0_start_57 : decode cX0_start 57 = .ok (.iastore, 1) := by decide +kernel
theorem dX0_start_58 : decode cX0_start 58 = .ok (.iinc 3 1, 3) := by decide +kernel
theorem dX0_start_61 : decode cX0_start 61 = .ok (.goto (-25), 3) := by decide +kernel
theorem dX0_start_64 : decode cX0_start 64 = .ok (.return_, 1) := by decide +kernel
theorem dX0_rank_0 : decode cX0_rank 0 = .ok (.aload_n 0, 1) := by decide +kernel
theorem dX0_rank_1 : decode cX0_rank 1 = .ok (.getfield 16, 3) := by decide +kernel
theorem dX0_rank_4 : decode cX0_rank 4 = .ok (.ireturn, 1) := by decide +kernel
theorem dX0_add_0 : decode cX0_add 0 = .ok (.iload_n 1, 1) := by decide +kernel
theorem dX0_add_1 : decode cX0_add 1 = .ok (.ifCond .lt 30, 3) := by decide +kernel
theorem dX0_add_4 : decode cX0_add 4 = .ok (.iload_n 1, 1) := by decide +kernel
theorem dX0_add_5 : decode cX0_add 5 = .ok (.aload_n 0, 1) := by decide +kernel
theorem dX0_add_6 : decode cX0_add 6 = .ok (.getfield 13, 3) := by decide +kernel
theorem dX0_add_9 : decode cX0_add 9 = .ok (.if_icmp .ge 22, 3) := by decide +kernel
theorem dX0_add_12 : decode cX0_add 12 = .ok (.aload_n 0, 1) := by decide +kernel
theorem dX0_add_13 : decode cX0_add 13 = .ok (.getfield 28, 3) := by decide +kernel
theorem dX0_add_16 : decode cX0_add 16 = .ok (.iload_n 1, 1) := by decide +kernel
theorem dX0_add_17 : decode cX0_add 17 = .ok (.aload_n 0, 1) := by decide +kernel
theorem dX0_add_18 : decode cX0_add 18 = .ok (.getfield 28, 3) := by decide +kernel
theorem dX0_add_21 : decode cX0_add 21 = .ok (.iload_n 1, 1) := by decide +kernel
theorem dX0_add_22 : decode cX0_add 22 = .ok (.iaload, 1) := by decide +kernel
theorem dX0_add_23 : decode cX0_add 23 = .ok (.iload_n 2, 1) := by decide +kernel
theorem dX0_add_24 : decode cX0_add 24 = .ok (.iadd, 1) := by decide +kernel
theorem dX0_add_25 : decode cX0_add 25 = .ok (.aload_n 0, 1) := by decide +kernel
theorem dX0_add_26 : decode cX0_add 26 = .ok (.getfield 7, 3) := by decide +kernel
theorem dX0_add_29 : decode cX0_add 29 = .ok (.irem, 1) := by decide +kernel
theorem dX0_add_30 : decode cX0_add 30 = .ok (.iastore, 1) := by decide +kernel
theorem dX0_add_31 : decode cX0_add 31 = .ok (.return_, 1) := by decide +kernel
theorem dX0_addElement_0 : decode cX0_addElement 0 = .ok (.iload_n 1, 1) := by decide +kernel
theorem dX0_addElement_1 : decode cX0_addElement 1 = .ok (.istore_n 2, 1) := by decide +kernel
theorem dX0_addElement_2 : decode cX0_addElement 2 = .ok (.iconst 0, 1) := by decide +kernel
theorem dX0_addElement_3 : decode cX0_addElement 3 = .ok (.istore_n 3, 1) := by decide +kernel
theorem dX0_addElement_4 : decode cX0_addElement 4 = .ok (.iload_n 3, 1) := by decide +kernel
theorem dX0_addElement_5 : decode cX0_addElement 5 = .ok (.aload_n 0, 1) := by decide +kernel
theorem dX0_addElement_6 : decode cX0_addElement 6 = .ok (.getfield 13, 3) := by decide +kernel
theorem dX0_addElement_9 : decode cX0_addElement 9 = .ok (.if_icmp .ge 31, 3) := by decide +kernel
theorem dX0_addElement_12 : decode cX0_addElement 12 = .ok (.iload_n 2, 1) := by decide +kernel
theorem dX0_addElement_13 : decode cX0_addElement 13 = .ok (.ifCond .eq 27, 3) := by decide +kernel
theorem dX0_addElement_16 : decode cX0_addElement 16 = .ok (.aload_n 0, 1) := by decide +kernel
theorem dX0_addElement_17 : decode cX0_addElement 17 = .ok (.iload_n 3, 1) := by decide +kernel
theorem dX0_addElement_18 : decode cX0_addElement 18 = .ok (.iload_n 2, 1) := by decide +kernel
theorem dX0_addElement_19 : decode cX0_addElement 19 = .ok (.aload_n 0, 1) := by decide +kernel
theorem dX0_addElement_20 : decode cX0_addElement 20 = .ok (.getfield 7, 3) := by decide +kernel
theorem dX0_addElement_23 : decode cX0_addElement 23 = .ok (.irem, 1) := by decide +kernel
theorem dX0_addElement_24 : decode cX0_addElement 24 = .ok (.invokevirtual 38, 3) := by decide +kernel
theorem dX0_addElement_27 : decode cX0_addElement 27 = .ok (.iload_n 2, 1) := by decide +kernel
theorem dX0_addElement_28 : decode cX0_addElement 28 = .ok (.aload_n 0, 1) := by decide +kernel
theorem dX0_addElement_29 : decode cX0_addElement 29 = .ok (.getfield 7, 3) := by decide +kernel
theorem dX0_addElement_32 : decode cX0_addElement 32 = .ok (.idiv, 1) := by decide +kernel
theorem dX0_addElement_33 : decode cX0_addElement 33 = .ok (.istore_n 2, 1) := by decide +kernel
theorem dX0_addElement_34 : decode cX0_addElement 34 = .ok (.iinc 3 1, 3) := by decide +kernel
theorem dX0_addElement_37 : decode cX0_addElement 37 = .ok (.goto (-33), 3) := by decide +kernel
theorem dX0_addElement_40 : decode cX0_addElement 40 = .ok (.return_, 1) := by decide +kernel
theorem dX0_settle_0 : decode cX0_settle 0 = .ok (.iconst 0, 1) := by decide +kernel
theorem dX0_settle_1 : decode cX0_settle 1 = .ok (.istore_n 1, 1) := by decide +kernel
theorem dX0_settle_2 : decode cX0_settle 2 = .ok (.iconst 0, 1) := by decide +kernel
theorem dX0_settle_3 : decode cX0_settle 3 = .ok (.istore_n 2, 1) := by decide +kernel
theorem dX0_settle_4 : decode cX0_settle 4 = .ok (.iload_n 2, 1) := by decide +kernel
theorem dX0_settle_5 : decode cX0_settle 5 = .ok (.aload_n 0, 1) := by decide +kernel
theorem dX0_settle_6 : decode cX0_settle 6 = .ok (.getfield 13, 3) := by decide +kernel
theorem dX0_settle_9 : decode cX0_settle 9 = .ok (.if_icmp .ge 48, 3) := by decide +kernel
theorem dX0_settle_12 : decode cX0_settle 12 = .ok (.aload_n 0, 1) := by decide +kernel
theorem dX0_settle_13 : decode cX0_settle 13 = .ok (.getfield 28, 3) := by decide +kernel
theorem dX0_settle_16 : decode cX0_settle 16 = .ok (.iload_n 2, 1) := by decide +kernel
theorem dX0_settle_17 : decode cX0_settle 17 = .ok (.iaload, 1) := by decide +kernel
theorem dX0_settle_18 : decode cX0_settle 18 = .ok (.ifCond .ne 6, 3) := by decide +kernel
theorem dX0_settle_21 : decode cX0_settle 21 = .ok (.goto 30, 3) := by decide +kernel
theorem dX0_settle_24 : decode cX0_settle 24 = .ok (.aload_n 0, 1) := by decide +kernel
theorem dX0_settle_25 : decode cX0_settle 25 = .ok (.getfield 24, 3) := by decide +kernel
theorem dX0_settle_28 : decode cX0_settle 28 = .ok (.iload_n 2, 1) := by decide +kernel
theorem dX0_settle_29 : decode cX0_settle 29 = .ok (.baload, 1) := by decide +kernel
theorem dX0_settle_30 : decode cX0_settle 30 = .ok (.ifCond .eq 11, 3) := by decide +kernel
theorem dX0_settle_33 : decode cX0_settle 33 = .ok (.aload_n 0, 1) := by decide +kernel
theorem dX0_settle_34 : decode cX0_settle 34 = .ok (.iload_n 2, 1) := by decide +kernel
theorem dX0_settle_35 : decode cX0_settle 35 = .ok (.invokevirtual 42, 3) := by decide +kernel
theorem dX0_settle_38 : decode cX0_settle 38 = .ok (.goto 13, 3) := by decide +kernel
theorem dX0_settle_41 : decode cX0_settle 41 = .ok (.aload_n 0, 1) := by decide +kernel
theorem dX0_settle_42 : decode cX0_settle 42 = .ok (.iload_n 2, 1) := by decide +kernel
theorem dX0_settle_43 : decode cX0_settle 43 = .ok (.invokevirtual 46, 3) := by decide +kernel
theorem dX0_settle_46 : decode cX0_settle 46 = .ok (.iconst 1, 1) := by decide +kernel
theorem dX0_settle_47 : decode cX0_settle 47 = .ok (.istore_n 1, 1) := by decide +kernel
theorem dX0_settle_48 : decode cX0_settle 48 = .ok (.goto 9, 3) := by decide +kernel
theorem dX0_settle_51 : decode cX0_settle 51 = .ok (.iinc 2 1, 3) := by decide +kernel
theorem dX0_settle_54 : decode cX0_settle 54 = .ok (.goto (-50), 3) := by decide +kernel
theorem dX0_settle_57 : decode cX0_settle 57 = .ok (.iconst 0, 1) := by decide +kernel
theorem dX0_settle_58 : decode cX0_settle 58 = .ok (.istore_n 2, 1) := by decide +kernel
theorem dX0_settle_59 : decode cX0_settle 59 = .ok (.iload_n 2, 1) := by decide +kernel
theorem dX0_settle_60 : decode cX0_settle 60 = .ok (.aload_n 0, 1) := by decide +kernel
theorem dX0_settle_61 : decode cX0_settle 61 = .ok (.getfield 13, 3) := by decide +kernel
theorem dX0_settle_64 : decode cX0_settle 64 = .ok (.if_icmp .ge 16, 3) := by decide +kernel
theorem dX0_settle_67 : decode cX0_settle 67 = .ok (.aload_n 0, 1) := by decide +kernel
theorem dX0_settle_68 : decode cX0_settle 68 = .ok (.getfield 28, 3) := by decide +kernel
theorem dX0_settle_71 : decode cX0_settle 71 = .ok (.iload_n 2, 1) := by decide +kernel
theorem dX0_settle_72 : decode cX0_settle 72 = .ok (.iconst 0, 1) := by decide +kernel
theorem dX0_settle_73 : decode cX0_settle 73 = .ok (.iastore, 1) := by decide +kernel
theorem dX0_settle_74 : decode cX0_settle 74 = .ok (.iinc 2 1, 3) := by decide +kernel
theorem dX0_settle_77 : decode cX0_settle 77 = .ok (.goto (-18), 3) := by decide +kernel
theorem dX0_settle_80 : decode cX0_settle 80 = .ok (.iload_n 1, 1) := by decide +kernel
theorem dX0_settle_81 : decode cX0_settle 81 = .ok (.ireturn, 1) := by decide +kernel
theorem dX0_reduce_0 : decode cX0_reduce 0 = .ok (.aload_n 0, 1) := by decide +kernel
theorem dX0_reduce_1 : decode cX0_reduce 1 = .ok (.getfield 21, 3) := by decide +kernel
theorem dX0_reduce_4 : decode cX0_reduce 4 = .ok (.iload_n 1, 1) := by decide +kernel
theorem dX0_reduce_5 : decode cX0_reduce 5 = .ok (.aaload, 1) := by decide +kernel
theorem dX0_reduce_6 : decode cX0_reduce 6 = .ok (.astore_n 2, 1) := by decide +kernel
theorem dX0_reduce_7 : decode cX0_reduce 7 = .ok (.aload_n 0, 1) := by decide +kernel
theorem dX0_reduce_8 : decode cX0_reduce 8 = .ok (.getfield 7, 3) := by decide +kernel
theorem dX0_reduce_11 : decode cX0_reduce 11 = .ok (.aload_n 0, 1) := by decide +kernel
theorem dX0_reduce_12 : decode cX0_reduce 12 = .ok (.getfield 28, 3) := by decide +kernel
theorem dX0_reduce_15 : decode cX0_reduce 15 = .ok (.iload_n 1, 1) := by decide +kernel
theorem dX0_reduce_16 : decode cX0_reduce 16 = .ok (.iaload, 1) := by decide +kernel
theorem dX0_reduce_17 : decode cX0_reduce 17 = .ok (.isub, 1) := by decide +kernel
theorem dX0_reduce_18 : decode cX0_reduce 18 = .ok (.istore_n 3, 1) := by decide +kernel
theorem dX0_reduce_19 : decode cX0_reduce 19 = .ok (.iload_n 1, 1) := by decide +kernel
theorem dX0_reduce_20 : decode cX0_reduce 20 = .ok (.istore 4, 2) := by decide +kernel
theorem dX0_reduce_22 : decode cX0_reduce 22 = .ok (.iload 4, 2) := by decide +kernel
theorem dX0_reduce_24 : decode cX0_reduce 24 = .ok (.aload_n 0, 1) := by decide +kernel
theorem dX0_reduce_25 : decode cX0_reduce 25 = .ok (.getfield 13, 3) := by decide +kernel
theorem dX0_reduce_28 : decode cX0_reduce 28 = .ok (.if_icmp .ge 42, 3) := by decide +kernel
theorem dX0_reduce_31 : decode cX0_reduce 31 = .ok (.aload_n 2, 1) := by decide +kernel
theorem dX0_reduce_32 : decode cX0_reduce 32 = .ok (.iload 4, 2) := by decide +kernel
theorem dX0_reduce_34 : decode cX0_reduce 34 = .ok (.iaload, 1) := by decide +kernel
theorem dX0_reduce_35 : decode cX0_reduce 35 = .ok (.ifCond .eq 29, 3) := by decide +kernel
theorem dX0_reduce_38 : decode cX0_reduce 38 = .ok (.aload_n 0, 1) := by decide +kernel
theorem dX0_reduce_39 : decode cX0_reduce 39 = .ok (.getfield 28, 3) := by decide +kernel
theorem dX0_reduce_42 : decode cX0_reduce 42 = .ok (.iload 4, 2) := by decide +kernel
theorem dX0_reduce_44 : decode cX0_reduce 44 = .ok (.aload_n 0, 1) := by decide +kernel
theorem dX0_reduce_45 : decode cX0_reduce 45 = .ok (.getfield 28, 3) := by decide +kernel
theorem dX0_reduce_48 : decode cX0_reduce 48 = .ok (.iload 4, 2) := by decide +kernel
theorem dX0_reduce_50 : decode cX0_reduce 50 = .ok (.iaload, 1) := by decide +kernel
theorem dX0_reduce_51 : decode cX0_reduce 51 = .ok (.iload_n 3, 1) := by decide +kernel
theorem dX0_reduce_52 : decode cX0_reduce 52 = .ok (.aload_n 2, 1) := by decide +kernel
theorem dX0_reduce_53 : decode cX0_reduce 53 = .ok (.iload 4, 2) := by decide +kernel
theorem dX0_reduce_55 : decode cX0_reduce 55 = .ok (.iaload, 1) := by decide +kernel
theorem dX0_reduce_56 : decode cX0_reduce 56 = .ok (.imul, 1) := by decide +kernel
theorem dX0_reduce_57 : decode cX0_reduce 57 = .ok (.iadd, 1) := by decide +kernel
theorem dX0_reduce_58 : decode cX0_reduce 58 = .ok (.aload_n 0, 1) := by decide +kernel
theorem dX0_reduce_59 : decode cX0_reduce 59 = .ok (.getfield 7, 3) := by decide +kernel
theorem dX0_reduce_62 : decode cX0_reduce 62 = .ok (.irem, 1) := by decide +kernel
theorem dX0_reduce_63 : decode cX0_reduce 63 = .ok (.iastore, 1) := by decide +kernel
theorem dX0_reduce_64 : decode cX0_reduce 64 = .ok (.iinc 4 1, 3) := by decide +kernel
theorem dX0_reduce_67 : decode cX0_reduce 67 = .ok (.goto (-45), 3) := by decide +kernel
theorem dX0_reduce_70 : decode cX0_reduce 70 = .ok (.return_, 1) := by decide +kernel
theorem dX0_lead_0 : decode cX0_lead 0 = .ok (.aload_n 0, 1) := by decide +kernel
theorem dX0_lead_1 : decode cX0_lead 1 = .ok (.getfield 21, 3) := by decide +kernel
theorem dX0_lead_4 : decode cX0_lead 4 = .ok (.iload_n 1, 1) := by decide +kernel
theorem dX0_lead_5 : decode cX0_lead 5 = .ok (.aaload, 1) := by decide +kernel
theorem dX0_lead_6 : decode cX0_lead 6 = .ok (.astore_n 2, 1) := by decide +kernel
theorem dX0_lead_7 : decode cX0_lead 7 = .ok (.aload_n 0, 1) := by decide +kernel
theorem dX0_lead_8 : decode cX0_lead 8 = .ok (.getfield 28, 3) := by decide +kernel
theorem dX0_lead_11 : decode cX0_lead 11 = .ok (.iload_n 1, 1) := by decide +kernel
theorem dX0_lead_12 : decode cX0_lead 12 = .ok (.iaload, 1) := by decide +kernel
theorem dX0_lead_13 : decode cX0_lead 13 = .ok (.istore_n 3, 1) := by decide +kernel
theorem dX0_lead_14 : decode cX0_lead 14 = .ok (.aload_n 0, 1) := by decide +kernel
theorem dX0_lead_15 : decode cX0_lead 15 = .ok (.getfield 7, 3) := by decide +kernel
theorem dX0_lead_18 : decode cX0_lead 18 = .ok (.iconst 5, 1) := by decide +kernel
theorem dX0_lead_19 : decode cX0_lead 19 = .ok (.if_icmp .ne 16, 3) := by decide +kernel
theorem dX0_lead_22 : decode cX0_lead 22 = .ok (.iload_n 3, 1) := by decide +kernel
theorem dX0_lead_23 : decode cX0_lead 23 = .ok (.iload_n 3, 1) := by decide +kernel
theorem dX0_lead_24 : decode cX0_lead 24 = .ok (.imul, 1) := by decide +kernel
theorem dX0_lead_25 : decode cX0_lead 25 = .ok (.iload_n 3, 1) := by decide +kernel
theorem dX0_lead_26 : decode cX0_lead 26 = .ok (.imul, 1) := by decide +kernel
theorem dX0_lead_27 : decode cX0_lead 27 = .ok (.aload_n 0, 1) := by decide +kernel
theorem dX0_lead_28 : decode cX0_lead 28 = .ok (.getfield 7, 3) := by decide +kernel
theorem dX0_lead_31 : decode cX0_lead 31 = .ok (.irem, 1) := by decide +kernel
theorem dX0_lead_32 : decode cX0_lead 32 = .ok (.goto 4, 3) := by decide +kernel
theorem dX0_lead_35 : decode cX0_lead 35 = .ok (.iload_n 3, 1) := by decide +kernel
theorem dX0_lead_36 : decode cX0_lead 36 = .ok (.istore 4, 2) := by decide +kernel
theorem dX0_lead_38 : decode cX0_lead 38 = .ok (.iconst 0, 1) := by decide +kernel
theorem dX0_lead_39 : decode cX0_lead 39 = .ok (.istore 5, 2) := by decide +kernel
theorem dX0_lead_41 : decode cX0_lead 41 = .ok (.iload 5, 2) := by decide +kernel
theorem dX0_lead_43 : decode cX0_lead 43 = .ok (.aload_n 0, 1) := by decide +kernel
theorem dX0_lead_44 : decode cX0_lead 44 = .ok (.getfield 13, 3) := by decide +kernel
theorem dX0_lead_47 : decode cX0_lead 47 = .ok (.if_icmp .ge 28, 3) := by decide +kernel
theorem dX0_lead_50 : decode cX0_lead 50 = .ok (.aload_n 2, 1) := by decide +kernel
theorem dX0_lead_51 : decode cX0_lead 51 = .ok (.iload 5, 2) := by decide +kernel
theorem dX0_lead_53 : decode cX0_lead 53 = .ok (.aload_n 0, 1) := by decide +kernel
theorem dX0_lead_54 : decode cX0_lead 54 = .ok (.getfield 28, 3) := by decide +kernel
theorem dX0_lead_57 : decode cX0_lead 57 = .ok (.iload 5, 2) := by decide +kernel
theorem dX0_lead_59 : decode cX0_lead 59 = .ok (.iaload, 1) := by decide +kernel
theorem dX0_lead_60 : decode cX0_lead 60 = .ok (.iload 4, 2) := by decide +kernel
theorem dX0_lead_62 : decode cX0_lead 62 = .ok (.imul, 1) := by decide +kernel
theorem dX0_lead_63 : decode cX0_lead 63 = .ok (.aload_n 0, 1) := by decide +kernel
theorem dX0_lead_64 : decode cX0_lead 64 = .ok (.getfield 7, 3) := by decide +kernel
theorem dX0_lead_67 : decode cX0_lead 67 = .ok (.irem, 1) := by decide +kernel
theorem dX0_lead_68 : decode cX0_lead 68 = .ok (.iastore, 1) := by decide +kernel
theorem dX0_lead_69 : decode cX0_lead 69 = .ok (.iinc 5 1, 3) := by decide +kernel
theorem dX0_lead_72 : decode cX0_lead 72 = .ok (.goto (-31), 3) := by decide +kernel
theorem dX0_lead_75 : decode cX0_lead 75 = .ok (.aload_n 0, 1) := by decide +kernel
theorem dX0_lead_76 : decode cX0_lead 76 = .ok (.getfield 24, 3) := by decide +kernel
theorem dX0_lead_79 : decode cX0_lead 79 = .ok (.iload_n 1, 1) := by decide +kernel
theorem dX0_lead_80 : decode cX0_lead 80 = .ok (.iconst 1, 1) := by decide +kernel
theorem dX0_lead_81 : decode cX0_lead 81 = .ok (.bastore, 1) := by decide +kernel
theorem dX0_lead_82 : decode cX0_lead 82 = .ok (.aload_n 0, 1) := by decide +kernel
theorem dX0_lead_83 : decode cX0_lead 83 = .ok (.dup, 1) := by decide +kernel
theorem dX0_lead_84 : decode cX0_lead 84 = .ok (.getfield 16, 3) := by decide +kernel
theorem dX0_lead_87 : decode cX0_lead 87 = .ok (.iconst 1, 1) := by decide +kernel
theorem dX0_lead_88 : decode cX0_lead 88 = .ok (.iadd, 1) := by decide +kernel
theorem dX0_lead_89 : decode cX0_lead 89 = .ok (.putfield 16, 3) := by decide +kernel
theorem dX0_lead_92 : decode cX0_lead 92 = .ok (.return_, 1) := by decide +kernel
theorem dX1_init_0 : decode cX1_init 0 = .ok (.aload_n 0, 1) := by decide +kernel
theorem dX1_init_1 : decode cX1_init 1 = .ok (.invokespecial 3, 3) := by decide +kernel
theorem dX1_init_4 : decode cX1_init 4 = .ok (.aload_n 0, 1) := by decide +kernel
theorem dX1_init_5 : decode cX1_init 5 = .ok (.iconst 5, 1) := by decide +kernel
theorem dX1_init_6 : decode cX1_init 6 = .ok (.newarray .int, 2) := by decide +kernel
theorem dX1_init_8 : decode cX1_init 8 = .ok (.putfield 9, 3) := by decide +kernel
theorem dX1_init_11 : decode cX1_init 11 = .ok (.aload_n 0, 1) := by decide +kernel
theorem dX1_init_12 : decode cX1_init 12 = .ok (.bipush 6, 2) := by decide +kernel
theorem dX1_init_14 : decode cX1_init 14 = .ok (.newarray .int, 2) := by decide +kernel
theorem dX1_init_16 : decode cX1_init 16 = .ok (.putfield 15, 3) := by decide +kernel
theorem dX1_init_19 : decode cX1_init 19 = .ok (.aload_n 0, 1) := by decide +kernel
theorem dX1_init_20 : decode cX1_init 20 = .ok (.bipush 6, 2) := by decide +kernel
theorem dX1_init_22 : decode cX1_init 22 = .ok (.newarray .int, 2) := by decide +kernel
theorem dX1_init_24 : decode cX1_init 24 = .ok (.putfield 18, 3) := by decide +kernel
theorem dX1_init_27 : decode cX1_init 27 = .ok (.aload_n 0, 1) := by decide +kernel
theorem dX1_init_28 : decode cX1_init 28 = .ok (.aload_n 1, 1) := by decide +kernel
theorem dX1_init_29 : decode cX1_init 29 = .ok (.putfield 21, 3) := by decide +kernel
theorem dX1_init_32 : decode cX1_init 32 = .ok (.return_, 1) := by decide +kernel
theorem dX1_rankOf_0 : decode cX1_rankOf 0 = .ok (.aload_n 1, 1) := by decide +kernel
theorem dX1_rankOf_1 : decode cX1_rankOf 1 = .ok (.invokevirtual 25, 3) := by decide +kernel
theorem dX1_rankOf_4 : decode cX1_rankOf 4 = .ok (.istore 4, 2) := by decide +kernel
theorem dX1_rankOf_6 : decode cX1_rankOf 6 = .ok (.aload_n 1, 1) := by decide +kernel
theorem dX1_rankOf_7 : decode cX1_rankOf 7 = .ok (.invokevirtual 31, 3) := by decide +kernel
theorem dX1_rankOf_10 : decode cX1_rankOf 10 = .ok (.iload_n 3, 1) := by decide +kernel
theorem dX1_rankOf_11 : decode cX1_rankOf 11 = .ok (.aload_n 0, 1) := by decide +kernel
theorem dX1_rankOf_12 : decode cX1_rankOf 12 = .ok (.getfield 9, 3) := by decide +kernel
theorem dX1_rankOf_15 : decode cX1_rankOf 15 = .ok (.invokestatic 34, 3) := by decide +kernel
theorem dX1_rankOf_18 : decode cX1_rankOf 18 = .ok (.aload_n 0, 1) := by decide +kernel
theorem dX1_rankOf_19 : decode cX1_rankOf 19 = .ok (.getfield 21, 3) := by decide +kernel
theorem dX1_rankOf_22 : decode cX1_rankOf 22 = .ok (.aload_n 1, 1) := by decide +kernel
theorem dX1_rankOf_23 : decode cX1_rankOf 23 = .ok (.invokevirtual 31, 3) := by decide +kernel
theorem dX1_rankOf_26 : decode cX1_rankOf 26 = .ok (.iload 4, 2) := by decide +kernel
theorem dX1_rankOf_28 : decode cX1_rankOf 28 = .ok (.invokevirtual 40, 3) := by decide +kernel
theorem dX1_rankOf_31 : decode cX1_rankOf 31 = .ok (.iconst 0, 1) := by decide +kernel
theorem dX1_rankOf_32 : decode cX1_rankOf 32 = .ok (.istore 5, 2) := by decide +kernel
theorem dX1_rankOf_34 : decode cX1_rankOf 34 = .ok (.iload 5, 2) := by decide +kernel
theorem dX1_rankOf_36 : decode cX1_rankOf 36 = .ok (.iload 4, 2) := by decide +kernel
theorem dX1_rankOf_38 : decode cX1_rankOf 38 = .ok (.if_icmp .ge 52, 3) := by decide +kernel
theorem dX1_rankOf_41 : decode cX1_rankOf 41 = .ok (.iconst 0, 1) := by decide +kernel
theorem dX1_rankOf_42 : decode cX1_rankOf 42 = .ok (.istore 6, 2) := by decide +kernel
theorem dX1_rankOf_44 : decode cX1_rankOf 44 = .ok (.iload 6, 2) := by decide +kernel
theorem dX1_rankOf_46 : decode cX1_rankOf 46 = .ok (.iload 4, 2) := by decide +kernel
theorem dX1_rankOf_48 : decode cX1_rankOf 48 = .ok (.if_icmp .ge 28, 3) := by decide +kernel
theorem dX1_rankOf_51 : decode cX1_rankOf 51 = .ok (.aload_n 0, 1) := by decide +kernel
theorem dX1_rankOf_52 : decode cX1_rankOf 52 = .ok (.getfield 21, 3) := by decide +kernel
theorem dX1_rankOf_55 : decode cX1_rankOf 55 = .ok (.iload 6, 2) := by decide +kernel
theorem dX1_rankOf_57 : decode cX1_rankOf 57 = .ok (.aload_n 0, 1) := by decide +kernel
theorem dX1_rankOf_58 : decode cX1_rankOf 58 = .ok (.aload_n 1, 1) := by decide +kernel
theorem dX1_rankOf_59 : decode cX1_rankOf 59 = .ok (.iload_n 2, 1) := by decide +kernel
theorem dX1_rankOf_60 : decode cX1_rankOf 60 = .ok (.iload 5, 2) := by decide +kernel
theorem dX1_rankOf_62 : decode cX1_rankOf 62 = .ok (.iload 6, 2) := by decide +kernel
theorem dX1_rankOf_64 : decode cX1_rankOf 64 = .ok (.invokevirtual 46, 3) := by decide +kernel
theorem dX1_rankOf_67 : decode cX1_rankOf 67 = .ok (.invokevirtual 50, 3) := by decide +kernel
theorem dX1_rankOf_70 : decode cX1_rankOf 70 = .ok (.iinc 6 1, 3) := by decide +kernel
theorem dX1_rankOf_73 : decode cX1_rankOf 73 = .ok (.goto (-29), 3) := by decide +kernel
theorem dX1_rankOf_76 : decode cX1_rankOf 76 = .ok (.aload_n 0, 1) := by decide +kernel
theorem dX1_rankOf_77 : decode cX1_rankOf 77 = .ok (.getfield 21, 3) := by decide +kernel
theorem dX1_rankOf_80 : decode cX1_rankOf 80 = .ok (.invokevirtual 53, 3) := by decide +kernel
theorem dX1_rankOf_83 : decode cX1_rankOf 83 = .ok (.pop, 1) := by decide +kernel
theorem dX1_rankOf_84 : decode cX1_rankOf 84 = .ok (.iinc 5 1, 3) := by decide +kernel
theorem dX1_rankOf_87 : decode cX1_rankOf 87 = .ok (.goto (-53), 3) := by decide +kernel
theorem dX1_rankOf_90 : decode cX1_rankOf 90 = .ok (.aload_n 0, 1) := by decide +kernel
theorem dX1_rankOf_91 : decode cX1_rankOf 91 = .ok (.getfield 21, 3) := by decide +kernel
theorem dX1_rankOf_94 : decode cX1_rankOf 94 = .ok (.invokevirtual 57, 3) := by decide +kernel
theorem dX1_rankOf_97 : decode cX1_rankOf 97 = .ok (.ireturn, 1) := by decide +kernel
theorem dX1_entry_0 : decode cX1_entry 0 = .ok (.iconst 0, 1) := by decide +kernel
theorem dX1_entry_1 : decode cX1_entry 1 = .ok (.istore 5, 2) := by decide +kernel
theorem dX1_entry_3 : decode cX1_entry 3 = .ok (.iconst 0, 1) := by decide +kernel
theorem dX1_entry_4 : decode cX1_entry 4 = .ok (.istore 6, 2) := by decide +kernel
theorem dX1_entry_6 : decode cX1_entry 6 = .ok (.iload 6, 2) := by decide +kernel
theorem dX1_entry_8 : decode cX1_entry 8 = .ok (.aload_n 1, 1) := by decide +kernel
theorem dX1_entry_9 : decode cX1_entry 9 = .ok (.invokevirtual 25, 3) := by decide +kernel
theorem dX1_entry_12 : decode cX1_entry 12 = .ok (.if_icmp .ge 132, 3) := by decide +kernel
theorem dX1_entry_15 : decode cX1_entry 15 = .ok (.aload_n 0, 1) := by decide +kernel
theorem dX1_entry_16 : decode cX1_entry 16 = .ok (.getfield 9, 3) := by decide +kernel
theorem dX1_entry_19 : decode cX1_entry 19 = .ok (.iload 6, 2) := by decide +kernel
theorem dX1_entry_21 : decode cX1_entry 21 = .ok (.iaload, 1) := by decide +kernel
theorem dX1_entry_22 : decode cX1_entry 22 = .ok (.ifCond .ne 6, 3) := by decide +kernel
theorem dX1_entry_25 : decode cX1_entry 25 = .ok (.goto 113, 3) := by decide +kernel
theorem dX1_entry_28 : decode cX1_entry 28 = .ok (.iconst 0, 1) := by decide +kernel
theorem dX1_entry_29 : decode cX1_entry 29 = .ok (.istore 7, 2) := by decide +kernel
theorem dX1_entry_31 : decode cX1_entry 31 = .ok (.iload_n 2, 1) := by decide +kernel
theorem dX1_entry_32 : decode cX1_entry 32 = .ok (.tableswitch 70 0 2 #[28, 42, 56], 28) := by decide +kernel
theorem dX1_entry_60 : decode cX1_entry 60 = .ok (.aload_n 1, 1) := by decide +kernel
theorem dX1_entry_61 : decode cX1_entry 61 = .ok (.iload 6, 2) := by decide +kernel
theorem dX1_entry_63 : decode cX1_entry 63 = .ok (.iload_n 3, 1) := by decide +kernel
theorem dX1_entry_64 : decode cX1_entry 64 = .ok (.iload 4, 2) := by decide +kernel
theorem dX1_entry_66 : decode cX1_entry 66 = .ok (.invokevirtual 60, 3) := by decide +kernel
theorem dX1_entry_69 : decode cX1_entry 69 = .ok (.istore 7, 2) := by decide +kernel
theorem dX1_entry_71 : decode cX1_entry 71 = .ok (.goto 52, 3) := by decide +kernel
theorem dX1_entry_74 : decode cX1_entry 74 = .ok (.aload_n 1, 1) := by decide +kernel
theorem dX1_entry_75 : decode cX1_entry 75 = .ok (.iload_n 3, 1) := by decide +kernel
theorem dX1_entry_76 : decode cX1_entry 76 = .ok (.iload 6, 2) := by decide +kernel
theorem dX1_entry_78 : decode cX1_entry 78 = .ok (.iload 4, 2) := by decide +kernel
theorem dX1_entry_80 : decode cX1_entry 80 = .ok (.invokevirtual 60, 3) := by decide +kernel
theorem dX1_entry_83 : decode cX1_entry 83 = .ok (.istore 7, 2) := by decide +kernel
theorem dX1_entry_85 : decode cX1_entry 85 = .ok (.goto 38, 3) := by decide +kernel
theorem dX1_entry_88 : decode cX1_entry 88 = .ok (.aload_n 1, 1) := by decide +kernel
theorem dX1_entry_89 : decode cX1_entry 89 = .ok (.iload_n 3, 1) := by decide +kernel
theorem dX1_entry_90 : decode cX1_entry 90 = .ok (.iload 4, 2) := by decide +kernel
theorem dX1_entry_92 : decode cX1_entry 92 = .ok (.iload 6, 2) := by decide +kernel
theorem dX1_entry_94 : decode cX1_entry 94 = .ok (.invokevirtual 60, 3) := by decide +kernel
theorem dX1_entry_97 : decode cX1_entry 97 = .ok (.istore 7, 2) := by decide +kernel
theorem dX1_entry_99 : decode cX1_entry 99 = .ok (.goto 24, 3) := by decide +kernel
theorem dX1_entry_102 : decode cX1_entry 102 = .ok (.aload_n 1, 1) := by decide +kernel
theorem dX1_entry_103 : decode cX1_entry 103 = .ok (.iload 6, 2) := by decide +kernel
theorem dX1_entry_105 : decode cX1_entry 105 = .ok (.iload_n 3, 1) := by decide +kernel
theorem dX1_entry_106 : decode cX1_entry 106 = .ok (.iload 4, 2) := by decide +kernel
theorem dX1_entry_108 : decode cX1_entry 108 = .ok (.invokevirtual 60, 3) := by decide +kernel
theorem dX1_entry_111 : decode cX1_entry 111 = .ok (.aload_n 1, 1) := by decide +kernel
theorem dX1_entry_112 : decode cX1_entry 112 = .ok (.iload_n 3, 1) := by decide +kernel
theorem dX1_entry_113 : decode cX1_entry 113 = .ok (.iload 6, 2) := by decide +kernel
theorem dX1_entry_115 : decode cX1_entry 115 = .ok (.iload 4, 2) := by decide +kernel
theorem dX1_entry_117 : decode cX1_entry 117 = .ok (.invokevirtual 60, 3) := by decide +kernel
theorem dX1_entry_120 : decode cX1_entry 120 = .ok (.iadd, 1) := by decide +kernel
theorem dX1_entry_121 : decode cX1_entry 121 = .ok (.istore 7, 2) := by decide +kernel
theorem dX1_entry_123 : decode cX1_entry 123 = .ok (.iload 5, 2) := by decide +kernel
theorem dX1_entry_125 : decode cX1_entry 125 = .ok (.aload_n 0, 1) := by decide +kernel
theorem dX1_entry_126 : decode cX1_entry 126 = .ok (.getfield 9, 3) := by decide +kernel
theorem dX1_entry_129 : decode cX1_entry 129 = .ok (.iload 6, 2) := by decide +kernel
theorem dX1_entry_131 : decode cX1_entry 131 = .ok (.iaload, 1) := by decide +kernel
theorem dX1_entry_132 : decode cX1_entry 132 = .ok (.iload 7, 2) := by decide +kernel
theorem dX1_entry_134 : decode cX1_entry 134 = .ok (.imul, 1) := by decide +kernel
theorem dX1_entry_135 : decode cX1_entry 135 = .ok (.iadd, 1) := by decide +kernel
theorem dX1_entry_136 : decode cX1_entry 136 = .ok (.istore 5, 2) := by decide +kernel
theorem dX1_entry_138 : decode cX1_entry 138 = .ok (.iinc 6 1, 3) := by decide +kernel
theorem dX1_entry_141 : decode cX1_entry 141 = .ok (.goto (-135), 3) := by decide +kernel
theorem dX1_entry_144 : decode cX1_entry 144 = .ok (.iload 5, 2) := by decide +kernel
theorem dX1_entry_146 : decode cX1_entry 146 = .ok (.ireturn, 1) := by decide +kernel
theorem dX1_countRanks_0 : decode cX1_countRanks 0 = .ok (.iconst 0, 1) := by decide +kernel
theorem dX1_countRanks_1 : decode cX1_countRanks 1 = .ok (.istore 4, 2) := by decide +kernel
theorem dX1_countRanks_3 : decode cX1_countRanks 3 = .ok (.iload 4, 2) := by decide +kernel
theorem dX1_countRanks_5 : decode cX1_countRanks 5 = .ok (.aload_n 3, 1) := by decide +kernel
theorem dX1_countRanks_6 : decode cX1_countRanks 6 = .ok (.arraylength, 1) := by decide +kernel
theorem dX1_countRanks_7 : decode cX1_countRanks 7 = .ok (.if_icmp .ge 14, 3) := by decide +kernel
theorem dX1_countRanks_10 : decode cX1_countRanks 10 = .ok (.aload_n 3, 1) := by decide +kernel
theorem dX1_countRanks_11 : decode cX1_countRanks 11 = .ok (.iload 4, 2) := by decide +kernel
theorem dX1_countRanks_13 : decode cX1_countRanks 13 = .ok (.iconst 0, 1) := by decide +kernel
theorem dX1_countRanks_14 : decode cX1_countRanks 14 = .ok (.iastore, 1) := by decide +kernel
theorem dX1_countRanks_15 : decode cX1_countRanks 15 = .ok (.iinc 4 1, 3) := by decide +kernel
theorem dX1_countRanks_18 : decode cX1_countRanks 18 = .ok (.goto (-15), 3) := by decide +kernel
theorem dX1_countRanks_21 : decode cX1_countRanks 21 = .ok (.iconst 0, 1) := by decide +kernel
theorem dX1_countRanks_22 : decode cX1_countRanks 22 = .ok (.istore 4, 2) := by decide +kernel
theorem dX1_countRanks_24 : decode cX1_countRanks 24 = .ok (.iload 4, 2) := by decide +kernel
theorem dX1_countRanks_26 : decode cX1_countRanks 26 = .ok (.aload_n 1, 1) := by decide +kernel
theorem dX1_countRanks_27 : decode cX1_countRanks 27 = .ok (.invokevirtual 25, 3) := by decide +kernel
theorem dX1_countRanks_30 : decode cX1_countRanks 30 = .ok (.if_icmp .ge 71, 3) := by decide +kernel
theorem dX1_countRanks_33 : decode cX1_countRanks 33 = .ok (.aload_n 1, 1) := by decide +kernel
theorem dX1_countRanks_34 : decode cX1_countRanks 34 = .ok (.iload 4, 2) := by decide +kernel
theorem dX1_countRanks_36 : decode cX1_countRanks 36 = .ok (.invokevirtual 64, 3) := by decide +kernel
theorem dX1_countRanks_39 : decode cX1_countRanks 39 = .ok (.istore 5, 2) := by decide +kernel
theorem dX1_countRanks_41 : decode cX1_countRanks 41 = .ok (.iload 5, 2) := by decide +kernel
theorem dX1_countRanks_43 : decode cX1_countRanks 43 = .ok (.iconst 2, 1) := by decide +kernel
theorem dX1_countRanks_44 : decode cX1_countRanks 44 = .ok (.aload_n 1, 1) := by decide +kernel
theorem dX1_countRanks_45 : decode cX1_countRanks 45 = .ok (.iload 4, 2) := by decide +kernel
theorem dX1_countRanks_47 : decode cX1_countRanks 47 = .ok (.invokevirtual 64, 3) := by decide +kernel
theorem dX1_countRanks_50 : decode cX1_countRanks 50 = .ok (.imul, 1) := by decide +kernel
theorem dX1_countRanks_51 : decode cX1_countRanks 51 = .ok (.if_icmp .ge 44, 3) := by decide +kernel
theorem dX1_countRanks_54 : decode cX1_countRanks 54 = .ok (.aload_n 0, 1) := by decide +kernel
theorem dX1_countRanks_55 : decode cX1_countRanks 55 = .ok (.aload_n 1, 1) := by decide +kernel
theorem dX1_countRanks_56 : decode cX1_countRanks 56 = .ok (.iload_n 2, 1) := by decide +kernel
theorem dX1_countRanks_57 : decode cX1_countRanks 57 = .ok (.iload 5, 2) := by decide +kernel
theorem dX1_countRanks_59 : decode cX1_countRanks 59 = .ok (.invokevirtual 68, 3) := by decide +kernel
theorem dX1_countRanks_62 : decode cX1_countRanks 62 = .ok (.istore 6, 2) := by decide +kernel
theorem dX1_countRanks_64 : decode cX1_countRanks 64 = .ok (.iload 6, 2) := by decide +kernel
theorem dX1_countRanks_66 : decode cX1_countRanks 66 = .ok (.ifCond .lt 23, 3) := by decide +kernel
theorem dX1_countRanks_69 : decode cX1_countRanks 69 = .ok (.iload 6, 2) := by decide +kernel
theorem dX1_countRanks_71 : decode cX1_countRanks 71 = .ok (.aload_n 3, 1) := by decide +kernel
theorem dX1_countRanks_72 : decode cX1_countRanks 72 = .ok (.arraylength, 1) := by decide +kernel
theorem dX1_countRanks_73 : decode cX1_countRanks 73 = .ok (.if_icmp .ge 16, 3) := by decide +kernel
theorem dX1_countRanks_76 : decode cX1_countRanks 76 = .ok (.aload_n 3, 1) := by decide +kernel
theorem dX1_countRanks_77 : decode cX1_countRanks 77 = .ok (.iload 6, 2) := by decide +kernel
theorem dX1_countRanks_79 : decode cX1_countRanks 79 = .ok (.dup2, 1) := by decide +kernel
theorem dX1_countRanks_80 : decode cX1_countRanks 80 = .ok (.iaload, 1) := by decide +kernel
theorem dX1_countRanks_81 : decode cX1_countRanks 81 = .ok (.aload_n 1, 1) := by decide +kernel
theorem dX1_countRanks_82 : decode cX1_countRanks 82 = .ok (.invokevirtual 31, 3) := by decide +kernel
theorem dX1_countRanks_85 : decode cX1_countRanks 85 = .ok (.iconst 1, 1) := by decide +kernel
theorem dX1_countRanks_86 : decode cX1_countRanks 86 = .ok (.isub, 1) := by decide +kernel
theorem dX1_countRanks_87 : decode cX1_countRanks 87 = .ok (.iadd, 1) := by decide +kernel
theorem dX1_countRanks_88 : decode cX1_countRanks 88 = .ok (.iastore, 1) := by decide +kernel
theorem dX1_countRanks_89 : decode cX1_countRanks 89 = .ok (.iinc 5 1, 3) := by decide +kernel
theorem dX1_countRanks_92 : decode cX1_countRanks 92 = .ok (.goto (-51), 3) := by decide +kernel
theorem dX1_countRanks_95 : decode cX1_countRanks 95 = .ok (.iinc 4 1, 3) := by decide +kernel
theorem dX1_countRanks_98 : decode cX1_countRanks 98 = .ok (.goto (-74), 3) := by decide +kernel
theorem dX1_countRanks_101 : decode cX1_countRanks 101 = .ok (.return_, 1) := by decide +kernel
theorem dX1_leastSingular_0 : decode cX1_leastSingular 0 = .ok (.iconst 0, 1) := by decide +kernel
theorem dX1_leastSingular_1 : decode cX1_leastSingular 1 = .ok (.istore_n 3, 1) := by decide +kernel
theorem dX1_leastSingular_2 : decode cX1_leastSingular 2 = .ok (.iload_n 3, 1) := by decide +kernel
theorem dX1_leastSingular_3 : decode cX1_leastSingular 3 = .ok (.aload_n 1, 1) := by decide +kernel
theorem dX1_leastSingular_4 : decode cX1_leastSingular 4 = .ok (.invokevirtual 25, 3) := by decide +kernel
theorem dX1_leastSingular_7 : decode cX1_leastSingular 7 = .ok (.if_icmp .ge 52, 3) := by decide +kernel
theorem dX1_leastSingular_10 : decode cX1_leastSingular 10 = .ok (.aload_n 1, 1) := by decide +kernel
theorem dX1_leastSingular_11 : decode cX1_leastSingular 11 = .ok (.iload_n 3, 1) := by decide +kernel
theorem dX1_leastSingular_12 : decode cX1_leastSingular 12 = .ok (.invokevirtual 64, 3) := by decide +kernel
theorem dX1_leastSingular_15 : decode cX1_leastSingular 15 = .ok (.istore 4, 2) := by decide +kernel
theorem dX1_leastSingular_17 : decode cX1_leastSingular 17 = .ok (.iload 4, 2) := by decide +kernel
theorem dX1_leastSingular_19 : decode cX1_leastSingular 19 = .ok (.iconst 2, 1) := by decide +kernel
theorem dX1_leastSingular_20 : decode cX1_leastSingular 20 = .ok (.aload_n 1, 1) := by decide +kernel
theorem dX1_leastSingular_21 : decode cX1_leastSingular 21 = .ok (.iload_n 3, 1) := by decide +kernel
theorem dX1_leastSingular_22 : decode cX1_leastSingular 22 = .ok (.invokevirtual 64, 3) := by decide +kernel
theorem dX1_leastSingular_25 : decode cX1_leastSingular 25 = .ok (.imul, 1) := by decide +kernel
theorem dX1_leastSingular_26 : decode cX1_leastSingular 26 = .ok (.if_icmp .ge 27, 3) := by decide +kernel
theorem dX1_leastSingular_29 : decode cX1_leastSingular 29 = .ok (.aload_n 0, 1) := by decide +kernel
theorem dX1_leastSingular_30 : decode cX1_leastSingular 30 = .ok (.aload_n 1, 1) := by decide +kernel
theorem dX1_leastSingular_31 : decode cX1_leastSingular 31 = .ok (.iload_n 2, 1) := by decide +kernel
theorem dX1_leastSingular_32 : decode cX1_leastSingular 32 = .ok (.iload 4, 2) := by decide +kernel
theorem dX1_leastSingular_34 : decode cX1_leastSingular 34 = .ok (.invokevirtual 68, 3) := by decide +kernel
theorem dX1_leastSingular_37 : decode cX1_leastSingular 37 = .ok (.aload_n 1, 1) := by decide +kernel
theorem dX1_leastSingular_38 : decode cX1_leastSingular 38 = .ok (.invokevirtual 25, 3) := by decide +kernel
theorem dX1_leastSingular_41 : decode cX1_leastSingular 41 = .ok (.if_icmp .ge 6, 3) := by decide +kernel
theorem dX1_leastSingular_44 : decode cX1_leastSingular 44 = .ok (.iload 4, 2) := by decide +kernel
theorem dX1_leastSingular_46 : decode cX1_leastSingular 46 = .ok (.ireturn, 1) := by decide +kernel
theorem dX1_leastSingular_47 : decode cX1_leastSingular 47 = .ok (.iinc 4 1, 3) := by decide +kernel
theorem dX1_leastSingular_50 : decode cX1_leastSingular 50 = .ok (.goto (-33), 3) := by decide +kernel
theorem dX1_leastSingular_53 : decode cX1_leastSingular 53 = .ok (.iinc 3 1, 3) := by decide +kernel
theorem dX1_leastSingular_56 : decode cX1_leastSingular 56 = .ok (.goto (-54), 3) := by decide +kernel
theorem dX1_leastSingular_59 : decode cX1_leastSingular 59 = .ok (.iconst (-1), 1) := by decide +kernel
theorem dX1_leastSingular_60 : decode cX1_leastSingular 60 = .ok (.ireturn, 1) := by decide +kernel
theorem dX1_howManyOfRank_0 : decode cX1_howManyOfRank 0 = .ok (.aload_n 0, 1) := by decide +kernel
theorem dX1_howManyOfRank_1 : decode cX1_howManyOfRank 1 = .ok (.aload_n 1, 1) := by decide +kernel
theorem dX1_howManyOfRank_2 : decode cX1_howManyOfRank 2 = .ok (.iload_n 2, 1) := by decide +kernel
theorem dX1_howManyOfRank_3 : decode cX1_howManyOfRank 3 = .ok (.aload_n 0, 1) := by decide +kernel
theorem dX1_howManyOfRank_4 : decode cX1_howManyOfRank 4 = .ok (.getfield 15, 3) := by decide +kernel
theorem dX1_howManyOfRank_7 : decode cX1_howManyOfRank 7 = .ok (.invokevirtual 72, 3) := by decide +kernel
theorem dX1_howManyOfRank_10 : decode cX1_howManyOfRank 10 = .ok (.iload_n 3, 1) := by decide +kernel
theorem dX1_howManyOfRank_11 : decode cX1_howManyOfRank 11 = .ok (.ifCond .lt 21, 3) := by decide +kernel
theorem dX1_howManyOfRank_14 : decode cX1_howManyOfRank 14 = .ok (.iload_n 3, 1) := by decide +kernel
theorem dX1_howManyOfRank_15 : decode cX1_howManyOfRank 15 = .ok (.aload_n 0, 1) := by decide +kernel
theorem dX1_howManyOfRank_16 : decode cX1_howManyOfRank 16 = .ok (.getfield 15, 3) := by decide +kernel
theorem dX1_howManyOfRank_19 : decode cX1_howManyOfRank 19 = .ok (.arraylength, 1) := by decide +kernel
theorem dX1_howManyOfRank_20 : decode cX1_howManyOfRank 20 = .ok (.if_icmp .ge 12, 3) := by decide +kernel
theorem dX1_howManyOfRank_23 : decode cX1_howManyOfRank 23 = .ok (.aload_n 0, 1) := by decide +kernel
theorem dX1_howManyOfRank_24 : decode cX1_howManyOfRank 24 = .ok (.getfield 15, 3) := by decide +kernel
theorem dX1_howManyOfRank_27 : decode cX1_howManyOfRank 27 = .ok (.iload_n 3, 1) := by decide +kernel
theorem dX1_howManyOfRank_28 : decode cX1_howManyOfRank 28 = .ok (.iaload, 1) := by decide +kernel
theorem dX1_howManyOfRank_29 : decode cX1_howManyOfRank 29 = .ok (.goto 4, 3) := by decide +kernel
theorem dX1_howManyOfRank_32 : decode cX1_howManyOfRank 32 = .ok (.iconst (-1), 1) := by decide +kernel
theorem dX1_howManyOfRank_33 : decode cX1_howManyOfRank 33 = .ok (.ireturn, 1) := by decide +kernel
theorem dX1_planar_0 : decode cX1_planar 0 = .ok (.aload_n 1, 1) := by decide +kernel
theorem dX1_planar_1 : decode cX1_planar 1 = .ok (.invokevirtual 31, 3) := by decide +kernel
theorem dX1_planar_4 : decode cX1_planar 4 = .ok (.iconst 2, 1) := by decide +kernel
theorem dX1_planar_5 : decode cX1_planar 5 = .ok (.if_icmp .ne 5, 3) := by decide +kernel
theorem dX1_planar_8 : decode cX1_planar 8 = .ok (.iconst (-1), 1) := by decide +kernel
theorem dX1_planar_9 : decode cX1_planar 9 = .ok (.ireturn, 1) := by decide +kernel
theorem dX1_planar_10 : decode cX1_planar 10 = .ok (.aload_n 0, 1) := by decide +kernel
theorem dX1_planar_11 : decode cX1_planar 11 = .ok (.aload_n 1, 1) := by decide +kernel
theorem dX1_planar_12 : decode cX1_planar 12 = .ok (.iconst 3, 1) := by decide +kernel
theorem dX1_planar_13 : decode cX1_planar 13 = .ok (.invokevirtual 76, 3) := by decide +kernel
theorem dX1_planar_16 : decode cX1_planar 16 = .ok (.iconst (-1), 1) := by decide +kernel
theorem dX1_planar_17 : decode cX1_planar 17 = .ok (.if_icmp .ne 7, 3) := by decide +kernel
theorem dX1_planar_20 : decode cX1_planar 20 = .ok (.iconst 1, 1) := by decide +kernel
theorem dX1_planar_21 : decode cX1_planar 21 = .ok (.goto 4, 3) := by decide +kernel
theorem dX1_planar_24 : decode cX1_planar 24 = .ok (.iconst 0, 1) := by decide +kernel
theorem dX1_planar_25 : decode cX1_planar 25 = .ok (.ireturn, 1) := by decide +kernel
theorem dX1_whatParts_0 : decode cX1_whatParts 0 = .ok (.iconst 0, 1) := by decide +kernel
theorem dX1_whatParts_1 : decode cX1_whatParts 1 = .ok (.istore_n 3, 1) := by decide +kernel
theorem dX1_whatParts_2 : decode cX1_whatParts 2 = .ok (.iload_n 3, 1) := by decide +kernel
theorem dX1_whatParts_3 : decode cX1_whatParts 3 = .ok (.iconst 2, 1) := by decide +kernel
theorem dX1_whatParts_4 : decode cX1_whatParts 4 = .ok (.if_icmp .gt 63, 3) := by decide +kernel
theorem dX1_whatParts_7 : decode cX1_whatParts 7 = .ok (.aload_n 0, 1) := by decide +kernel
theorem dX1_whatParts_8 : decode cX1_whatParts 8 = .ok (.aload_n 1, 1) := by decide +kernel
theorem dX1_whatParts_9 : decode cX1_whatParts 9 = .ok (.iload_n 3, 1) := by decide +kernel
theorem dX1_whatParts_10 : decode cX1_whatParts 10 = .ok (.aload_n 0, 1) := by decide +kernel
theorem dX1_whatParts_11 : decode cX1_whatParts 11 = .ok (.getfield 15, 3) := by decide +kernel
theorem dX1_whatParts_14 : decode cX1_whatParts 14 = .ok (.invokevirtual 72, 3) := by decide +kernel
theorem dX1_whatParts_17 : decode cX1_whatParts 17 = .ok (.aload_n 0, 1) := by decide +kernel
theorem dX1_whatParts_18 : decode cX1_whatParts 18 = .ok (.aload_n 2, 1) := by decide +kernel
theorem dX1_whatParts_19 : decode cX1_whatParts 19 = .ok (.iload_n 3, 1) := by decide +kernel
theorem dX1_whatParts_20 : decode cX1_whatParts 20 = .ok (.aload_n 0, 1) := by decide +kernel
theorem dX1_whatParts_21 : decode cX1_whatParts 21 = .ok (.getfield 18, 3) := by decide +kernel
theorem dX1_whatParts_24 : decode cX1_whatParts 24 = .ok (.invokevirtual 72, 3) := by decide +kernel
theorem dX1_whatParts_27 : decode cX1_whatParts 27 = .ok (.iconst 0, 1) := by decide +kernel
theorem dX1_whatParts_28 : decode cX1_whatParts 28 = .ok (.istore 4, 2) := by decide +kernel
theorem dX1_whatParts_30 : decode cX1_whatParts 30 = .ok (.iload 4, 2) := by decide +kernel
theorem dX1_whatParts_32 : decode cX1_whatParts 32 = .ok (.iconst 5, 1) := by decide +kernel
theorem dX1_whatParts_33 : decode cX1_whatParts 33 = .ok (.if_icmp .gt 28, 3) := by decide +kernel
theorem dX1_whatParts_36 : decode cX1_whatParts 36 = .ok (.aload_n 0, 1) := by decide +kernel
theorem dX1_whatParts_37 : decode cX1_whatParts 37 = .ok (.getfield 15, 3) := by decide +kernel
theorem dX1_whatParts_40 : decode cX1_whatParts 40 = .ok (.iload 4, 2) := by decide +kernel
theorem dX1_whatParts_42 : decode cX1_whatParts 42 = .ok (.iaload, 1) := by decide +kernel
theorem dX1_whatParts_43 : decode cX1_whatParts 43 = .ok (.aload_n 0, 1) := by decide +kernel
theorem dX1_whatParts_44 : decode cX1_whatParts 44 = .ok (.getfield 18, 3) := by decide +kernel
theorem dX1_whatParts_47 : decode cX1_whatParts 47 = .ok (.iload 4, 2) := by decide +kernel
theorem dX1_whatParts_49 : decode cX1_whatParts 49 = .ok (.iaload, 1) := by decide +kernel
theorem dX1_whatParts_50 : decode cX1_whatParts 50 = .ok (.if_icmp .eq 5, 3) := by decide +kernel
theorem dX1_whatParts_53 : decode cX1_whatParts 53 = .ok (.iload_n 3, 1) := by decide +kernel
theorem dX1_whatParts_54 : decode cX1_whatParts 54 = .ok (.ireturn, 1) := by decide +kernel
theorem dX1_whatParts_55 : decode cX1_whatParts 55 = .ok (.iinc 4 1, 3) := by decide +kernel
theorem dX1_whatParts_58 : decode cX1_whatParts 58 = .ok (.goto (-28), 3) := by decide +kernel
theorem dX1_whatParts_61 : decode cX1_whatParts 61 = .ok (.iinc 3 1, 3) := by decide +kernel
theorem dX1_whatParts_64 : decode cX1_whatParts 64 = .ok (.goto (-62), 3) := by decide +kernel
theorem dX1_whatParts_67 : decode cX1_whatParts 67 = .ok (.aload_n 0, 1) := by decide +kernel
theorem dX1_whatParts_68 : decode cX1_whatParts 68 = .ok (.aload_n 1, 1) := by decide +kernel
theorem dX1_whatParts_69 : decode cX1_whatParts 69 = .ok (.invokevirtual 80, 3) := by decide +kernel
theorem dX1_whatParts_72 : decode cX1_whatParts 72 = .ok (.aload_n 0, 1) := by decide +kernel
theorem dX1_whatParts_73 : decode cX1_whatParts 73 = .ok (.aload_n 2, 1) := by decide +kernel
theorem dX1_whatParts_74 : decode cX1_whatParts 74 = .ok (.invokevirtual 80, 3) := by decide +kernel
theorem dX1_whatParts_77 : decode cX1_whatParts 77 = .ok (.if_icmp .eq 7, 3) := by decide +kernel
theorem dX1_whatParts_80 : decode cX1_whatParts 80 = .ok (.iconst 3, 1) := by decide +kernel
theorem dX1_whatParts_81 : decode cX1_whatParts 81 = .ok (.goto 4, 3) := by decide +kernel
theorem dX1_whatParts_84 : decode cX1_whatParts 84 = .ok (.iconst (-1), 1) := by decide +kernel
theorem dX1_whatParts_85 : decode cX1_whatParts 85 = .ok (.ireturn, 1) := by decide +kernel
theorem dX1_derivations_0 : decode cX1_derivations 0 = .ok (.aload_n 1, 1) := by decide +kernel
theorem dX1_derivations_1 : decode cX1_derivations 1 = .ok (.invokevirtual 25, 3) := by decide +kernel
theorem dX1_derivations_4 : decode cX1_derivations 4 = .ok (.aload_n 1, 1) := by decide +kernel
theorem dX1_derivations_5 : decode cX1_derivations 5 = .ok (.invokevirtual 25, 3) := by decide +kernel
theorem dX1_derivations_8 : decode cX1_derivations 8 = .ok (.imul, 1) := by decide +kernel
theorem dX1_derivations_9 : decode cX1_derivations 9 = .ok (.istore_n 2, 1) := by decide +kernel
theorem dX1_derivations_10 : decode cX1_derivations 10 = .ok (.aload_n 0, 1) := by decide +kernel
theorem dX1_derivations_11 : decode cX1_derivations 11 = .ok (.getfield 21, 3) := by decide +kernel
theorem dX1_derivations_14 : decode cX1_derivations 14 = .ok (.aload_n 1, 1) := by decide +kernel
theorem dX1_derivations_15 : decode cX1_derivations 15 = .ok (.invokevirtual 31, 3) := by decide +kernel
theorem dX1_derivations_18 : decode cX1_derivations 18 = .ok (.iload_n 2, 1) := by decide +kernel
theorem dX1_derivations_19 : decode cX1_derivations 19 = .ok (.invokevirtual 40, 3) := by decide +kernel
theorem dX1_derivations_22 : decode cX1_derivations 22 = .ok (.aload_n 0, 1) := by decide +kernel
theorem dX1_derivations_23 : decode cX1_derivations 23 = .ok (.aload_n 1, 1) := by decide +kernel
theorem dX1_derivations_24 : decode cX1_derivations 24 = .ok (.iconst 0, 1) := by decide +kernel
theorem dX1_derivations_25 : decode cX1_derivations 25 = .ok (.iconst 0, 1) := by decide +kernel
theorem dX1_derivations_26 : decode cX1_derivations 26 = .ok (.invokevirtual 84, 3) := by decide +kernel
theorem dX1_derivations_29 : decode cX1_derivations 29 = .ok (.iload_n 2, 1) := by decide +kernel
theorem dX1_derivations_30 : decode cX1_derivations 30 = .ok (.aload_n 0, 1) := by decide +kernel
theorem dX1_derivations_31 : decode cX1_derivations 31 = .ok (.getfield 21, 3) := by decide +kernel
theorem dX1_derivations_34 : decode cX1_derivations 34 = .ok (.invokevirtual 57, 3) := by decide +kernel
theorem dX1_derivations_37 : decode cX1_derivations 37 = .ok (.isub, 1) := by decide +kernel
theorem dX1_derivations_38 : decode cX1_derivations 38 = .ok (.ireturn, 1) := by decide +kernel
theorem dX1_triples_0 : decode cX1_triples 0 = .ok (.aload_n 1, 1) := by decide +kernel
theorem dX1_triples_1 : decode cX1_triples 1 = .ok (.invokevirtual 25, 3) := by decide +kernel
theorem dX1_triples_4 : decode cX1_triples 4 = .ok (.aload_n 1, 1) := by decide +kernel
theorem dX1_triples_5 : decode cX1_triples 5 = .ok (.invokevirtual 25, 3) := by decide +kernel
theorem dX1_triples_8 : decode cX1_triples 8 = .ok (.imul, 1) := by decide +kernel
theorem dX1_triples_9 : decode cX1_triples 9 = .ok (.istore_n 2, 1) := by decide +kernel
theorem dX1_triples_10 : decode cX1_triples 10 = .ok (.aload_n 0, 1) := by decide +kernel
theorem dX1_triples_11 : decode cX1_triples 11 = .ok (.getfield 21, 3) := by decide +kernel
theorem dX1_triples_14 : decode cX1_triples 14 = .ok (.aload_n 1, 1) := by decide +kernel
theorem dX1_triples_15 : decode cX1_triples 15 = .ok (.invokevirtual 31, 3) := by decide +kernel
theorem dX1_triples_18 : decode cX1_triples 18 = .ok (.iconst 3, 1) := by decide +kernel
theorem dX1_triples_19 : decode cX1_triples 19 = .ok (.iload_n 2, 1) := by decide +kernel
theorem dX1_triples_20 : decode cX1_triples 20 = .ok (.imul, 1) := by decide +kernel
theorem dX1_triples_21 : decode cX1_triples 21 = .ok (.invokevirtual 40, 3) := by decide +kernel
theorem dX1_triples_24 : decode cX1_triples 24 = .ok (.aload_n 0, 1) := by decide +kernel
theorem dX1_triples_25 : decode cX1_triples 25 = .ok (.aload_n 1, 1) := by decide +kernel
theorem dX1_triples_26 : decode cX1_triples 26 = .ok (.iload_n 2, 1) := by decide +kernel
theorem dX1_triples_27 : decode cX1_triples 27 = .ok (.iconst 2, 1) := by decide +kernel
theorem dX1_triples_28 : decode cX1_triples 28 = .ok (.iload_n 2, 1) := by decide +kernel
theorem dX1_triples_29 : decode cX1_triples 29 = .ok (.imul, 1) := by decide +kernel
theorem dX1_triples_30 : decode cX1_triples 30 = .ok (.invokevirtual 84, 3) := by decide +kernel
theorem dX1_triples_33 : decode cX1_triples 33 = .ok (.iconst 3, 1) := by decide +kernel
theorem dX1_triples_34 : decode cX1_triples 34 = .ok (.iload_n 2, 1) := by decide +kernel
theorem dX1_triples_35 : decode cX1_triples 35 = .ok (.imul, 1) := by decide +kernel
theorem dX1_triples_36 : decode cX1_triples 36 = .ok (.aload_n 0, 1) := by decide +kernel
theorem dX1_triples_37 : decode cX1_triples 37 = .ok (.getfield 21, 3) := by decide +kernel
theorem dX1_triples_40 : decode cX1_triples 40 = .ok (.invokevirtual 57, 3) := by decide +kernel
theorem dX1_triples_43 : decode cX1_triples 43 = .ok (.isub, 1) := by decide +kernel
theorem dX1_triples_44 : decode cX1_triples 44 = .ok (.ireturn, 1) := by decide +kernel
theorem dX1_demandDerivative_0 : decode cX1_demandDerivative 0 = .ok (.aload_n 1, 1) := by decide +kernel
theorem dX1_demandDerivative_1 : decode cX1_demandDerivative 1 = .ok (.invokevirtual 25, 3) := by decide +kernel
theorem dX1_demandDerivative_4 : decode cX1_demandDerivative 4 = .ok (.istore 4, 2) := by decide +kernel
theorem dX1_demandDerivative_6 : decode cX1_demandDerivative 6 = .ok (.iconst 0, 1) := by decide +kernel
theorem dX1_demandDerivative_7 : decode cX1_demandDerivative 7 = .ok (.istore 5, 2) := by decide +kernel
theorem dX1_demandDerivative_9 : decode cX1_demandDerivative 9 = .ok (.iload 5, 2) := by decide +kernel
theorem dX1_demandDerivative_11 : decode cX1_demandDerivative 11 = .ok (.iload 4, 2) := by decide +kernel
theorem dX1_demandDerivative_13 : decode cX1_demandDerivative 13 = .ok (.if_icmp .ge 149, 3) := by decide +kernel
theorem dX1_demandDerivative_16 : decode cX1_demandDerivative 16 = .ok (.iconst 0, 1) := by decide +kernel
theorem dX1_demandDerivative_17 : decode cX1_demandDerivative 17 = .ok (.istore 6, 2) := by decide +kernel
theorem dX1_demandDerivative_19 : decode cX1_demandDerivative 19 = .ok (.iload 6, 2) := by decide +kernel
theorem dX1_demandDerivative_21 : decode cX1_demandDerivative 21 = .ok (.iload 4, 2) := by decide +kernel
theorem dX1_demandDerivative_23 : decode cX1_demandDerivative 23 = .ok (.if_icmp .ge 133, 3) := by decide +kernel
theorem dX1_demandDerivative_26 : decode cX1_demandDerivative 26 = .ok (.iconst 0, 1) := by decide +kernel
theorem dX1_demandDerivative_27 : decode cX1_demandDerivative 27 = .ok (.istore 7, 2) := by decide +kernel
theorem dX1_demandDerivative_29 : decode cX1_demandDerivative 29 = .ok (.iload 7, 2) := by decide +kernel
theorem dX1_demandDerivative_31 : decode cX1_demandDerivative 31 = .ok (.iload 4, 2) := by decide +kernel
theorem dX1_demandDerivative_33 : decode cX1_demandDerivative 33 = .ok (.if_icmp .ge 117, 3) := by decide +kernel
theorem dX1_demandDerivative_36 : decode cX1_demandDerivative 36 = .ok (.iconst 0, 1) := by decide +kernel
theorem dX1_demandDerivative_37 : decode cX1_demandDerivative 37 = .ok (.istore 8, 2) := by decide +kernel
theorem dX1_demandDerivative_39 : decode cX1_demandDerivative 39 = .ok (.iload 8, 2) := by decide +kernel
theorem dX1_demandDerivative_41 : decode cX1_demandDerivative 41 = .ok (.iload 4, 2) := by decide +kernel
theorem dX1_demandDerivative_43 : decode cX1_demandDerivative 43 = .ok (.if_icmp .ge 93, 3) := by decide +kernel
theorem dX1_demandDerivative_46 : decode cX1_demandDerivative 46 = .ok (.aload_n 0, 1) := by decide +kernel
theorem dX1_demandDerivative_47 : decode cX1_demandDerivative 47 = .ok (.getfield 21, 3) := by decide +kernel
theorem dX1_demandDerivative_50 : decode cX1_demandDerivative 50 = .ok (.iload 4, 2) := by decide +kernel
theorem dX1_demandDerivative_52 : decode cX1_demandDerivative 52 = .ok (.iload 5, 2) := by decide +kernel
theorem dX1_demandDerivative_54 : decode cX1_demandDerivative 54 = .ok (.imul, 1) := by decide +kernel
theorem dX1_demandDerivative_55 : decode cX1_demandDerivative 55 = .ok (.iload 8, 2) := by decide +kernel
theorem dX1_demandDerivative_57 : decode cX1_demandDerivative 57 = .ok (.iadd, 1) := by decide +kernel
theorem dX1_demandDerivative_58 : decode cX1_demandDerivative 58 = .ok (.aload_n 1, 1) := by decide +kernel
theorem dX1_demandDerivative_59 : decode cX1_demandDerivative 59 = .ok (.iload 8, 2) := by decide +kernel
theorem dX1_demandDerivative_61 : decode cX1_demandDerivative 61 = .ok (.iload 6, 2) := by decide +kernel
theorem dX1_demandDerivative_63 : decode cX1_demandDerivative 63 = .ok (.iload 7, 2) := by decide +kernel
theorem dX1_demandDerivative_65 : decode cX1_demandDerivative 65 = .ok (.invokevirtual 60, 3) := by decide +kernel
theorem dX1_demandDerivative_68 : decode cX1_demandDerivative 68 = .ok (.invokevirtual 50, 3) := by decide +kernel
theorem dX1_demandDerivative_71 : decode cX1_demandDerivative 71 = .ok (.aload_n 0, 1) := by decide +kernel
theorem dX1_demandDerivative_72 : decode cX1_demandDerivative 72 = .ok (.getfield 21, 3) := by decide +kernel
theorem dX1_demandDerivative_75 : decode cX1_demandDerivative 75 = .ok (.iload_n 2, 1) := by decide +kernel
theorem dX1_demandDerivative_76 : decode cX1_demandDerivative 76 = .ok (.iload 4, 2) := by decide +kernel
theorem dX1_demandDerivative_78 : decode cX1_demandDerivative 78 = .ok (.iload 6, 2) := by decide +kernel
theorem dX1_demandDerivative_80 : decode cX1_demandDerivative 80 = .ok (.imul, 1) := by decide +kernel
theorem dX1_demandDerivative_81 : decode cX1_demandDerivative 81 = .ok (.iadd, 1) := by decide +kernel
theorem dX1_demandDerivative_82 : decode cX1_demandDerivative 82 = .ok (.iload 8, 2) := by decide +kernel
theorem dX1_demandDerivative_84 : decode cX1_demandDerivative 84 = .ok (.iadd, 1) := by decide +kernel
theorem dX1_demandDerivative_85 : decode cX1_demandDerivative 85 = .ok (.aload_n 1, 1) := by decide +kernel
theorem dX1_demandDerivative_86 : decode cX1_demandDerivative 86 = .ok (.iload 5, 2) := by decide +kernel
theorem dX1_demandDerivative_88 : decode cX1_demandDerivative 88 = .ok (.iload 8, 2) := by decide +kernel
theorem dX1_demandDerivative_90 : decode cX1_demandDerivative 90 = .ok (.iload 7, 2) := by decide +kernel
theorem dX1_demandDerivative_92 : decode cX1_demandDerivative 92 = .ok (.invokevirtual 60, 3) := by decide +kernel
theorem dX1_demandDerivative_95 : decode cX1_demandDerivative 95 = .ok (.invokevirtual 50, 3) := by decide +kernel
theorem dX1_demandDerivative_98 : decode cX1_demandDerivative 98 = .ok (.aload_n 0, 1) := by decide +kernel
theorem dX1_demandDerivative_99 : decode cX1_demandDerivative 99 = .ok (.getfield 21, 3) := by decide +kernel
theorem dX1_demandDerivative_102 : decode cX1_demandDerivative 102 = .ok (.iload_n 3, 1) := by decide +kernel
theorem dX1_demandDerivative_103 : decode cX1_demandDerivative 103 = .ok (.iload 4, 2) := by decide +kernel
theorem dX1_demandDerivative_105 : decode cX1_demandDerivative 105 = .ok (.iload 8, 2) := by decide +kernel
theorem dX1_demandDerivative_107 : decode cX1_demandDerivative 107 = .ok (.imul, 1) := by decide +kernel
theorem dX1_demandDerivative_108 : decode cX1_demandDerivative 108 = .ok (.iadd, 1) := by decide +kernel
theorem dX1_demandDerivative_109 : decode cX1_demandDerivative 109 = .ok (.iload 7, 2) := by decide +kernel
theorem dX1_demandDerivative_111 : decode cX1_demandDerivative 111 = .ok (.iadd, 1) := by decide +kernel
theorem dX1_demandDerivative_112 : decode cX1_demandDerivative 112 = .ok (.aload_n 1, 1) := by decide +kernel
theorem dX1_demandDerivative_113 : decode cX1_demandDerivative 113 = .ok (.invokevirtual 31, 3) := by decide +kernel
theorem dX1_demandDerivative_116 : decode cX1_demandDerivative 116 = .ok (.aload_n 1, 1) := by decide +kernel
theorem dX1_demandDerivative_117 : decode cX1_demandDerivative 117 = .ok (.iload 5, 2) := by decide +kernel
theorem dX1_demandDerivative_119 : decode cX1_demandDerivative 119 = .ok (.iload 6, 2) := by decide +kernel
theorem dX1_demandDerivative_121 : decode cX1_demandDerivative 121 = .ok (.iload 8, 2) := by decide +kernel
theorem dX1_demandDerivative_123 : decode cX1_demandDerivative 123 = .ok (.invokevirtual 60, 3) := by decide +kernel
theorem dX1_demandDerivative_126 : decode cX1_demandDerivative 126 = .ok (.isub, 1) := by decide +kernel
theorem dX1_demandDerivative_127 : decode cX1_demandDerivative 127 = .ok (.invokevirtual 50, 3) := by decide +kernel
theorem dX1_demandDerivative_130 : decode cX1_demandDerivative 130 = .ok (.iinc 8 1, 3) := by decide +kernel
theorem dX1_demandDerivative_133 : decode cX1_demandDerivative 133 = .ok (.goto (-94), 3) := by decide +kernel
theorem dX1_demandDerivative_136 : decode cX1_demandDerivative 136 = .ok (.aload_n 0, 1) := by decide +kernel
theorem dX1_demandDerivative_137 : decode cX1_demandDerivative 137 = .ok (.getfield 21, 3) := by decide +kernel
theorem dX1_demandDerivative_140 : decode cX1_demandDerivative 140 = .ok (.invokevirtual 53, 3) := by decide +kernel
theorem dX1_demandDerivative_143 : decode cX1_demandDerivative 143 = .ok (.pop, 1) := by decide +kernel
theorem dX1_demandDerivative_144 : decode cX1_demandDerivative 144 = .ok (.iinc 7 1, 3) := by decide +kernel
theorem dX1_demandDerivative_147 : decode cX1_demandDerivative 147 = .ok (.goto (-118), 3) := by decide +kernel
theorem dX1_demandDerivative_150 : decode cX1_demandDerivative 150 = .ok (.iinc 6 1, 3) := by decide +kernel
theorem dX1_demandDerivative_153 : decode cX1_demandDerivative 153 = .ok (.goto (-134), 3) := by decide +kernel
theorem dX1_demandDerivative_156 : decode cX1_demandDerivative 156 = .ok (.iinc 5 1, 3) := by decide +kernel
theorem dX1_demandDerivative_159 : decode cX1_demandDerivative 159 = .ok (.goto (-150), 3) := by decide +kernel
theorem dX1_demandDerivative_162 : decode cX1_demandDerivative 162 = .ok (.return_, 1) := by decide +kernel
theorem dX2_init_0 : decode cX2_init 0 = .ok (.aload_n 0, 1) := by decide +kernel
theorem dX2_init_1 : decode cX2_init 1 = .ok (.invokespecial 3, 3) := by decide +kernel
theorem dX2_init_4 : decode cX2_init 4 = .ok (.aload_n 0, 1) := by decide +kernel
theorem dX2_init_5 : decode cX2_init 5 = .ok (.new 9, 3) := by decide +kernel
theorem dX2_init_8 : decode cX2_init 8 = .ok (.dup, 1) := by decide +kernel
theorem dX2_init_9 : decode cX2_init 9 = .ok (.invokespecial 11, 3) := by decide +kernel
theorem dX2_init_12 : decode cX2_init 12 = .ok (.putfield 12, 3) := by decide +kernel
theorem dX2_init_15 : decode cX2_init 15 = .ok (.aload_n 0, 1) := by decide +kernel
theorem dX2_init_16 : decode cX2_init 16 = .ok (.iconst 4, 1) := by decide +kernel
theorem dX2_init_17 : decode cX2_init 17 = .ok (.newarray .boolean, 2) := by decide +kernel
theorem dX2_init_19 : decode cX2_init 19 = .ok (.putfield 18, 3) := by decide +kernel
theorem dX2_init_22 : decode cX2_init 22 = .ok (.aload_n 0, 1) := by decide +kernel
theorem dX2_init_23 : decode cX2_init 23 = .ok (.iconst 4, 1) := by decide +kernel
theorem dX2_init_24 : decode cX2_init 24 = .ok (.bipush 32, 2) := by decide +kernel
theorem dX2_init_26 : decode cX2_init 26 = .ok (.multianewarray 22 2, 4) := by decide +kernel
theorem dX2_init_30 : decode cX2_init 30 = .ok (.putfield 24, 3) := by decide +kernel
theorem dX2_init_33 : decode cX2_init 33 = .ok (.aload_n 0, 1) := by decide +kernel
theorem dX2_init_34 : decode cX2_init 34 = .ok (.iconst 4, 1) := by decide +kernel
theorem dX2_init_35 : decode cX2_init 35 = .ok (.iconst 3, 1) := by decide +kernel
theorem dX2_init_36 : decode cX2_init 36 = .ok (.multianewarray 22 2, 4) := by decide +kernel
theorem dX2_init_40 : decode cX2_init 40 = .ok (.putfield 27, 3) := by decide +kernel
theorem dX2_init_43 : decode cX2_init 43 = .ok (.aload_n 0, 1) := by decide +kernel
theorem dX2_init_44 : decode cX2_init 44 = .ok (.aload_n 1, 1) := by decide +kernel
theorem dX2_init_45 : decode cX2_init 45 = .ok (.putfield 30, 3) := by decide +kernel
theorem dX2_init_48 : decode cX2_init 48 = .ok (.return_, 1) := by decide +kernel
theorem dX2_count_0 : decode cX2_count 0 = .ok (.iload_n 1, 1) := by decide +kernel
theorem dX2_count_1 : decode cX2_count 1 = .ok (.iload_n 2, 1) := by decide +kernel
theorem dX2_count_2 : decode cX2_count 2 = .ok (.invokestatic 34, 3) := by decide +kernel
theorem dX2_count_5 : decode cX2_count 5 = .ok (.istore 4, 2) := by decide +kernel
theorem dX2_count_7 : decode cX2_count 7 = .ok (.iload 4, 2) := by decide +kernel
theorem dX2_count_9 : decode cX2_count 9 = .ok (.iconst (-1), 1) := by decide +kernel
theorem dX2_count_10 : decode cX2_count 10 = .ok (.if_icmp .eq 12, 3) := by decide +kernel
theorem dX2_count_13 : decode cX2_count 13 = .ok (.iload_n 3, 1) := by decide +kernel
theorem dX2_count_14 : decode cX2_count 14 = .ok (.ifCond .lt 8, 3) := by decide +kernel
theorem dX2_count_17 : decode cX2_count 17 = .ok (.iload_n 3, 1) := by decide +kernel
theorem dX2_count_18 : decode cX2_count 18 = .ok (.iconst 2, 1) := by decide +kernel
theorem dX2_count_19 : decode cX2_count 19 = .ok (.if_icmp .le 5, 3) := by decide +kernel
theorem dX2_count_22 : decode cX2_count 22 = .ok (.iconst (-1), 1) := by decide +kernel
theorem dX2_count_23 : decode cX2_count 23 = .ok (.ireturn, 1) := by decide +kernel
theorem dX2_count_24 : decode cX2_count 24 = .ok (.aload_n 0, 1) := by decide +kernel
theorem dX2_count_25 : decode cX2_count 25 = .ok (.iload 4, 2) := by decide +kernel
theorem dX2_count_27 : decode cX2_count 27 = .ok (.iload_n 1, 1) := by decide +kernel
theorem dX2_count_28 : decode cX2_count 28 = .ok (.iload_n 2, 1) := by decide +kernel
theorem dX2_count_29 : decode cX2_count 29 = .ok (.invokevirtual 38, 3) := by decide +kernel
theorem dX2_count_32 : decode cX2_count 32 = .ok (.aload_n 0, 1) := by decide +kernel
theorem dX2_count_33 : decode cX2_count 33 = .ok (.getfield 27, 3) := by decide +kernel
theorem dX2_count_36 : decode cX2_count 36 = .ok (.iload 4, 2) := by decide +kernel
theorem dX2_count_38 : decode cX2_count 38 = .ok (.aaload, 1) := by decide +kernel
theorem dX2_count_39 : decode cX2_count 39 = .ok (.iload_n 3, 1) := by decide +kernel
theorem dX2_count_40 : decode cX2_count 40 = .ok (.iaload, 1) := by decide +kernel
theorem dX2_count_41 : decode cX2_count 41 = .ok (.ireturn, 1) := by decide +kernel
theorem dX2_hasWorld_0 : decode cX2_hasWorld 0 = .ok (.iload_n 1, 1) := by decide +kernel
theorem dX2_hasWorld_1 : decode cX2_hasWorld 1 = .ok (.iload_n 2, 1) := by decide +kernel
theorem dX2_hasWorld_2 : decode cX2_hasWorld 2 = .ok (.invokestatic 34, 3) := by decide +kernel
theorem dX2_hasWorld_5 : decode cX2_hasWorld 5 = .ok (.istore 4, 2) := by decide +kernel
theorem dX2_hasWorld_7 : decode cX2_hasWorld 7 = .ok (.iload 4, 2) := by decide +kernel
theorem dX2_hasWorld_9 : decode cX2_hasWorld 9 = .ok (.iconst (-1), 1) := by decide +kernel
theorem dX2_hasWorld_10 : decode cX2_hasWorld 10 = .ok (.if_icmp .eq 7, 3) := by decide +kernel
theorem dX2_hasWorld_13 : decode cX2_hasWorld 13 = .ok (.iload_n 3, 1) := by decide +kernel
theorem dX2_hasWorld_14 : decode cX2_hasWorld 14 = .ok (.ifCond .ge 5, 3) := by decide +kernel
theorem dX2_hasWorld_17 : decode cX2_hasWorld 17 = .ok (.iconst 0, 1) := by decide +kernel
theorem dX2_hasWorld_18 : decode cX2_hasWorld 18 = .ok (.ireturn, 1) := by decide +kernel
theorem dX2_hasWorld_19 : decode cX2_hasWorld 19 = .ok (.aload_n 0, 1) := by decide +kernel
theorem dX2_hasWorld_20 : decode cX2_hasWorld 20 = .ok (.iload 4, 2) := by decide +kernel
theorem dX2_hasWorld_22 : decode cX2_hasWorld 22 = .ok (.iload_n 1, 1) := by decide +kernel
theorem dX2_hasWorld_23 : decode cX2_hasWorld 23 = .ok (.iload_n 2, 1) := by decide +kernel
theorem dX2_hasWorld_24 : decode cX2_hasWorld 24 = .ok (.invokevirtual 38, 3) := by decide +kernel
theorem dX2_hasWorld_27 : decode cX2_hasWorld 27 = .ok (.iload_n 3, 1) := by decide +kernel
theorem dX2_hasWorld_28 : decode cX2_hasWorld 28 = .ok (.aload_n 0, 1) := by decide +kernel
theorem dX2_hasWorld_29 : decode cX2_hasWorld 29 = .ok (.getfield 27, 3) := by decide +kernel
theorem dX2_hasWorld_32 : decode cX2_hasWorld 32 = .ok (.iload 4, 2) := by decide +kernel
theorem dX2_hasWorld_34 : decode cX2_hasWorld 34 = .ok (.aaload, 1) := by decide +kernel
theorem dX2_hasWorld_35 : decode cX2_hasWorld 35 = .ok (.iconst 0, 1) := by decide +kernel
theorem dX2_hasWorld_36 : decode cX2_hasWorld 36 = .ok (.iaload, 1) := by decide +kernel
theorem dX2_hasWorld_37 : decode cX2_hasWorld 37 = .ok (.if_icmp .ge 7, 3) := by decide +kernel
theorem dX2_hasWorld_40 : decode cX2_hasWorld 40 = .ok (.iconst 1, 1) := by decide +kernel
theorem dX2_hasWorld_41 : decode cX2_hasWorld 41 = .ok (.goto 4, 3) := by decide +kernel
theorem dX2_hasWorld_44 : decode cX2_hasWorld 44 = .ok (.iconst 0, 1) := by decide +kernel
theorem dX2_hasWorld_45 : decode cX2_hasWorld 45 = .ok (.ireturn, 1) := by decide +kernel
theorem dX2_bring_0 : decode cX2_bring 0 = .ok (.iload_n 1, 1) := by decide +kernel
theorem dX2_bring_1 : decode cX2_bring 1 = .ok (.iload_n 2, 1) := by decide +kernel
theorem dX2_bring_2 : decode cX2_bring 2 = .ok (.invokestatic 34, 3) := by decide +kernel
theorem dX2_bring_5 : decode cX2_bring 5 = .ok (.istore 5, 2) := by decide +kernel
theorem dX2_bring_7 : decode cX2_bring 7 = .ok (.iload 5, 2) := by decide +kernel
theorem dX2_bring_9 : decode cX2_bring 9 = .ok (.iconst (-1), 1) := by decide +kernel
theorem dX2_bring_10 : decode cX2_bring 10 = .ok (.if_icmp .eq 29, 3) := by decide +kernel
theorem dX2_bring_13 : decode cX2_bring 13 = .ok (.iload_n 3, 1) := by decide +kernel
theorem dX2_bring_14 : decode cX2_bring 14 = .ok (.ifCond .lt 25, 3) := by decide +kernel
theorem dX2_bring_17 : decode cX2_bring 17 = .ok (.iload_n 3, 1) := by decide +kernel
theorem dX2_bring_18 : decode cX2_bring 18 = .ok (.bipush 32, 2) := by decide +kernel
theorem dX2_bring_20 : decode cX2_bring 20 = .ok (.if_icmp .ge 19, 3) := by decide +kernel
theorem dX2_bring_23 : decode cX2_bring 23 = .ok (.aload 4, 2) := by decide +kernel
theorem dX2_bring_25 : decode cX2_bring 25 = .ok (.iload_n 1, 1) := by decide +kernel
theorem dX2_bring_26 : decode cX2_bring 26 = .ok (.iload_n 2, 1) := by decide +kernel
theorem dX2_bring_27 : decode cX2_bring 27 = .ok (.aload_n 0, 1) := by decide +kernel
theorem dX2_bring_28 : decode cX2_bring 28 = .ok (.getfield 24, 3) := by decide +kernel
theorem dX2_bring_31 : decode cX2_bring 31 = .ok (.iload 5, 2) := by decide +kernel
theorem dX2_bring_33 : decode cX2_bring 33 = .ok (.aaload, 1) := by decide +kernel
theorem dX2_bring_34 : decode cX2_bring 34 = .ok (.iload_n 3, 1) := by decide +kernel
theorem dX2_bring_35 : decode cX2_bring 35 = .ok (.iaload, 1) := by decide +kernel
theorem dX2_bring_36 : decode cX2_bring 36 = .ok (.invokestatic 42, 3) := by decide +kernel
theorem dX2_bring_39 : decode cX2_bring 39 = .ok (.return_, 1) := by decide +kernel
theorem dX2_kindOf_0 : decode cX2_kindOf 0 = .ok (.iload_n 0, 1) := by decide +kernel
theorem dX2_kindOf_1 : decode cX2_kindOf 1 = .ok (.iconst 2, 1) := by decide +kernel
theorem dX2_kindOf_2 : decode cX2_kindOf 2 = .ok (.if_icmp .ne 10, 3) := by decide +kernel
theorem dX2_kindOf_5 : decode cX2_kindOf 5 = .ok (.iload_n 1, 1) := by decide +kernel
theorem dX2_kindOf_6 : decode cX2_kindOf 6 = .ok (.iconst 3, 1) := by decide +kernel
theorem dX2_kindOf_7 : decode cX2_kindOf 7 = .ok (.if_icmp .ne 5, 3) := by decide +kernel
theorem dX2_kindOf_10 : decode cX2_kindOf 10 = .ok (.iconst 1, 1) := by decide +kernel
theorem dX2_kindOf_11 : decode cX2_kindOf 11 = .ok (.ireturn, 1) := by decide +kernel
theorem dX2_kindOf_12 : decode cX2_kindOf 12 = .ok (.iload_n 1, 1) := by decide +kernel
theorem dX2_kindOf_13 : decode cX2_kindOf 13 = .ok (.iconst 2, 1) := by decide +kernel
theorem dX2_kindOf_14 : decode cX2_kindOf 14 = .ok (.if_icmp .eq 5, 3) := by decide +kernel
theorem dX2_kindOf_17 : decode cX2_kindOf 17 = .ok (.iconst (-1), 1) := by decide +kernel
theorem dX2_kindOf_18 : decode cX2_kindOf 18 = .ok (.ireturn, 1) := by decide +kernel
theorem dX2_kindOf_19 : decode cX2_kindOf 19 = .ok (.iload_n 0, 1) := by decide +kernel
theorem dX2_kindOf_20 : decode cX2_kindOf 20 = .ok (.iconst 2, 1) := by decide +kernel
theorem dX2_kindOf_21 : decode cX2_kindOf 21 = .ok (.if_icmp .ne 7, 3) := by decide +kernel
theorem dX2_kindOf_24 : decode cX2_kindOf 24 = .ok (.iconst 0, 1) := by decide +kernel
theorem dX2_kindOf_25 : decode cX2_kindOf 25 = .ok (.goto 22, 3) := by decide +kernel
theorem dX2_kindOf_28 : decode cX2_kindOf 28 = .ok (.iload_n 0, 1) := by decide +kernel
theorem dX2_kindOf_29 : decode cX2_kindOf 29 = .ok (.iconst 3, 1) := by decide +kernel
theorem dX2_kindOf_30 : decode cX2_kindOf 30 = .ok (.if_icmp .ne 7, 3) := by decide +kernel
theorem dX2_kindOf_33 : decode cX2_kindOf 33 = .ok (.iconst 2, 1) := by decide +kernel
theorem dX2_kindOf_34 : decode cX2_kindOf 34 = .ok (.goto 13, 3) := by decide +kernel
theorem dX2_kindOf_37 : decode cX2_kindOf 37 = .ok (.iload_n 0, 1) := by decide +kernel
theorem dX2_kindOf_38 : decode cX2_kindOf 38 = .ok (.iconst 5, 1) := by decide +kernel
theorem dX2_kindOf_39 : decode cX2_kindOf 39 = .ok (.if_icmp .ne 7, 3) := by decide +kernel
theorem dX2_kindOf_42 : decode cX2_kindOf 42 = .ok (.iconst 3, 1) := by decide +kernel
theorem dX2_kindOf_43 : decode cX2_kindOf 43 = .ok (.goto 4, 3) := by decide +kernel
theorem dX2_kindOf_46 : decode cX2_kindOf 46 = .ok (.iconst (-1), 1) := by decide +kernel
theorem dX2_kindOf_47 : decode cX2_kindOf 47 = .ok (.ireturn, 1) := by decide +kernel
theorem dX2_ready_0 : decode cX2_ready 0 = .ok (.aload_n 0, 1) := by decide +kernel
theorem dX2_ready_1 : decode cX2_ready 1 = .ok (.getfield 18, 3) := by decide +kernel
theorem dX2_ready_4 : decode cX2_ready 4 = .ok (.iload_n 1, 1) := by decide +kernel
theorem dX2_ready_5 : decode cX2_ready 5 = .ok (.baload, 1) := by decide +kernel
theorem dX2_ready_6 : decode cX2_ready 6 = .ok (.ifCond .eq 4, 3) := by decide +kernel
theorem dX2_ready_9 : decode cX2_ready 9 = .ok (.return_, 1) := by decide +kernel
theorem dX2_ready_10 : decode cX2_ready 10 = .ok (.aload_n 0, 1) := by decide +kernel
theorem dX2_ready_11 : decode cX2_ready 11 = .ok (.getfield 18, 3) := by decide +kernel
theorem dX2_ready_14 : decode cX2_ready 14 = .ok (.iload_n 1, 1) := by decide +kernel
theorem dX2_ready_15 : decode cX2_ready 15 = .ok (.iconst 1, 1) := by decide +kernel
theorem dX2_ready_16 : decode cX2_ready 16 = .ok (.bastore, 1) := by decide +kernel
theorem dX2_ready_17 : decode cX2_ready 17 = .ok (.iload_n 2, 1) := by decide +kernel
theorem dX2_ready_18 : decode cX2_ready 18 = .ok (.iload_n 3, 1) := by decide +kernel
theorem dX2_ready_19 : decode cX2_ready 19 = .ok (.iload_n 3, 1) := by decide +kernel
theorem dX2_ready_20 : decode cX2_ready 20 = .ok (.iconst 1, 1) := by decide +kernel
theorem dX2_ready_21 : decode cX2_ready 21 = .ok (.isub, 1) := by decide +kernel
theorem dX2_ready_22 : decode cX2_ready 22 = .ok (.imul, 1) := by decide +kernel
theorem dX2_ready_23 : decode cX2_ready 23 = .ok (.invokestatic 46, 3) := by decide +kernel
theorem dX2_ready_26 : decode cX2_ready 26 = .ok (.istore 4, 2) := by decide +kernel
theorem dX2_ready_28 : decode cX2_ready 28 = .ok (.iload_n 2, 1) := by decide +kernel
theorem dX2_ready_29 : decode cX2_ready 29 = .ok (.iload_n 3, 1) := by decide +kernel
theorem dX2_ready_30 : decode cX2_ready 30 = .ok (.iload_n 3, 1) := by decide +kernel
theorem dX2_ready_31 : decode cX2_ready 31 = .ok (.iconst 1, 1) := by decide +kernel
theorem dX2_ready_32 : decode cX2_ready 32 = .ok (.isub, 1) := by decide +kernel
theorem dX2_ready_33 : decode cX2_ready 33 = .ok (.imul, 1) := by decide +kernel
theorem dX2_ready_34 : decode cX2_ready 34 = .ok (.iload_n 3, 1) := by decide +kernel
theorem dX2_ready_35 : decode cX2_ready 35 = .ok (.iconst 1, 1) := by decide +kernel
theorem dX2_ready_36 : decode cX2_ready 36 = .ok (.isub, 1) := by decide +kernel
theorem dX2_ready_37 : decode cX2_ready 37 = .ok (.imul, 1) := by decide +kernel
theorem dX2_ready_38 : decode cX2_ready 38 = .ok (.invokestatic 46, 3) := by decide +kernel
theorem dX2_ready_41 : decode cX2_ready 41 = .ok (.istore 5, 2) := by decide +kernel
theorem dX2_ready_43 : decode cX2_ready 43 = .ok (.iconst 0, 1) := by decide +kernel
theorem dX2_ready_44 : decode cX2_ready 44 = .ok (.istore 6, 2) := by decide +kernel
theorem dX2_ready_46 : decode cX2_ready 46 = .ok (.iconst 0, 1) := by decide +kernel
theorem dX2_ready_47 : decode cX2_ready 47 = .ok (.istore 7, 2) := by decide +kernel
theorem dX2_ready_49 : decode cX2_ready 49 = .ok (.iload 7, 2) := by decide +kernel
theorem dX2_ready_51 : decode cX2_ready 51 = .ok (.iload 5, 2) := by decide +kernel
theorem dX2_ready_53 : decode cX2_ready 53 = .ok (.if_icmp .ge 73, 3) := by decide +kernel
theorem dX2_ready_56 : decode cX2_ready 56 = .ok (.iload 6, 2) := by decide +kernel
theorem dX2_ready_58 : decode cX2_ready 58 = .ok (.iload 5, 2) := by decide +kernel
theorem dX2_ready_60 : decode cX2_ready 60 = .ok (.if_icmp .ge 66, 3) := by decide +kernel
theorem dX2_ready_63 : decode cX2_ready 63 = .ok (.aload_n 0, 1) := by decide +kernel
theorem dX2_ready_64 : decode cX2_ready 64 = .ok (.getfield 12, 3) := by decide +kernel
theorem dX2_ready_67 : decode cX2_ready 67 = .ok (.iload_n 2, 1) := by decide +kernel
theorem dX2_ready_68 : decode cX2_ready 68 = .ok (.iload_n 3, 1) := by decide +kernel
theorem dX2_ready_69 : decode cX2_ready 69 = .ok (.iload 6, 2) := by decide +kernel
theorem dX2_ready_71 : decode cX2_ready 71 = .ok (.invokestatic 42, 3) := by decide +kernel
theorem dX2_ready_74 : decode cX2_ready 74 = .ok (.aload_n 0, 1) := by decide +kernel
theorem dX2_ready_75 : decode cX2_ready 75 = .ok (.getfield 30, 3) := by decide +kernel
theorem dX2_ready_78 : decode cX2_ready 78 = .ok (.aload_n 0, 1) := by decide +kernel
theorem dX2_ready_79 : decode cX2_ready 79 = .ok (.getfield 12, 3) := by decide +kernel
theorem dX2_ready_82 : decode cX2_ready 82 = .ok (.invokevirtual 49, 3) := by decide +kernel
theorem dX2_ready_85 : decode cX2_ready 85 = .ok (.istore 8, 2) := by decide +kernel
theorem dX2_ready_87 : decode cX2_ready 87 = .ok (.iload 8, 2) := by decide +kernel
theorem dX2_ready_89 : decode cX2_ready 89 = .ok (.iconst (-1), 1) := by decide +kernel
theorem dX2_ready_90 : decode cX2_ready 90 = .ok (.if_icmp .ne 10, 3) := by decide +kernel
theorem dX2_ready_93 : decode cX2_ready 93 = .ok (.aload_n 0, 1) := by decide +kernel
theorem dX2_ready_94 : decode cX2_ready 94 = .ok (.iload_n 1, 1) := by decide +kernel
theorem dX2_ready_95 : decode cX2_ready 95 = .ok (.iload 6, 2) := by decide +kernel
theorem dX2_ready_97 : decode cX2_ready 97 = .ok (.invokevirtual 55, 3) := by decide +kernel
theorem dX2_ready_100 : decode cX2_ready 100 = .ok (.iload 6, 2) := by decide +kernel
theorem dX2_ready_102 : decode cX2_ready 102 = .ok (.aload_n 0, 1) := by decide +kernel
theorem dX2_ready_103 : decode cX2_ready 103 = .ok (.iload 8, 2) := by decide +kernel
theorem dX2_ready_105 : decode cX2_ready 105 = .ok (.invokevirtual 59, 3) := by decide +kernel
theorem dX2_ready_108 : decode cX2_ready 108 = .ok (.ifCond .eq 8, 3) := by decide +kernel
theorem dX2_ready_111 : decode cX2_ready 111 = .ok (.iload 4, 2) := by decide +kernel
theorem dX2_ready_113 : decode cX2_ready 113 = .ok (.goto 4, 3) := by decide +kernel
theorem dX2_ready_116 : decode cX2_ready 116 = .ok (.iconst 1, 1) := by decide +kernel
theorem dX2_ready_117 : decode cX2_ready 117 = .ok (.iadd, 1) := by decide +kernel
theorem dX2_ready_118 : decode cX2_ready 118 = .ok (.istore 6, 2) := by decide +kernel
theorem dX2_ready_120 : decode cX2_ready 120 = .ok (.iinc 7 1, 3) := by decide +kernel
theorem dX2_ready_123 : decode cX2_ready 123 = .ok (.goto (-74), 3) := by decide +kernel
theorem dX2_ready_126 : decode cX2_ready 126 = .ok (.return_, 1) := by decide +kernel
theorem dX2_power_0 : decode cX2_power 0 = .ok (.iconst 1, 1) := by decide +kernel
theorem dX2_power_1 : decode cX2_power 1 = .ok (.istore_n 2, 1) := by decide +kernel
theorem dX2_power_2 : decode cX2_power 2 = .ok (.iconst 0, 1) := by decide +kernel
theorem dX2_power_3 : decode cX2_power 3 = .ok (.istore_n 3, 1) := by decide +kernel
theorem dX2_power_4 : decode cX2_power 4 = .ok (.iload_n 3, 1) := by decide +kernel
theorem dX2_power_5 : decode cX2_power 5 = .ok (.iload_n 1, 1) := by decide +kernel
theorem dX2_power_6 : decode cX2_power 6 = .ok (.if_icmp .ge 13, 3) := by decide +kernel
theorem dX2_power_9 : decode cX2_power 9 = .ok (.iload_n 2, 1) := by decide +kernel
theorem dX2_power_10 : decode cX2_power 10 = .ok (.iload_n 0, 1) := by decide +kernel
theorem dX2_power_11 : decode cX2_power 11 = .ok (.imul, 1) := by decide +kernel
theorem dX2_power_12 : decode cX2_power 12 = .ok (.istore_n 2, 1) := by decide +kernel
theorem dX2_power_13 : decode cX2_power 13 = .ok (.iinc 3 1, 3) := by decide +kernel
theorem dX2_power_16 : decode cX2_power 16 = .ok (.goto (-12), 3) := by decide +kernel
theorem dX2_power_19 : decode cX2_power 19 = .ok (.iload_n 2, 1) := by decide +kernel
theorem dX2_power_20 : decode cX2_power 20 = .ok (.ireturn, 1) := by decide +kernel
theorem dX2_isFailedEarly_0 : decode cX2_isFailedEarly 0 = .ok (.aload_n 0, 1) := by decide +kernel
theorem dX2_isFailedEarly_1 : decode cX2_isFailedEarly 1 = .ok (.getfield 12, 3) := by decide +kernel
theorem dX2_isFailedEarly_4 : decode cX2_isFailedEarly 4 = .ok (.invokevirtual 63, 3) := by decide +kernel
theorem dX2_isFailedEarly_7 : decode cX2_isFailedEarly 7 = .ok (.istore_n 2, 1) := by decide +kernel
theorem dX2_isFailedEarly_8 : decode cX2_isFailedEarly 8 = .ok (.iload_n 1, 1) := by decide +kernel
theorem dX2_isFailedEarly_9 : decode cX2_isFailedEarly 9 = .ok (.iconst (-1), 1) := by decide +kernel
theorem dX2_isFailedEarly_10 : decode cX2_isFailedEarly 10 = .ok (.if_icmp .eq 33, 3) := by decide +kernel
theorem dX2_isFailedEarly_13 : decode cX2_isFailedEarly 13 = .ok (.iload_n 2, 1) := by decide +kernel
theorem dX2_isFailedEarly_14 : decode cX2_isFailedEarly 14 = .ok (.ifCond .le 29, 3) := by decide +kernel
theorem dX2_isFailedEarly_17 : decode cX2_isFailedEarly 17 = .ok (.iload_n 1, 1) := by decide +kernel
theorem dX2_isFailedEarly_18 : decode cX2_isFailedEarly 18 = .ok (.iload_n 2, 1) := by decide +kernel
theorem dX2_isFailedEarly_19 : decode cX2_isFailedEarly 19 = .ok (.idiv, 1) := by decide +kernel
theorem dX2_isFailedEarly_20 : decode cX2_isFailedEarly 20 = .ok (.aload_n 0, 1) := by decide +kernel
theorem dX2_isFailedEarly_21 : decode cX2_isFailedEarly 21 = .ok (.getfield 12, 3) := by decide +kernel
theorem dX2_isFailedEarly_24 : decode cX2_isFailedEarly 24 = .ok (.aload_n 0, 1) := by decide +kernel
theorem dX2_isFailedEarly_25 : decode cX2_isFailedEarly 25 = .ok (.getfield 12, 3) := by decide +kernel
theorem dX2_isFailedEarly_28 : decode cX2_isFailedEarly 28 = .ok (.invokevirtual 67, 3) := by decide +kernel
theorem dX2_isFailedEarly_31 : decode cX2_isFailedEarly 31 = .ok (.iconst 1, 1) := by decide +kernel
theorem dX2_isFailedEarly_32 : decode cX2_isFailedEarly 32 = .ok (.isub, 1) := by decide +kernel
theorem dX2_isFailedEarly_33 : decode cX2_isFailedEarly 33 = .ok (.invokevirtual 70, 3) := by decide +kernel
theorem dX2_isFailedEarly_36 : decode cX2_isFailedEarly 36 = .ok (.if_icmp .ge 7, 3) := by decide +kernel
theorem dX2_isFailedEarly_39 : decode cX2_isFailedEarly 39 = .ok (.iconst 1, 1) := by decide +kernel
theorem dX2_isFailedEarly_40 : decode cX2_isFailedEarly 40 = .ok (.goto 4, 3) := by decide +kernel
theorem dX2_isFailedEarly_43 : decode cX2_isFailedEarly 43 = .ok (.iconst 0, 1) := by decide +kernel
theorem dX2_isFailedEarly_44 : decode cX2_isFailedEarly 44 = .ok (.ireturn, 1) := by decide +kernel
theorem dX2_note_0 : decode cX2_note 0 = .ok (.aload_n 0, 1) := by decide +kernel
theorem dX2_note_1 : decode cX2_note 1 = .ok (.getfield 27, 3) := by decide +kernel
theorem dX2_note_4 : decode cX2_note 4 = .ok (.iload_n 1, 1) := by decide +kernel
theorem dX2_note_5 : decode cX2_note 5 = .ok (.aaload, 1) := by decide +kernel
theorem dX2_note_6 : decode cX2_note 6 = .ok (.astore_n 3, 1) := by decide +kernel
theorem dX2_note_7 : decode cX2_note 7 = .ok (.aload_n 3, 1) := by decide +kernel
theorem dX2_note_8 : decode cX2_note 8 = .ok (.iconst 0, 1) := by decide +kernel
theorem dX2_note_9 : decode cX2_note 9 = .ok (.iaload, 1) := by decide +kernel
theorem dX2_note_10 : decode cX2_note 10 = .ok (.bipush 32, 2) := by decide +kernel
theorem dX2_note_12 : decode cX2_note 12 = .ok (.if_icmp .lt 4, 3) := by decide +kernel
theorem dX2_note_15 : decode cX2_note 15 = .ok (.return_, 1) := by decide +kernel
theorem dX2_note_16 : decode cX2_note 16 = .ok (.aload_n 0, 1) := by decide +kernel
theorem dX2_note_17 : decode cX2_note 17 = .ok (.getfield 24, 3) := by decide +kernel
theorem dX2_note_20 : decode cX2_note 20 = .ok (.iload_n 1, 1) := by decide +kernel
theorem dX2_note_21 : decode cX2_note 21 = .ok (.aaload, 1) := by decide +kernel
theorem dX2_note_22 : decode cX2_note 22 = .ok (.aload_n 3, 1) := by decide +kernel
theorem dX2_note_23 : decode cX2_note 23 = .ok (.iconst 0, 1) := by decide +kernel
theorem dX2_note_24 : decode cX2_note 24 = .ok (.iaload, 1) := by decide +kernel
theorem dX2_note_25 : decode cX2_note 25 = .ok (.iload_n 2, 1) := by decide +kernel
theorem dX2_note_26 : decode cX2_note 26 = .ok (.iastore, 1) := by decide +kernel
theorem dX2_note_27 : decode cX2_note 27 = .ok (.aload_n 3, 1) := by decide +kernel
theorem dX2_note_28 : decode cX2_note 28 = .ok (.iconst 0, 1) := by decide +kernel
theorem dX2_note_29 : decode cX2_note 29 = .ok (.dup2, 1) := by decide +kernel
theorem dX2_note_30 : decode cX2_note 30 = .ok (.iaload, 1) := by decide +kernel
theorem dX2_note_31 : decode cX2_note 31 = .ok (.iconst 1, 1) := by decide +kernel
theorem dX2_note_32 : decode cX2_note 32 = .ok (.iadd, 1) := by decide +kernel
theorem dX2_note_33 : decode cX2_note 33 = .ok (.iastore, 1) := by decide +kernel
theorem dX2_note_34 : decode cX2_note 34 = .ok (.aload_n 3, 1) := by decide +kernel
theorem dX2_note_35 : decode cX2_note 35 = .ok (.iconst 1, 1) := by decide +kernel
theorem dX2_note_36 : decode cX2_note 36 = .ok (.dup2, 1) := by decide +kernel
theorem dX2_note_37 : decode cX2_note 37 = .ok (.iaload, 1) := by decide +kernel
theorem dX2_note_38 : decode cX2_note 38 = .ok (.aload_n 0, 1) := by decide +kernel
theorem dX2_note_39 : decode cX2_note 39 = .ok (.getfield 12, 3) := by decide +kernel
theorem dX2_note_42 : decode cX2_note 42 = .ok (.invokevirtual 74, 3) := by decide +kernel
theorem dX2_note_45 : decode cX2_note 45 = .ok (.ifCond .eq 7, 3) := by decide +kernel
theorem dX2_note_48 : decode cX2_note 48 = .ok (.iconst 1, 1) := by decide +kernel
theorem dX2_note_49 : decode cX2_note 49 = .ok (.goto 4, 3) := by decide +kernel
theorem dX2_note_52 : decode cX2_note 52 = .ok (.iconst 0, 1) := by decide +kernel
theorem dX2_note_53 : decode cX2_note 53 = .ok (.iadd, 1) := by decide +kernel
theorem dX2_note_54 : decode cX2_note 54 = .ok (.iastore, 1) := by decide +kernel
theorem dX2_note_55 : decode cX2_note 55 = .ok (.aload_n 3, 1) := by decide +kernel
theorem dX2_note_56 : decode cX2_note 56 = .ok (.iconst 2, 1) := by decide +kernel
theorem dX2_note_57 : decode cX2_note 57 = .ok (.dup2, 1) := by decide +kernel
theorem dX2_note_58 : decode cX2_note 58 = .ok (.iaload, 1) := by decide +kernel
theorem dX2_note_59 : decode cX2_note 59 = .ok (.aload_n 0, 1) := by decide +kernel
theorem dX2_note_60 : decode cX2_note 60 = .ok (.getfield 30, 3) := by decide +kernel
theorem dX2_note_63 : decode cX2_note 63 = .ok (.aload_n 0, 1) := by decide +kernel
theorem dX2_note_64 : decode cX2_note 64 = .ok (.getfield 12, 3) := by decide +kernel
theorem dX2_note_67 : decode cX2_note 67 = .ok (.invokevirtual 78, 3) := by decide +kernel
theorem dX2_note_70 : decode cX2_note 70 = .ok (.iconst (-1), 1) := by decide +kernel
theorem dX2_note_71 : decode cX2_note 71 = .ok (.if_icmp .ne 7, 3) := by decide +kernel
theorem dX2_note_74 : decode cX2_note 74 = .ok (.iconst 1, 1) := by decide +kernel
theorem dX2_note_75 : decode cX2_note 75 = .ok (.goto 4, 3) := by decide +kernel
theorem dX2_note_78 : decode cX2_note 78 = .ok (.iconst 0, 1) := by decide +kernel
theorem dX2_note_79 : decode cX2_note 79 = .ok (.iadd, 1) := by decide +kernel
theorem dX2_note_80 : decode cX2_note 80 = .ok (.iastore, 1) := by decide +kernel
theorem dX2_note_81 : decode cX2_note 81 = .ok (.return_, 1) := by decide +kernel
theorem dX2_fill_0 : decode cX2_fill 0 = .ok (.aload_n 0, 1) := by decide +kernel
theorem dX2_fill_1 : decode cX2_fill 1 = .ok (.iload_n 1, 1) := by decide +kernel
theorem dX2_fill_2 : decode cX2_fill 2 = .ok (.iload_n 2, 1) := by decide +kernel
theorem dX2_fill_3 : decode cX2_fill 3 = .ok (.invokevirtual 81, 3) := by decide +kernel
theorem dX2_fill_6 : decode cX2_fill 6 = .ok (.iconst 0, 1) := by decide +kernel
theorem dX2_fill_7 : decode cX2_fill 7 = .ok (.istore 4, 2) := by decide +kernel
theorem dX2_fill_9 : decode cX2_fill 9 = .ok (.iload 4, 2) := by decide +kernel
theorem dX2_fill_11 : decode cX2_fill 11 = .ok (.iload_n 2, 1) := by decide +kernel
theorem dX2_fill_12 : decode cX2_fill 12 = .ok (.if_icmp .ge 35, 3) := by decide +kernel
theorem dX2_fill_15 : decode cX2_fill 15 = .ok (.aload_n 0, 1) := by decide +kernel
theorem dX2_fill_16 : decode cX2_fill 16 = .ok (.iconst 0, 1) := by decide +kernel
theorem dX2_fill_17 : decode cX2_fill 17 = .ok (.iload 4, 2) := by decide +kernel
theorem dX2_fill_19 : decode cX2_fill 19 = .ok (.aload_n 0, 1) := by decide +kernel
theorem dX2_fill_20 : decode cX2_fill 20 = .ok (.iload 4, 2) := by decide +kernel
theorem dX2_fill_22 : decode cX2_fill 22 = .ok (.invokevirtual 70, 3) := by decide +kernel
theorem dX2_fill_25 : decode cX2_fill 25 = .ok (.invokevirtual 84, 3) := by decide +kernel
theorem dX2_fill_28 : decode cX2_fill 28 = .ok (.aload_n 0, 1) := by decide +kernel
theorem dX2_fill_29 : decode cX2_fill 29 = .ok (.iload 4, 2) := by decide +kernel
theorem dX2_fill_31 : decode cX2_fill 31 = .ok (.iconst 0, 1) := by decide +kernel
theorem dX2_fill_32 : decode cX2_fill 32 = .ok (.aload_n 0, 1) := by decide +kernel
theorem dX2_fill_33 : decode cX2_fill 33 = .ok (.iload 4, 2) := by decide +kernel
theorem dX2_fill_35 : decode cX2_fill 35 = .ok (.invokevirtual 70, 3) := by decide +kernel
theorem dX2_fill_38 : decode cX2_fill 38 = .ok (.invokevirtual 84, 3) := by decide +kernel
theorem dX2_fill_41 : decode cX2_fill 41 = .ok (.iinc 4 1, 3) := by decide +kernel
theorem dX2_fill_44 : decode cX2_fill 44 = .ok (.goto (-35), 3) := by decide +kernel
theorem dX2_fill_47 : decode cX2_fill 47 = .ok (.iload_n 3, 1) := by decide +kernel
theorem dX2_fill_48 : decode cX2_fill 48 = .ok (.istore 4, 2) := by decide +kernel
theorem dX2_fill_50 : decode cX2_fill 50 = .ok (.iload_n 2, 1) := by decide +kernel
theorem dX2_fill_51 : decode cX2_fill 51 = .ok (.iconst 1, 1) := by decide +kernel
theorem dX2_fill_52 : decode cX2_fill 52 = .ok (.isub, 1) := by decide +kernel
theorem dX2_fill_53 : decode cX2_fill 53 = .ok (.istore 5, 2) := by decide +kernel
theorem dX2_fill_55 : decode cX2_fill 55 = .ok (.iload 5, 2) := by decide +kernel
theorem dX2_fill_57 : decode cX2_fill 57 = .ok (.ifCond .le 61, 3) := by decide +kernel
theorem dX2_fill_60 : decode cX2_fill 60 = .ok (.iload_n 2, 1) := by decide +kernel
theorem dX2_fill_61 : decode cX2_fill 61 = .ok (.iconst 1, 1) := by decide +kernel
theorem dX2_fill_62 : decode cX2_fill 62 = .ok (.isub, 1) := by decide +kernel
theorem dX2_fill_63 : decode cX2_fill 63 = .ok (.istore 6, 2) := by decide +kernel
theorem dX2_fill_65 : decode cX2_fill 65 = .ok (.iload 6, 2) := by decide +kernel
theorem dX2_fill_67 : decode cX2_fill 67 = .ok (.ifCond .le 45, 3) := by decide +kernel
theorem dX2_fill_70 : decode cX2_fill 70 = .ok (.iload_n 2, 1) := by decide +kernel
theorem dX2_fill_71 : decode cX2_fill 71 = .ok (.iconst 1, 1) := by decide +kernel
theorem dX2_fill_72 : decode cX2_fill 72 = .ok (.isub, 1) := by decide +kernel
theorem dX2_fill_73 : decode cX2_fill 73 = .ok (.istore 7, 2) := by decide +kernel
theorem dX2_fill_75 : decode cX2_fill 75 = .ok (.iload 7, 2) := by decide +kernel
theorem dX2_fill_77 : decode cX2_fill 77 = .ok (.ifCond .lt 29, 3) := by decide +kernel
theorem dX2_fill_80 : decode cX2_fill 80 = .ok (.aload_n 0, 1) := by decide +kernel
theorem dX2_fill_81 : decode cX2_fill 81 = .ok (.iload 5, 2) := by decide +kernel
theorem dX2_fill_83 : decode cX2_fill 83 = .ok (.iload 6, 2) := by decide +kernel
theorem dX2_fill_85 : decode cX2_fill 85 = .ok (.iload 7, 2) := by decide +kernel
theorem dX2_fill_87 : decode cX2_fill 87 = .ok (.iload 4, 2) := by decide +kernel
theorem dX2_fill_89 : decode cX2_fill 89 = .ok (.iload_n 1, 1) := by decide +kernel
theorem dX2_fill_90 : decode cX2_fill 90 = .ok (.irem, 1) := by decide +kernel
theorem dX2_fill_91 : decode cX2_fill 91 = .ok (.invokevirtual 87, 3) := by decide +kernel
theorem dX2_fill_94 : decode cX2_fill 94 = .ok (.iload 4, 2) := by decide +kernel
theorem dX2_fill_96 : decode cX2_fill 96 = .ok (.iload_n 1, 1) := by decide +kernel
theorem dX2_fill_97 : decode cX2_fill 97 = .ok (.idiv, 1) := by decide +kernel
theorem dX2_fill_98 : decode cX2_fill 98 = .ok (.istore 4, 2) := by decide +kernel
theorem dX2_fill_100 : decode cX2_fill 100 = .ok (.iinc 7 (-1), 3) := by decide +kernel
theorem dX2_fill_103 : decode cX2_fill 103 = .ok (.goto (-28), 3) := by decide +kernel
theorem dX2_fill_106 : decode cX2_fill 106 = .ok (.iinc 6 (-1), 3) := by decide +kernel
theorem dX2_fill_109 : decode cX2_fill 109 = .ok (.goto (-44), 3) := by decide +kernel
theorem dX2_fill_112 : decode cX2_fill 112 = .ok (.iinc 5 (-1), 3) := by decide +kernel
theorem dX2_fill_115 : decode cX2_fill 115 = .ok (.goto (-60), 3) := by decide +kernel
theorem dX2_fill_118 : decode cX2_fill 118 = .ok (.return_, 1) := by decide +kernel
theorem dX3_init_0 : decode cX3_init 0 = .ok (.aload_n 0, 1) := by decide +kernel
theorem dX3_init_1 : decode cX3_init 1 = .ok (.invokespecial 3, 3) := by decide +kernel
theorem dX3_init_4 : decode cX3_init 4 = .ok (.aload_n 0, 1) := by decide +kernel
theorem dX3_init_5 : decode cX3_init 5 = .ok (.aload_n 1, 1) := by decide +kernel
theorem dX3_init_6 : decode cX3_init 6 = .ok (.putfield 9, 3) := by decide +kernel
theorem dX3_init_9 : decode cX3_init 9 = .ok (.return_, 1) := by decide +kernel
theorem dX3_hasPlace_0 : decode cX3_hasPlace 0 = .ok (.iload_n 2, 1) := by decide +kernel
theorem dX3_hasPlace_1 : decode cX3_hasPlace 1 = .ok (.ifCond .lt 15, 3) := by decide +kernel
theorem dX3_hasPlace_4 : decode cX3_hasPlace 4 = .ok (.iload_n 2, 1) := by decide +kernel
theorem dX3_hasPlace_5 : decode cX3_hasPlace 5 = .ok (.aload_n 1, 1) := by decide +kernel
theorem dX3_hasPlace_6 : decode cX3_hasPlace 6 = .ok (.invokestatic 15, 3) := by decide +kernel
theorem dX3_hasPlace_9 : decode cX3_hasPlace 9 = .ok (.if_icmp .gt 7, 3) := by decide +kernel
theorem dX3_hasPlace_12 : decode cX3_hasPlace 12 = .ok (.iconst 1, 1) := by decide +kernel
theorem dX3_hasPlace_13 : decode cX3_hasPlace 13 = .ok (.goto 4, 3) := by decide +kernel
theorem dX3_hasPlace_16 : decode cX3_hasPlace 16 = .ok (.iconst 0, 1) := by decide +kernel
theorem dX3_hasPlace_17 : decode cX3_hasPlace 17 = .ok (.ireturn, 1) := by decide +kernel
theorem dX3_last_0 : decode cX3_last 0 = .ok (.aload_n 0, 1) := by decide +kernel
theorem dX3_last_1 : decode cX3_last 1 = .ok (.invokevirtual 19, 3) := by decide +kernel
theorem dX3_last_4 : decode cX3_last 4 = .ok (.aload_n 0, 1) := by decide +kernel
theorem dX3_last_5 : decode cX3_last 5 = .ok (.invokevirtual 19, 3) := by decide +kernel
theorem dX3_last_8 : decode cX3_last 8 = .ok (.imul, 1) := by decide +kernel
theorem dX3_last_9 : decode cX3_last 9 = .ok (.aload_n 0, 1) := by decide +kernel
theorem dX3_last_10 : decode cX3_last 10 = .ok (.invokevirtual 19, 3) := by decide +kernel
theorem dX3_last_13 : decode cX3_last 13 = .ok (.iadd, 1) := by decide +kernel
theorem dX3_last_14 : decode cX3_last 14 = .ok (.ireturn, 1) := by decide +kernel
theorem dX3_isOn_0 : decode cX3_isOn 0 = .ok (.aload_n 1, 1) := by decide +kernel
theorem dX3_isOn_1 : decode cX3_isOn 1 = .ok (.invokevirtual 19, 3) := by decide +kernel
theorem dX3_isOn_4 : decode cX3_isOn 4 = .ok (.istore 4, 2) := by decide +kernel
theorem dX3_isOn_6 : decode cX3_isOn 6 = .ok (.iload 4, 2) := by decide +kernel
theorem dX3_isOn_8 : decode cX3_isOn 8 = .ok (.iload 4, 2) := by decide +kernel
theorem dX3_isOn_10 : decode cX3_isOn 10 = .ok (.imul, 1) := by decide +kernel
theorem dX3_isOn_11 : decode cX3_isOn 11 = .ok (.istore 5, 2) := by decide +kernel
theorem dX3_isOn_13 : decode cX3_isOn 13 = .ok (.iload 4, 2) := by decide +kernel
theorem dX3_isOn_15 : decode cX3_isOn 15 = .ok (.iconst 1, 1) := by decide +kernel
theorem dX3_isOn_16 : decode cX3_isOn 16 = .ok (.if_icmp .ge 5, 3) := by decide +kernel
theorem dX3_isOn_19 : decode cX3_isOn 19 = .ok (.iconst 0, 1) := by decide +kernel
theorem dX3_isOn_20 : decode cX3_isOn 20 = .ok (.ireturn, 1) := by decide +kernel
theorem dX3_isOn_21 : decode cX3_isOn 21 = .ok (.iload_n 2, 1) := by decide +kernel
theorem dX3_isOn_22 : decode cX3_isOn 22 = .ok (.iload 5, 2) := by decide +kernel
theorem dX3_isOn_24 : decode cX3_isOn 24 = .ok (.if_icmp .lt 48, 3) := by decide +kernel
theorem dX3_isOn_27 : decode cX3_isOn 27 = .ok (.iload_n 3, 1) := by decide +kernel
theorem dX3_isOn_28 : decode cX3_isOn 28 = .ok (.iload 5, 2) := by decide +kernel
theorem dX3_isOn_30 : decode cX3_isOn 30 = .ok (.if_icmp .lt 25, 3) := by decide +kernel
theorem dX3_isOn_33 : decode cX3_isOn 33 = .ok (.iload_n 2, 1) := by decide +kernel
theorem dX3_isOn_34 : decode cX3_isOn 34 = .ok (.aload_n 1, 1) := by decide +kernel
theorem dX3_isOn_35 : decode cX3_isOn 35 = .ok (.invokestatic 15, 3) := by decide +kernel
theorem dX3_isOn_38 : decode cX3_isOn 38 = .ok (.if_icmp .eq 11, 3) := by decide +kernel
theorem dX3_isOn_41 : decode cX3_isOn 41 = .ok (.iload_n 3, 1) := by decide +kernel
theorem dX3_isOn_42 : decode cX3_isOn 42 = .ok (.aload_n 1, 1) := by decide +kernel
theorem dX3_isOn_43 : decode cX3_isOn 43 = .ok (.invokestatic 15, 3) := by decide +kernel
theorem dX3_isOn_46 : decode cX3_isOn 46 = .ok (.if_icmp .ne 7, 3) := by decide +kernel
theorem dX3_isOn_49 : decode cX3_isOn 49 = .ok (.iconst 1, 1) := by decide +kernel
theorem dX3_isOn_50 : decode cX3_isOn 50 = .ok (.goto 4, 3) := by decide +kernel
theorem dX3_isOn_53 : decode cX3_isOn 53 = .ok (.iconst 0, 1) := by decide +kernel
theorem dX3_isOn_54 : decode cX3_isOn 54 = .ok (.ireturn, 1) := by decide +kernel
theorem dX3_isOn_55 : decode cX3_isOn 55 = .ok (.iload_n 2, 1) := by decide +kernel
theorem dX3_isOn_56 : decode cX3_isOn 56 = .ok (.iload 5, 2) := by decide +kernel
theorem dX3_isOn_58 : decode cX3_isOn 58 = .ok (.isub, 1) := by decide +kernel
theorem dX3_isOn_59 : decode cX3_isOn 59 = .ok (.iload_n 3, 1) := by decide +kernel
theorem dX3_isOn_60 : decode cX3_isOn 60 = .ok (.iload 4, 2) := by decide +kernel
theorem dX3_isOn_62 : decode cX3_isOn 62 = .ok (.idiv, 1) := by decide +kernel
theorem dX3_isOn_63 : decode cX3_isOn 63 = .ok (.if_icmp .ne 7, 3) := by decide +kernel
theorem dX3_isOn_66 : decode cX3_isOn 66 = .ok (.iconst 1, 1) := by decide +kernel
theorem dX3_isOn_67 : decode cX3_isOn 67 = .ok (.goto 4, 3) := by decide +kernel
theorem dX3_isOn_70 : decode cX3_isOn 70 = .ok (.iconst 0, 1) := by decide +kernel
theorem dX3_isOn_71 : decode cX3_isOn 71 = .ok (.ireturn, 1) := by decide +kernel
theorem dX3_isOn_72 : decode cX3_isOn 72 = .ok (.iload_n 3, 1) := by decide +kernel
theorem dX3_isOn_73 : decode cX3_isOn 73 = .ok (.iload 5, 2) := by decide +kernel
theorem dX3_isOn_75 : decode cX3_isOn 75 = .ok (.if_icmp .lt 20, 3) := by decide +kernel
theorem dX3_isOn_78 : decode cX3_isOn 78 = .ok (.iload_n 3, 1) := by decide +kernel
theorem dX3_isOn_79 : decode cX3_isOn 79 = .ok (.iload 5, 2) := by decide +kernel
theorem dX3_isOn_81 : decode cX3_isOn 81 = .ok (.isub, 1) := by decide +kernel
theorem dX3_isOn_82 : decode cX3_isOn 82 = .ok (.iload_n 2, 1) := by decide +kernel
theorem dX3_isOn_83 : decode cX3_isOn 83 = .ok (.iload 4, 2) := by decide +kernel
theorem dX3_isOn_85 : decode cX3_isOn 85 = .ok (.idiv, 1) := by decide +kernel
theorem dX3_isOn_86 : decode cX3_isOn 86 = .ok (.if_icmp .ne 7, 3) := by decide +kernel
theorem dX3_isOn_89 : decode cX3_isOn 89 = .ok (.iconst 1, 1) := by decide +kernel
theorem dX3_isOn_90 : decode cX3_isOn 90 = .ok (.goto 4, 3) := by decide +kernel
theorem dX3_isOn_93 : decode cX3_isOn 93 = .ok (.iconst 0, 1) := by decide +kernel
theorem dX3_isOn_94 : decode cX3_isOn 94 = .ok (.ireturn, 1) := by decide +kernel
theorem dX3_isOn_95 : decode cX3_isOn 95 = .ok (.iload_n 2, 1) := by decide +kernel
theorem dX3_isOn_96 : decode cX3_isOn 96 = .ok (.iload 4, 2) := by decide +kernel
theorem dX3_isOn_98 : decode cX3_isOn 98 = .ok (.irem, 1) := by decide +kernel
theorem dX3_isOn_99 : decode cX3_isOn 99 = .ok (.aload_n 0, 1) := by decide +kernel
theorem dX3_isOn_100 : decode cX3_isOn 100 = .ok (.aload_n 1, 1) := by decide +kernel
theorem dX3_isOn_101 : decode cX3_isOn 101 = .ok (.iload_n 3, 1) := by decide +kernel
theorem dX3_isOn_102 : decode cX3_isOn 102 = .ok (.iload_n 2, 1) := by decide +kernel
theorem dX3_isOn_103 : decode cX3_isOn 103 = .ok (.iload 4, 2) := by decide +kernel
theorem dX3_isOn_105 : decode cX3_isOn 105 = .ok (.idiv, 1) := by decide +kernel
theorem dX3_isOn_106 : decode cX3_isOn 106 = .ok (.invokevirtual 25, 3) := by decide +kernel
theorem dX3_isOn_109 : decode cX3_isOn 109 = .ok (.if_icmp .ne 7, 3) := by decide +kernel
theorem dX3_isOn_112 : decode cX3_isOn 112 = .ok (.iconst 1, 1) := by decide +kernel
theorem dX3_isOn_113 : decode cX3_isOn 113 = .ok (.goto 4, 3) := by decide +kernel
theorem dX3_isOn_116 : decode cX3_isOn 116 = .ok (.iconst 0, 1) := by decide +kernel
theorem dX3_isOn_117 : decode cX3_isOn 117 = .ok (.ireturn, 1) := by decide +kernel
theorem dX3_height_0 : decode cX3_height 0 = .ok (.aload_n 1, 1) := by decide +kernel
theorem dX3_height_1 : decode cX3_height 1 = .ok (.invokevirtual 19, 3) := by decide +kernel
theorem dX3_height_4 : decode cX3_height 4 = .ok (.istore 4, 2) := by decide +kernel
theorem dX3_height_6 : decode cX3_height 6 = .ok (.iload 4, 2) := by decide +kernel
theorem dX3_height_8 : decode cX3_height 8 = .ok (.iconst 1, 1) := by decide +kernel
theorem dX3_height_9 : decode cX3_height 9 = .ok (.if_icmp .ge 7, 3) := by decide +kernel
theorem dX3_height_12 : decode cX3_height 12 = .ok (.iconst 0, 1) := by decide +kernel
theorem dX3_height_13 : decode cX3_height 13 = .ok (.goto 23, 3) := by decide +kernel
theorem dX3_height_16 : decode cX3_height 16 = .ok (.aload_n 1, 1) := by decide +kernel
theorem dX3_height_17 : decode cX3_height 17 = .ok (.invokevirtual 29, 3) := by decide +kernel
theorem dX3_height_20 : decode cX3_height 20 = .ok (.aload_n 1, 1) := by decide +kernel
theorem dX3_height_21 : decode cX3_height 21 = .ok (.iload_n 2, 1) := by decide +kernel
theorem dX3_height_22 : decode cX3_height 22 = .ok (.iload 4, 2) := by decide +kernel
theorem dX3_height_24 : decode cX3_height 24 = .ok (.idiv, 1) := by decide +kernel
theorem dX3_height_25 : decode cX3_height 25 = .ok (.iload_n 3, 1) := by decide +kernel
theorem dX3_height_26 : decode cX3_height 26 = .ok (.invokevirtual 32, 3) := by decide +kernel
theorem dX3_height_29 : decode cX3_height 29 = .ok (.iload_n 2, 1) := by decide +kernel
theorem dX3_height_30 : decode cX3_height 30 = .ok (.iload 4, 2) := by decide +kernel
theorem dX3_height_32 : decode cX3_height 32 = .ok (.irem, 1) := by decide +kernel
theorem dX3_height_33 : decode cX3_height 33 = .ok (.invokestatic 36, 3) := by decide +kernel
theorem dX3_height_36 : decode cX3_height 36 = .ok (.ireturn, 1) := by decide +kernel
theorem dX3_through_0 : decode cX3_through 0 = .ok (.aload_n 1, 1) := by decide +kernel
theorem dX3_through_1 : decode cX3_through 1 = .ok (.invokevirtual 19, 3) := by decide +kernel
theorem dX3_through_4 : decode cX3_through 4 = .ok (.istore 4, 2) := by decide +kernel
theorem dX3_through_6 : decode cX3_through 6 = .ok (.iload 4, 2) := by decide +kernel
theorem dX3_through_8 : decode cX3_through 8 = .ok (.iconst 1, 1) := by decide +kernel
theorem dX3_through_9 : decode cX3_through 9 = .ok (.if_icmp .ge 7, 3) := by decide +kernel
theorem dX3_through_12 : decode cX3_through 12 = .ok (.iconst 0, 1) := by decide +kernel
theorem dX3_through_13 : decode cX3_through 13 = .ok (.goto 28, 3) := by decide +kernel
theorem dX3_through_16 : decode cX3_through 16 = .ok (.iload 4, 2) := by decide +kernel
theorem dX3_through_18 : decode cX3_through 18 = .ok (.iload_n 2, 1) := by decide +kernel
theorem dX3_through_19 : decode cX3_through 19 = .ok (.imul, 1) := by decide +kernel
theorem dX3_through_20 : decode cX3_through 20 = .ok (.aload_n 1, 1) := by decide +kernel
theorem dX3_through_21 : decode cX3_through 21 = .ok (.invokevirtual 29, 3) := by decide +kernel
theorem dX3_through_24 : decode cX3_through 24 = .ok (.iload_n 3, 1) := by decide +kernel
theorem dX3_through_25 : decode cX3_through 25 = .ok (.iload 4, 2) := by decide +kernel
theorem dX3_through_27 : decode cX3_through 27 = .ok (.irem, 1) := by decide +kernel
theorem dX3_through_28 : decode cX3_through 28 = .ok (.aload_n 1, 1) := by decide +kernel
theorem dX3_through_29 : decode cX3_through 29 = .ok (.iload_n 2, 1) := by decide +kernel
theorem dX3_through_30 : decode cX3_through 30 = .ok (.iload_n 3, 1) := by decide +kernel
theorem dX3_through_31 : decode cX3_through 31 = .ok (.iload 4, 2) := by decide +kernel
theorem dX3_through_33 : decode cX3_through 33 = .ok (.idiv, 1) := by decide +kernel
theorem dX3_through_34 : decode cX3_through 34 = .ok (.invokevirtual 32, 3) := by decide +kernel
theorem dX3_through_37 : decode cX3_through 37 = .ok (.invokestatic 42, 3) := by decide +kernel
theorem dX3_through_40 : decode cX3_through 40 = .ok (.iadd, 1) := by decide +kernel
theorem dX3_through_41 : decode cX3_through 41 = .ok (.ireturn, 1) := by decide +kernel
theorem dX3_join_0 : decode cX3_join 0 = .ok (.iload_n 2, 1) := by decide +kernel
theorem dX3_join_1 : decode cX3_join 1 = .ok (.iload_n 3, 1) := by decide +kernel
theorem dX3_join_2 : decode cX3_join 2 = .ok (.invokestatic 45, 3) := by decide +kernel
theorem dX3_join_5 : decode cX3_join 5 = .ok (.istore 4, 2) := by decide +kernel
theorem dX3_join_7 : decode cX3_join 7 = .ok (.iload_n 2, 1) := by decide +kernel
theorem dX3_join_8 : decode cX3_join 8 = .ok (.iload_n 3, 1) := by decide +kernel
theorem dX3_join_9 : decode cX3_join 9 = .ok (.invokestatic 50, 3) := by decide +kernel
theorem dX3_join_12 : decode cX3_join 12 = .ok (.istore 5, 2) := by decide +kernel
theorem dX3_join_14 : decode cX3_join 14 = .ok (.aload_n 1, 1) := by decide +kernel
theorem dX3_join_15 : decode cX3_join 15 = .ok (.invokevirtual 19, 3) := by decide +kernel
theorem dX3_join_18 : decode cX3_join 18 = .ok (.istore 6, 2) := by decide +kernel
theorem dX3_join_20 : decode cX3_join 20 = .ok (.iload 6, 2) := by decide +kernel
theorem dX3_join_22 : decode cX3_join 22 = .ok (.iload 6, 2) := by decide +kernel
theorem dX3_join_24 : decode cX3_join 24 = .ok (.imul, 1) := by decide +kernel
theorem dX3_join_25 : decode cX3_join 25 = .ok (.istore 7, 2) := by decide +kernel
theorem dX3_join_27 : decode cX3_join 27 = .ok (.iload 6, 2) := by decide +kernel
theorem dX3_join_29 : decode cX3_join 29 = .ok (.iconst 1, 1) := by decide +kernel
theorem dX3_join_30 : decode cX3_join 30 = .ok (.if_icmp .lt 10, 3) := by decide +kernel
theorem dX3_join_33 : decode cX3_join 33 = .ok (.iload 4, 2) := by decide +kernel
theorem dX3_join_35 : decode cX3_join 35 = .ok (.iload 7, 2) := by decide +kernel
theorem dX3_join_37 : decode cX3_join 37 = .ok (.if_icmp .lt 8, 3) := by decide +kernel
theorem dX3_join_40 : decode cX3_join 40 = .ok (.aload_n 1, 1) := by decide +kernel
theorem dX3_join_41 : decode cX3_join 41 = .ok (.invokestatic 15, 3) := by decide +kernel
theorem dX3_join_44 : decode cX3_join 44 = .ok (.ireturn, 1) := by decide +kernel
theorem dX3_join_45 : decode cX3_join 45 = .ok (.iload 5, 2) := by decide +kernel
theorem dX3_join_47 : decode cX3_join 47 = .ok (.aload_n 1, 1) := by decide +kernel
theorem dX3_join_48 : decode cX3_join 48 = .ok (.invokestatic 15, 3) := by decide +kernel
theorem dX3_join_51 : decode cX3_join 51 = .ok (.if_icmp .ne 12, 3) := by decide +kernel
theorem dX3_join_54 : decode cX3_join 54 = .ok (.iload 7, 2) := by decide +kernel
theorem dX3_join_56 : decode cX3_join 56 = .ok (.iload 4, 2) := by decide +kernel
theorem dX3_join_58 : decode cX3_join 58 = .ok (.iload 6, 2) := by decide +kernel
theorem dX3_join_60 : decode cX3_join 60 = .ok (.idiv, 1) := by decide +kernel
theorem dX3_join_61 : decode cX3_join 61 = .ok (.iadd, 1) := by decide +kernel
theorem dX3_join_62 : decode cX3_join 62 = .ok (.ireturn, 1) := by decide +kernel
theorem dX3_join_63 : decode cX3_join 63 = .ok (.iload 5, 2) := by decide +kernel
theorem dX3_join_65 : decode cX3_join 65 = .ok (.iload 7, 2) := by decide +kernel
theorem dX3_join_67 : decode cX3_join 67 = .ok (.if_icmp .lt 16, 3) := by decide +kernel
theorem dX3_join_70 : decode cX3_join 70 = .ok (.aload_n 0, 1) := by decide +kernel
theorem dX3_join_71 : decode cX3_join 71 = .ok (.aload_n 1, 1) := by decide +kernel
theorem dX3_join_72 : decode cX3_join 72 = .ok (.iload 5, 2) := by decide +kernel
theorem dX3_join_74 : decode cX3_join 74 = .ok (.iload 7, 2) := by decide +kernel
theorem dX3_join_76 : decode cX3_join 76 = .ok (.isub, 1) := by decide +kernel
theorem dX3_join_77 : decode cX3_join 77 = .ok (.iload 4, 2) := by decide +kernel
theorem dX3_join_79 : decode cX3_join 79 = .ok (.invokevirtual 53, 3) := by decide +kernel
theorem dX3_join_82 : decode cX3_join 82 = .ok (.ireturn, 1) := by decide +kernel
theorem dX3_join_83 : decode cX3_join 83 = .ok (.iload 4, 2) := by decide +kernel
theorem dX3_join_85 : decode cX3_join 85 = .ok (.iload 6, 2) := by decide +kernel
theorem dX3_join_87 : decode cX3_join 87 = .ok (.idiv, 1) := by decide +kernel
theorem dX3_join_88 : decode cX3_join 88 = .ok (.iload 5, 2) := by decide +kernel
theorem dX3_join_90 : decode cX3_join 90 = .ok (.iload 6, 2) := by decide +kernel
theorem dX3_join_92 : decode cX3_join 92 = .ok (.idiv, 1) := by decide +kernel
theorem dX3_join_93 : decode cX3_join 93 = .ok (.if_icmp .ne 12, 3) := by decide +kernel
theorem dX3_join_96 : decode cX3_join 96 = .ok (.iload 7, 2) := by decide +kernel
theorem dX3_join_98 : decode cX3_join 98 = .ok (.iload 4, 2) := by decide +kernel
theorem dX3_join_100 : decode cX3_join 100 = .ok (.iload 6, 2) := by decide +kernel
theorem dX3_join_102 : decode cX3_join 102 = .ok (.idiv, 1) := by decide +kernel
theorem dX3_join_103 : decode cX3_join 103 = .ok (.iadd, 1) := by decide +kernel
theorem dX3_join_104 : decode cX3_join 104 = .ok (.ireturn, 1) := by decide +kernel
theorem dX3_join_105 : decode cX3_join 105 = .ok (.aload_n 1, 1) := by decide +kernel
theorem dX3_join_106 : decode cX3_join 106 = .ok (.invokevirtual 29, 3) := by decide +kernel
theorem dX3_join_109 : decode cX3_join 109 = .ok (.iload 4, 2) := by decide +kernel
theorem dX3_join_111 : decode cX3_join 111 = .ok (.iload 6, 2) := by decide +kernel
theorem dX3_join_113 : decode cX3_join 113 = .ok (.idiv, 1) := by decide +kernel
theorem dX3_join_114 : decode cX3_join 114 = .ok (.iload 5, 2) := by decide +kernel
theorem dX3_join_116 : decode cX3_join 116 = .ok (.iload 6, 2) := by decide +kernel
theorem dX3_join_118 : decode cX3_join 118 = .ok (.idiv, 1) := by decide +kernel
theorem dX3_join_119 : decode cX3_join 119 = .ok (.invokestatic 42, 3) := by decide +kernel
theorem dX3_join_122 : decode cX3_join 122 = .ok (.istore 8, 2) := by decide +kernel
theorem dX3_join_124 : decode cX3_join 124 = .ok (.aload_n 1, 1) := by decide +kernel
theorem dX3_join_125 : decode cX3_join 125 = .ok (.invokevirtual 29, 3) := by decide +kernel
theorem dX3_join_128 : decode cX3_join 128 = .ok (.iload 4, 2) := by decide +kernel
theorem dX3_join_130 : decode cX3_join 130 = .ok (.iload 6, 2) := by decide +kernel
theorem dX3_join_132 : decode cX3_join 132 = .ok (.irem, 1) := by decide +kernel
theorem dX3_join_133 : decode cX3_join 133 = .ok (.iload 5, 2) := by decide +kernel
theorem dX3_join_135 : decode cX3_join 135 = .ok (.iload 6, 2) := by decide +kernel
theorem dX3_join_137 : decode cX3_join 137 = .ok (.irem, 1) := by decide +kernel
theorem dX3_join_138 : decode cX3_join 138 = .ok (.invokestatic 42, 3) := by decide +kernel
theorem dX3_join_141 : decode cX3_join 141 = .ok (.istore 9, 2) := by decide +kernel
theorem dX3_join_143 : decode cX3_join 143 = .ok (.aload_n 0, 1) := by decide +kernel
theorem dX3_join_144 : decode cX3_join 144 = .ok (.aload_n 1, 1) := by decide +kernel
theorem dX3_join_145 : decode cX3_join 145 = .ok (.aload_n 0, 1) := by decide +kernel
theorem dX3_join_146 : decode cX3_join 146 = .ok (.getfield 9, 3) := by decide +kernel
theorem dX3_join_149 : decode cX3_join 149 = .ok (.aload_n 1, 1) := by decide +kernel
theorem dX3_join_150 : decode cX3_join 150 = .ok (.iload 8, 2) := by decide +kernel
theorem dX3_join_152 : decode cX3_join 152 = .ok (.iload 9, 2) := by decide +kernel
theorem dX3_join_154 : decode cX3_join 154 = .ok (.iconst 0, 1) := by decide +kernel
theorem dX3_join_155 : decode cX3_join 155 = .ok (.invokevirtual 56, 3) := by decide +kernel
theorem dX3_join_158 : decode cX3_join 158 = .ok (.iload 4, 2) := by decide +kernel
theorem dX3_join_160 : decode cX3_join 160 = .ok (.invokevirtual 53, 3) := by decide +kernel
theorem dX3_join_163 : decode cX3_join 163 = .ok (.ireturn, 1) := by decide +kernel
theorem dX3_meet_0 : decode cX3_meet 0 = .ok (.iload_n 2, 1) := by decide +kernel
theorem dX3_meet_1 : decode cX3_meet 1 = .ok (.iload_n 3, 1) := by decide +kernel
theorem dX3_meet_2 : decode cX3_meet 2 = .ok (.invokestatic 45, 3) := by decide +kernel
theorem dX3_meet_5 : decode cX3_meet 5 = .ok (.istore 4, 2) := by decide +kernel
theorem dX3_meet_7 : decode cX3_meet 7 = .ok (.iload_n 2, 1) := by decide +kernel
theorem dX3_meet_8 : decode cX3_meet 8 = .ok (.iload_n 3, 1) := by decide +kernel
theorem dX3_meet_9 : decode cX3_meet 9 = .ok (.invokestatic 50, 3) := by decide +kernel
theorem dX3_meet_12 : decode cX3_meet 12 = .ok (.istore 5, 2) := by decide +kernel
theorem dX3_meet_14 : decode cX3_meet 14 = .ok (.aload_n 1, 1) := by decide +kernel
theorem dX3_meet_15 : decode cX3_meet 15 = .ok (.invokevirtual 19, 3) := by decide +kernel
theorem dX3_meet_18 : decode cX3_meet 18 = .ok (.istore 6, 2) := by decide +kernel
theorem dX3_meet_20 : decode cX3_meet 20 = .ok (.iload 6, 2) := by decide +kernel
theorem dX3_meet_22 : decode cX3_meet 22 = .ok (.iload 6, 2) := by decide +kernel
theorem dX3_meet_24 : decode cX3_meet 24 = .ok (.imul, 1) := by decide +kernel
theorem dX3_meet_25 : decode cX3_meet 25 = .ok (.istore 7, 2) := by decide +kernel
theorem dX3_meet_27 : decode cX3_meet 27 = .ok (.iload 6, 2) := by decide +kernel
theorem dX3_meet_29 : decode cX3_meet 29 = .ok (.iconst 1, 1) := by decide +kernel
theorem dX3_meet_30 : decode cX3_meet 30 = .ok (.if_icmp .lt 10, 3) := by decide +kernel
theorem dX3_meet_33 : decode cX3_meet 33 = .ok (.iload 4, 2) := by decide +kernel
theorem dX3_meet_35 : decode cX3_meet 35 = .ok (.iload 7, 2) := by decide +kernel
theorem dX3_meet_37 : decode cX3_meet 37 = .ok (.if_icmp .lt 8, 3) := by decide +kernel
theorem dX3_meet_40 : decode cX3_meet 40 = .ok (.aload_n 1, 1) := by decide +kernel
theorem dX3_meet_41 : decode cX3_meet 41 = .ok (.invokestatic 15, 3) := by decide +kernel
theorem dX3_meet_44 : decode cX3_meet 44 = .ok (.ireturn, 1) := by decide +kernel
theorem dX3_meet_45 : decode cX3_meet 45 = .ok (.iload 5, 2) := by decide +kernel
theorem dX3_meet_47 : decode cX3_meet 47 = .ok (.aload_n 1, 1) := by decide +kernel
theorem dX3_meet_48 : decode cX3_meet 48 = .ok (.invokestatic 15, 3) := by decide +kernel
theorem dX3_meet_51 : decode cX3_meet 51 = .ok (.if_icmp .ne 12, 3) := by decide +kernel
theorem dX3_meet_54 : decode cX3_meet 54 = .ok (.iload 7, 2) := by decide +kernel
theorem dX3_meet_56 : decode cX3_meet 56 = .ok (.iload 4, 2) := by decide +kernel
theorem dX3_meet_58 : decode cX3_meet 58 = .ok (.iload 6, 2) := by decide +kernel
theorem dX3_meet_60 : decode cX3_meet 60 = .ok (.idiv, 1) := by decide +kernel
theorem dX3_meet_61 : decode cX3_meet 61 = .ok (.iadd, 1) := by decide +kernel
theorem dX3_meet_62 : decode cX3_meet 62 = .ok (.ireturn, 1) := by decide +kernel
theorem dX3_meet_63 : decode cX3_meet 63 = .ok (.iload 5, 2) := by decide +kernel
theorem dX3_meet_65 : decode cX3_meet 65 = .ok (.iload 7, 2) := by decide +kernel
theorem dX3_meet_67 : decode cX3_meet 67 = .ok (.if_icmp .lt 26, 3) := by decide +kernel
theorem dX3_meet_70 : decode cX3_meet 70 = .ok (.iload 5, 2) := by decide +kernel
theorem dX3_meet_72 : decode cX3_meet 72 = .ok (.iload 7, 2) := by decide +kernel
theorem dX3_meet_74 : decode cX3_meet 74 = .ok (.isub, 1) := by decide +kernel
theorem dX3_meet_75 : decode cX3_meet 75 = .ok (.istore 8, 2) := by decide +kernel
theorem dX3_meet_77 : decode cX3_meet 77 = .ok (.iload 6, 2) := by decide +kernel
theorem dX3_meet_79 : decode cX3_meet 79 = .ok (.iload 8, 2) := by decide +kernel
theorem dX3_meet_81 : decode cX3_meet 81 = .ok (.imul, 1) := by decide +kernel
theorem dX3_meet_82 : decode cX3_meet 82 = .ok (.aload_n 0, 1) := by decide +kernel
theorem dX3_meet_83 : decode cX3_meet 83 = .ok (.aload_n 1, 1) := by decide +kernel
theorem dX3_meet_84 : decode cX3_meet 84 = .ok (.iload 4, 2) := by decide +kernel
theorem dX3_meet_86 : decode cX3_meet 86 = .ok (.iload 8, 2) := by decide +kernel
theorem dX3_meet_88 : decode cX3_meet 88 = .ok (.invokevirtual 25, 3) := by decide +kernel
theorem dX3_meet_91 : decode cX3_meet 91 = .ok (.iadd, 1) := by decide +kernel
theorem dX3_meet_92 : decode cX3_meet 92 = .ok (.ireturn, 1) := by decide +kernel
theorem dX3_meet_93 : decode cX3_meet 93 = .ok (.iload 4, 2) := by decide +kernel
theorem dX3_meet_95 : decode cX3_meet 95 = .ok (.iload 6, 2) := by decide +kernel
theorem dX3_meet_97 : decode cX3_meet 97 = .ok (.idiv, 1) := by decide +kernel
theorem dX3_meet_98 : decode cX3_meet 98 = .ok (.iload 5, 2) := by decide +kernel
theorem dX3_meet_100 : decode cX3_meet 100 = .ok (.iload 6, 2) := by decide +kernel
theorem dX3_meet_102 : decode cX3_meet 102 = .ok (.idiv, 1) := by decide +kernel
theorem dX3_meet_103 : decode cX3_meet 103 = .ok (.if_icmp .ne 12, 3) := by decide +kernel
theorem dX3_meet_106 : decode cX3_meet 106 = .ok (.iload 7, 2) := by decide +kernel
theorem dX3_meet_108 : decode cX3_meet 108 = .ok (.iload 4, 2) := by decide +kernel
theorem dX3_meet_110 : decode cX3_meet 110 = .ok (.iload 6, 2) := by decide +kernel
theorem dX3_meet_112 : decode cX3_meet 112 = .ok (.idiv, 1) := by decide +kernel
theorem dX3_meet_113 : decode cX3_meet 113 = .ok (.iadd, 1) := by decide +kernel
theorem dX3_meet_114 : decode cX3_meet 114 = .ok (.ireturn, 1) := by decide +kernel
theorem dX3_meet_115 : decode cX3_meet 115 = .ok (.aload_n 1, 1) := by decide +kernel
theorem dX3_meet_116 : decode cX3_meet 116 = .ok (.invokevirtual 29, 3) := by decide +kernel
theorem dX3_meet_119 : decode cX3_meet 119 = .ok (.iload 4, 2) := by decide +kernel
theorem dX3_meet_121 : decode cX3_meet 121 = .ok (.iload 6, 2) := by decide +kernel
theorem dX3_meet_123 : decode cX3_meet 123 = .ok (.idiv, 1) := by decide +kernel
theorem dX3_meet_124 : decode cX3_meet 124 = .ok (.iload 5, 2) := by decide +kernel
theorem dX3_meet_126 : decode cX3_meet 126 = .ok (.iload 6, 2) := by decide +kernel
theorem dX3_meet_128 : decode cX3_meet 128 = .ok (.idiv, 1) := by decide +kernel
theorem dX3_meet_129 : decode cX3_meet 129 = .ok (.invokestatic 42, 3) := by decide +kernel
theorem dX3_meet_132 : decode cX3_meet 132 = .ok (.istore 8, 2) := by decide +kernel
theorem dX3_meet_134 : decode cX3_meet 134 = .ok (.aload_n 1, 1) := by decide +kernel
theorem dX3_meet_135 : decode cX3_meet 135 = .ok (.invokevirtual 29, 3) := by decide +kernel
theorem dX3_meet_138 : decode cX3_meet 138 = .ok (.iload 5, 2) := by decide +kernel
theorem dX3_meet_140 : decode cX3_meet 140 = .ok (.iload 6, 2) := by decide +kernel
theorem dX3_meet_142 : decode cX3_meet 142 = .ok (.irem, 1) := by decide +kernel
theorem dX3_meet_143 : decode cX3_meet 143 = .ok (.iload 4, 2) := by decide +kernel
theorem dX3_meet_145 : decode cX3_meet 145 = .ok (.iload 6, 2) := by decide +kernel
theorem dX3_meet_147 : decode cX3_meet 147 = .ok (.irem, 1) := by decide +kernel
theorem dX3_meet_148 : decode cX3_meet 148 = .ok (.invokestatic 42, 3) := by decide +kernel
theorem dX3_meet_151 : decode cX3_meet 151 = .ok (.istore 9, 2) := by decide +kernel
theorem dX3_meet_153 : decode cX3_meet 153 = .ok (.aload_n 0, 1) := by decide +kernel
theorem dX3_meet_154 : decode cX3_meet 154 = .ok (.getfield 9, 3) := by decide +kernel
theorem dX3_meet_157 : decode cX3_meet 157 = .ok (.aload_n 1, 1) := by decide +kernel
theorem dX3_meet_158 : decode cX3_meet 158 = .ok (.iload 8, 2) := by decide +kernel
theorem dX3_meet_160 : decode cX3_meet 160 = .ok (.iload 9, 2) := by decide +kernel
theorem dX3_meet_162 : decode cX3_meet 162 = .ok (.iconst 1, 1) := by decide +kernel
theorem dX3_meet_163 : decode cX3_meet 163 = .ok (.invokevirtual 56, 3) := by decide +kernel
theorem dX3_meet_166 : decode cX3_meet 166 = .ok (.istore 10, 2) := by decide +kernel
theorem dX3_meet_168 : decode cX3_meet 168 = .ok (.iload 6, 2) := by decide +kernel
theorem dX3_meet_170 : decode cX3_meet 170 = .ok (.iload 10, 2) := by decide +kernel
theorem dX3_meet_172 : decode cX3_meet 172 = .ok (.imul, 1) := by decide +kernel
theorem dX3_meet_173 : decode cX3_meet 173 = .ok (.aload_n 0, 1) := by decide +kernel
theorem dX3_meet_174 : decode cX3_meet 174 = .ok (.aload_n 1, 1) := by decide +kernel
theorem dX3_meet_175 : decode cX3_meet 175 = .ok (.iload 4, 2) := by decide +kernel
theorem dX3_meet_177 : decode cX3_meet 177 = .ok (.iload 10, 2) := by decide +kernel
theorem dX3_meet_179 : decode cX3_meet 179 = .ok (.invokevirtual 25, 3) := by decide +kernel
theorem dX3_meet_182 : decode cX3_meet 182 = .ok (.iadd, 1) := by decide +kernel
theorem dX3_meet_183 : decode cX3_meet 183 = .ok (.ireturn, 1) := by decide +kernel
theorem dX3_isTriangle_0 : decode cX3_isTriangle 0 = .ok (.iload_n 2, 1) := by decide +kernel
theorem dX3_isTriangle_1 : decode cX3_isTriangle 1 = .ok (.iload_n 3, 1) := by decide +kernel
theorem dX3_isTriangle_2 : decode cX3_isTriangle 2 = .ok (.if_icmp .eq 36, 3) := by decide +kernel
theorem dX3_isTriangle_5 : decode cX3_isTriangle 5 = .ok (.iload_n 2, 1) := by decide +kernel
theorem dX3_isTriangle_6 : decode cX3_isTriangle 6 = .ok (.iload 4, 2) := by decide +kernel
theorem dX3_isTriangle_8 : decode cX3_isTriangle 8 = .ok (.if_icmp .eq 30, 3) := by decide +kernel
theorem dX3_isTriangle_11 : decode cX3_isTriangle 11 = .ok (.iload_n 3, 1) := by decide +kernel
theorem dX3_isTriangle_12 : decode cX3_isTriangle 12 = .ok (.iload 4, 2) := by decide +kernel
theorem dX3_isTriangle_14 : decode cX3_isTriangle 14 = .ok (.if_icmp .eq 24, 3) := by decide +kernel
theorem dX3_isTriangle_17 : decode cX3_isTriangle 17 = .ok (.aload_n 0, 1) := by decide +kernel
theorem dX3_isTriangle_18 : decode cX3_isTriangle 18 = .ok (.aload_n 1, 1) := by decide +kernel
theorem dX3_isTriangle_19 : decode cX3_isTriangle 19 = .ok (.iload 4, 2) := by decide +kernel
theorem dX3_isTriangle_21 : decode cX3_isTriangle 21 = .ok (.aload_n 0, 1) := by decide +kernel
theorem dX3_isTriangle_22 : decode cX3_isTriangle 22 = .ok (.aload_n 1, 1) := by decide +kernel
theorem dX3_isTriangle_23 : decode cX3_isTriangle 23 = .ok (.iload_n 2, 1) := by decide +kernel
theorem dX3_isTriangle_24 : decode cX3_isTriangle 24 = .ok (.iload_n 3, 1) := by decide +kernel
theorem dX3_isTriangle_25 : decode cX3_isTriangle 25 = .ok (.invokevirtual 62, 3) := by decide +kernel
theorem dX3_isTriangle_28 : decode cX3_isTriangle 28 = .ok (.invokevirtual 65, 3) := by decide +kernel
theorem dX3_isTriangle_31 : decode cX3_isTriangle 31 = .ok (.ifCond .ne 7, 3) := by decide +kernel
theorem dX3_isTriangle_34 : decode cX3_isTriangle 34 = .ok (.iconst 1, 1) := by decide +kernel
theorem dX3_isTriangle_35 : decode cX3_isTriangle 35 = .ok (.goto 4, 3) := by decide +kernel
theorem dX3_isTriangle_38 : decode cX3_isTriangle 38 = .ok (.iconst 0, 1) := by decide +kernel
theorem dX3_isTriangle_39 : decode cX3_isTriangle 39 = .ok (.ireturn, 1) := by decide +kernel
theorem dX3_diagonals_0 : decode cX3_diagonals 0 = .ok (.aload_n 0, 1) := by decide +kernel
theorem dX3_diagonals_1 : decode cX3_diagonals 1 = .ok (.aload_n 1, 1) := by decide +kernel
theorem dX3_diagonals_2 : decode cX3_diagonals 2 = .ok (.iload_n 2, 1) := by decide +kernel
theorem dX3_diagonals_3 : decode cX3_diagonals 3 = .ok (.invokevirtual 69, 3) := by decide +kernel
theorem dX3_diagonals_6 : decode cX3_diagonals 6 = .ok (.ifCond .eq 32, 3) := by decide +kernel
theorem dX3_diagonals_9 : decode cX3_diagonals 9 = .ok (.aload_n 0, 1) := by decide +kernel
theorem dX3_diagonals_10 : decode cX3_diagonals 10 = .ok (.aload_n 1, 1) := by decide +kernel
theorem dX3_diagonals_11 : decode cX3_diagonals 11 = .ok (.iload_n 3, 1) := by decide +kernel
theorem dX3_diagonals_12 : decode cX3_diagonals 12 = .ok (.invokevirtual 69, 3) := by decide +kernel
theorem dX3_diagonals_15 : decode cX3_diagonals 15 = .ok (.ifCond .eq 23, 3) := by decide +kernel
theorem dX3_diagonals_18 : decode cX3_diagonals 18 = .ok (.aload_n 0, 1) := by decide +kernel
theorem dX3_diagonals_19 : decode cX3_diagonals 19 = .ok (.aload_n 1, 1) := by decide +kernel
theorem dX3_diagonals_20 : decode cX3_diagonals 20 = .ok (.iload 4, 2) := by decide +kernel
theorem dX3_diagonals_22 : decode cX3_diagonals 22 = .ok (.invokevirtual 69, 3) := by decide +kernel
theorem dX3_diagonals_25 : decode cX3_diagonals 25 = .ok (.ifCond .eq 13, 3) := by decide +kernel
theorem dX3_diagonals_28 : decode cX3_diagonals 28 = .ok (.aload_n 0, 1) := by decide +kernel
theorem dX3_diagonals_29 : decode cX3_diagonals 29 = .ok (.aload_n 1, 1) := by decide +kernel
theorem dX3_diagonals_30 : decode cX3_diagonals 30 = .ok (.iload 5, 2) := by decide +kernel
theorem dX3_diagonals_32 : decode cX3_diagonals 32 = .ok (.invokevirtual 69, 3) := by decide +kernel
theorem dX3_diagonals_35 : decode cX3_diagonals 35 = .ok (.ifCond .ne 5, 3) := by decide +kernel
theorem dX3_diagonals_38 : decode cX3_diagonals 38 = .ok (.iconst (-1), 1) := by decide +kernel
theorem dX3_diagonals_39 : decode cX3_diagonals 39 = .ok (.ireturn, 1) := by decide +kernel
theorem dX3_diagonals_40 : decode cX3_diagonals 40 = .ok (.aload_n 0, 1) := by decide +kernel
theorem dX3_diagonals_41 : decode cX3_diagonals 41 = .ok (.aload_n 1, 1) := by decide +kernel
theorem dX3_diagonals_42 : decode cX3_diagonals 42 = .ok (.iload_n 2, 1) := by decide +kernel
theorem dX3_diagonals_43 : decode cX3_diagonals 43 = .ok (.iload_n 3, 1) := by decide +kernel
theorem dX3_diagonals_44 : decode cX3_diagonals 44 = .ok (.iload 4, 2) := by decide +kernel
theorem dX3_diagonals_46 : decode cX3_diagonals 46 = .ok (.invokevirtual 73, 3) := by decide +kernel
theorem dX3_diagonals_49 : decode cX3_diagonals 49 = .ok (.ifCond .eq 15, 3) := by decide +kernel
theorem dX3_diagonals_52 : decode cX3_diagonals 52 = .ok (.aload_n 0, 1) := by decide +kernel
theorem dX3_diagonals_53 : decode cX3_diagonals 53 = .ok (.aload_n 1, 1) := by decide +kernel
theorem dX3_diagonals_54 : decode cX3_diagonals 54 = .ok (.iload_n 2, 1) := by decide +kernel
theorem dX3_diagonals_55 : decode cX3_diagonals 55 = .ok (.iload_n 3, 1) := by decide +kernel
theorem dX3_diagonals_56 : decode cX3_diagonals 56 = .ok (.iload 5, 2) := by decide +kernel
theorem dX3_diagonals_58 : decode cX3_diagonals 58 = .ok (.invokevirtual 73, 3) := by decide +kernel
theorem dX3_diagonals_61 : decode cX3_diagonals 61 = .ok (.ifCond .ne 5, 3) := by decide +kernel
theorem dX3_diagonals_64 : decode cX3_diagonals 64 = .ok (.iconst (-1), 1) := by decide +kernel
theorem dX3_diagonals_65 : decode cX3_diagonals 65 = .ok (.ireturn, 1) := by decide +kernel
theorem dX3_diagonals_66 : decode cX3_diagonals 66 = .ok (.aload_n 0, 1) := by decide +kernel
theorem dX3_diagonals_67 : decode cX3_diagonals 67 = .ok (.aload_n 1, 1) := by decide +kernel
theorem dX3_diagonals_68 : decode cX3_diagonals 68 = .ok (.iload_n 2, 1) := by decide +kernel
theorem dX3_diagonals_69 : decode cX3_diagonals 69 = .ok (.iload 4, 2) := by decide +kernel
theorem dX3_diagonals_71 : decode cX3_diagonals 71 = .ok (.iload 5, 2) := by decide +kernel
theorem dX3_diagonals_73 : decode cX3_diagonals 73 = .ok (.invokevirtual 73, 3) := by decide +kernel
theorem dX3_diagonals_76 : decode cX3_diagonals 76 = .ok (.ifCond .eq 16, 3) := by decide +kernel
theorem dX3_diagonals_79 : decode cX3_diagonals 79 = .ok (.aload_n 0, 1) := by decide +kernel
theorem dX3_diagonals_80 : decode cX3_diagonals 80 = .ok (.aload_n 1, 1) := by decide +kernel
theorem dX3_diagonals_81 : decode cX3_diagonals 81 = .ok (.iload_n 3, 1) := by decide +kernel
theorem dX3_diagonals_82 : decode cX3_diagonals 82 = .ok (.iload 4, 2) := by decide +kernel
theorem dX3_diagonals_84 : decode cX3_diagonals 84 = .ok (.iload 5, 2) := by decide +kernel
theorem dX3_diagonals_86 : decode cX3_diagonals 86 = .ok (.invokevirtual 73, 3) := by decide +kernel
theorem dX3_diagonals_89 : decode cX3_diagonals 89 = .ok (.ifCond .ne 5, 3) := by decide +kernel
theorem dX3_diagonals_92 : decode cX3_diagonals 92 = .ok (.iconst (-1), 1) := by decide +kernel
theorem dX3_diagonals_93 : decode cX3_diagonals 93 = .ok (.ireturn, 1) := by decide +kernel
theorem dX3_diagonals_94 : decode cX3_diagonals 94 = .ok (.aload_n 0, 1) := by decide +kernel
theorem dX3_diagonals_95 : decode cX3_diagonals 95 = .ok (.aload_n 1, 1) := by decide +kernel
theorem dX3_diagonals_96 : decode cX3_diagonals 96 = .ok (.aload_n 0, 1) := by decide +kernel
theorem dX3_diagonals_97 : decode cX3_diagonals 97 = .ok (.aload_n 1, 1) := by decide +kernel
theorem dX3_diagonals_98 : decode cX3_diagonals 98 = .ok (.iload_n 2, 1) := by decide +kernel
theorem dX3_diagonals_99 : decode cX3_diagonals 99 = .ok (.iload_n 3, 1) := by decide +kernel
theorem dX3_diagonals_100 : decode cX3_diagonals 100 = .ok (.invokevirtual 62, 3) := by decide +kernel
theorem dX3_diagonals_103 : decode cX3_diagonals 103 = .ok (.aload_n 0, 1) := by decide +kernel
theorem dX3_diagonals_104 : decode cX3_diagonals 104 = .ok (.aload_n 1, 1) := by decide +kernel
theorem dX3_diagonals_105 : decode cX3_diagonals 105 = .ok (.iload 4, 2) := by decide +kernel
theorem dX3_diagonals_107 : decode cX3_diagonals 107 = .ok (.iload 5, 2) := by decide +kernel
theorem dX3_diagonals_109 : decode cX3_diagonals 109 = .ok (.invokevirtual 62, 3) := by decide +kernel
theorem dX3_diagonals_112 : decode cX3_diagonals 112 = .ok (.invokevirtual 77, 3) := by decide +kernel
theorem dX3_diagonals_115 : decode cX3_diagonals 115 = .ok (.istore 6, 2) := by decide +kernel
theorem dX3_diagonals_117 : decode cX3_diagonals 117 = .ok (.aload_n 0, 1) := by decide +kernel
theorem dX3_diagonals_118 : decode cX3_diagonals 118 = .ok (.aload_n 1, 1) := by decide +kernel
theorem dX3_diagonals_119 : decode cX3_diagonals 119 = .ok (.aload_n 0, 1) := by decide +kernel
theorem dX3_diagonals_120 : decode cX3_diagonals 120 = .ok (.aload_n 1, 1) := by decide +kernel
theorem dX3_diagonals_121 : decode cX3_diagonals 121 = .ok (.iload_n 2, 1) := by decide +kernel
theorem dX3_diagonals_122 : decode cX3_diagonals 122 = .ok (.iload 4, 2) := by decide +kernel
theorem dX3_diagonals_124 : decode cX3_diagonals 124 = .ok (.invokevirtual 62, 3) := by decide +kernel
theorem dX3_diagonals_127 : decode cX3_diagonals 127 = .ok (.aload_n 0, 1) := by decide +kernel
theorem dX3_diagonals_128 : decode cX3_diagonals 128 = .ok (.aload_n 1, 1) := by decide +kernel
theorem dX3_diagonals_129 : decode cX3_diagonals 129 = .ok (.iload_n 3, 1) := by decide +kernel
theorem dX3_diagonals_130 : decode cX3_diagonals 130 = .ok (.iload 5, 2) := by decide +kernel
theorem dX3_diagonals_132 : decode cX3_diagonals 132 = .ok (.invokevirtual 62, 3) := by decide +kernel
theorem dX3_diagonals_135 : decode cX3_diagonals 135 = .ok (.invokevirtual 77, 3) := by decide +kernel
theorem dX3_diagonals_138 : decode cX3_diagonals 138 = .ok (.istore 7, 2) := by decide +kernel
theorem dX3_diagonals_140 : decode cX3_diagonals 140 = .ok (.aload_n 0, 1) := by decide +kernel
theorem dX3_diagonals_141 : decode cX3_diagonals 141 = .ok (.aload_n 1, 1) := by decide +kernel
theorem dX3_diagonals_142 : decode cX3_diagonals 142 = .ok (.aload_n 0, 1) := by decide +kernel
theorem dX3_diagonals_143 : decode cX3_diagonals 143 = .ok (.aload_n 1, 1) := by decide +kernel
theorem dX3_diagonals_144 : decode cX3_diagonals 144 = .ok (.iload_n 2, 1) := by decide +kernel
theorem dX3_diagonals_145 : decode cX3_diagonals 145 = .ok (.iload 5, 2) := by decide +kernel
theorem dX3_diagonals_147 : decode cX3_diagonals 147 = .ok (.invokevirtual 62, 3) := by decide +kernel
theorem dX3_diagonals_150 : decode cX3_diagonals 150 = .ok (.aload_n 0, 1) := by decide +kernel
theorem dX3_diagonals_151 : decode cX3_diagonals 151 = .ok (.aload_n 1, 1) := by decide +kernel
theorem dX3_diagonals_152 : decode cX3_diagonals 152 = .ok (.iload_n 3, 1) := by decide +kernel
theorem dX3_diagonals_153 : decode cX3_diagonals 153 = .ok (.iload 4, 2) := by decide +kernel
theorem dX3_diagonals_155 : decode cX3_diagonals 155 = .ok (.invokevirtual 62, 3) := by decide +kernel
theorem dX3_diagonals_158 : decode cX3_diagonals 158 = .ok (.invokevirtual 77, 3) := by decide +kernel
theorem dX3_diagonals_161 : decode cX3_diagonals 161 = .ok (.istore 8, 2) := by decide +kernel
theorem dX3_diagonals_163 : decode cX3_diagonals 163 = .ok (.aload_n 0, 1) := by decide +kernel
theorem dX3_diagonals_164 : decode cX3_diagonals 164 = .ok (.aload_n 1, 1) := by decide +kernel
theorem dX3_diagonals_165 : decode cX3_diagonals 165 = .ok (.iload 6, 2) := by decide +kernel
theorem dX3_diagonals_167 : decode cX3_diagonals 167 = .ok (.iload 7, 2) := by decide +kernel
theorem dX3_diagonals_169 : decode cX3_diagonals 169 = .ok (.iload 8, 2) := by decide +kernel
theorem dX3_diagonals_171 : decode cX3_diagonals 171 = .ok (.invokevirtual 73, 3) := by decide +kernel
theorem dX3_diagonals_174 : decode cX3_diagonals 174 = .ok (.ifCond .eq 7, 3) := by decide +kernel
theorem dX3_diagonals_177 : decode cX3_diagonals 177 = .ok (.iconst 0, 1) := by decide +kernel
theorem dX3_diagonals_178 : decode cX3_diagonals 178 = .ok (.goto 4, 3) := by decide +kernel
theorem dX3_diagonals_181 : decode cX3_diagonals 181 = .ok (.iconst 1, 1) := by decide +kernel
theorem dX3_diagonals_182 : decode cX3_diagonals 182 = .ok (.ireturn, 1) := by decide +kernel
