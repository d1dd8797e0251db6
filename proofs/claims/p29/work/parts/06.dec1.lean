theorem dX0_init_0 : decode cX0_init 0 = .ok (.aload_n 0, 1) := by decide +kernel
theorem dX0_init_1 : decode cX0_init 1 = .ok (.invokespecial 1, 3) := by decide +kernel
theorem dX0_init_4 : decode cX0_init 4 = .ok (.aload_n 0, 1) := by decide +kernel
theorem dX0_init_5 : decode cX0_init 5 = .ok (.iconst 2, 1) := by decide +kernel
theorem dX0_init_6 : decode cX0_init 6 = .ok (.putfield 7, 3) := by decide +kernel
theorem dX0_init_9 : decode cX0_init 9 = .ok (.aload_n 0, 1) := by decide +kernel
theorem dX0_init_10 : decode cX0_init 10 = .ok (.iconst 1, 1) := by decide +kernel
theorem dX0_init_11 : decode cX0_init 11 = .ok (.putfield 13, 3) := by decide +kernel
theorem dX0_init_14 : decode cX0_init 14 = .ok (.aload_n 0, 1) := by decide +kernel
theorem dX0_init_15 : decode cX0_init 15 = .ok (.iconst 0, 1) := by decide +kernel
theorem dX0_init_16 : decode cX0_init 16 = .ok (.putfield 16, 3) := by decide +kernel
theorem dX0_init_19 : decode cX0_init 19 = .ok (.aload_n 0, 1) := by decide +kernel
theorem dX0_init_20 : decode cX0_init 20 = .ok (.bipush 75, 2) := by decide +kernel
theorem dX0_init_22 : decode cX0_init 22 = .ok (.bipush 75, 2) := by decide +kernel
theorem dX0_init_24 : decode cX0_init 24 = .ok (.multianewarray 19 2, 4) := by decide +kernel
theorem dX0_init_28 : decode cX0_init 28 = .ok (.putfield 21, 3) := by decide +kernel
theorem dX0_init_31 : decode cX0_init 31 = .ok (.aload_n 0, 1) := by decide +kernel
theorem dX0_init_32 : decode cX0_init 32 = .ok (.bipush 75, 2) := by decide +kernel
theorem dX0_init_34 : decode cX0_init 34 = .ok (.newarray .boolean, 2) := by decide +kernel
theorem dX0_init_36 : decode cX0_init 36 = .ok (.putfield 24, 3) := by decide +kernel
theorem dX0_init_39 : decode cX0_init 39 = .ok (.aload_n 0, 1) := by decide +kernel
theorem dX0_init_40 : decode cX0_init 40 = .ok (.bipush 75, 2) := by decide +kernel
theorem dX0_init_42 : decode cX0_init 42 = .ok (.newarray .int, 2) := by decide +kernel
theorem dX0_init_44 : decode cX0_init 44 = .ok (.putfield 28, 3) := by decide +kernel
theorem dX0_init_47 : decode cX0_init 47 = .ok (.return_, 1) := by decide +kernel
theorem dX0_start_0 : decode cX0_start 0 = .ok (.iload_n 1, 1) := by decide +kernel
theorem dX0_start_1 : decode cX0_start 1 = .ok (.invokestatic 32, 3) := by decide +kernel
theorem dX0_start_4 : decode cX0_start 4 = .ok (.ifCond .eq 14, 3) := by decide +kernel
theorem dX0_start_7 : decode cX0_start 7 = .ok (.iload_n 2, 1) := by decide +kernel
theorem dX0_start_8 : decode cX0_start 8 = .ok (.iconst 1, 1) := by decide +kernel
theorem dX0_start_9 : decode cX0_start 9 = .ok (.if_icmp .lt 9, 3) := by decide +kernel
theorem dX0_start_12 : decode cX0_start 12 = .ok (.iload_n 2, 1) := by decide +kernel
theorem dX0_start_13 : decode cX0_start 13 = .ok (.bipush 75, 2) := by decide +kernel
theorem dX0_start_15 : decode cX0_start 15 = .ok (.if_icmp .le 4, 3) := by decide +kernel
theorem dX0_start_18 : decode cX0_start 18 = .ok (.return_, 1) := by decide +kernel
theorem dX0_start_19 : decode cX0_start 19 = .ok (.aload_n 0, 1) := by decide +kernel
theorem dX0_start_20 : decode cX0_start 20 = .ok (.iload_n 1, 1) := by decide +kernel
theorem dX0_start_21 : decode cX0_start 21 = .ok (.putfield 7, 3) := by decide +kernel
theorem dX0_start_24 : decode cX0_start 24 = .ok (.aload_n 0, 1) := by decide +kernel
theorem dX0_start_25 : decode cX0_start 25 = .ok (.iload_n 2, 1) := by decide +kernel
theorem dX0_start_26 : decode cX0_start 26 = .ok (.putfield 13, 3) := by decide +kernel
theorem dX0_start_29 : decode cX0_start 29 = .ok (.aload_n 0, 1) := by decide +kernel
theorem dX0_start_30 : decode cX0_start 30 = .ok (.iconst 0, 1) := by decide +kernel
theorem dX0_start_31 : decode cX0_start 31 = .ok (.putfield 16, 3) := by decide +kernel
theorem dX0_start_34 : decode cX0_start 34 = .ok (.iconst 0, 1) := by decide +kernel
theorem dX0_start_35 : decode cX0_start 35 = .ok (.istore_n 3, 1) := by decide +kernel
theorem dX0_start_36 : decode cX0_start 36 = .ok (.iload_n 3, 1) := by decide +kernel
theorem dX0_start_37 : decode cX0_start 37 = .ok (.aload_n 0, 1) := by decide +kernel
theorem dX0_start_38 : decode cX0_start 38 = .ok (.getfield 13, 3) := by decide +kernel
theorem dX0_start_41 : decode cX0_start 41 = .ok (.if_icmp .ge 23, 3) := by decide +kernel
theorem dX0_start_44 : decode cX0_start 44 = .ok (.aload_n 0, 1) := by decide +kernel
theorem dX0_start_45 : decode cX0_start 45 = .ok (.getfield 24, 3) := by decide +kernel
theorem dX0_start_48 : decode cX0_start 48 = .ok (.iload_n 3, 1) := by decide +kernel
theorem dX0_start_49 : decode cX0_start 49 = .ok (.iconst 0, 1) := by decide +kernel
theorem dX0_start_50 : decode cX0_start 50 = .ok (.bastore, 1) := by decide +kernel
theorem dX0_start_51 : decode cX0_start 51 = .ok (.aload_n 0, 1) := by decide +kernel
theorem dX0_start_52 : decode cX0_start 52 = .ok (.getfield 28, 3) := by decide +kernel
theorem dX0_start_55 : decode cX0_start 55 = .ok (.iload_n 3, 1) := by decide +kernel
theorem dX0_start_56 : decode cX0_start 56 = .ok (.iconst 0, 1) := by decide +kernel
theorem dX0_start_57 : decode cX0_start 57 = .ok (.iastore, 1) := by decide +kernel
theorem dX0_start_58 : decode cX0_start 58 = .ok (.iinc 3 1, 3) := by decide +kernel
theorem dX0_start_61 : decode cX0_start 61 = .ok (.goto (-25), 3) := by decide +kernel
theorem dX0_start_64 : decode cX0_start 64 = .ok (.return_, 1) := by decide +kernel
theorem dX0_rank_0 : decode cX0_rank 0 = .ok (.aload_n 0, 1) := by decide +kernel
theorem dX0_rank_1 : decode cX0_rank 1 = .ok (.getfield 16, 3) := by decide +kernel
theorem dX0_rank_4 : decode cX0_rank 4 = .ok (.ireturn, 1) := by decide +kernel
theorem dX0_add_0 : decode cX0_add 0 = .ok (.iload_n 1, 1) := by decide +kernel
theorem dX0_add_1 : decode cX0_add 1 = .ok (.ifCond .lt 30, 3) := by decide +kernel
theorem dX0_add_4 : decode cX0_add 4 = .ok (.iload_n 1, 1) := by decide +kernel
theorem dX0_add_5 : decode cX0_add 5 = .ok (.aload_n 0, 1) := by decide +kernel
theorem dX0_add_6 : decode cX0_add 6 = .ok (.getfield 13, 3) := by decide +kernel
theorem dX0_add_9 : decode cX0_add 9 = .ok (.if_icmp .ge 22, 3) := by decide +kernel
theorem dX0_add_12 : decode cX0_add 12 = .ok (.aload_n 0, 1) := by decide +kernel
theorem dX0_add_13 : decode cX0_add 13 = .ok (.getfield 28, 3) := by decide +kernel
theorem dX0_add_16 : decode cX0_add 16 = .ok (.iload_n 1, 1) := by decide +kernel
theorem dX0_add_17 : decode cX0_add 17 = .ok (.aload_n 0, 1) := by decide +kernel
theorem dX0_add_18 : decode cX0_add 18 = .ok (.getfield 28, 3) := by decide +kernel
theorem dX0_add_21 : decode cX0_add 21 = .ok (.iload_n 1, 1) := by decide +kernel
theorem dX0_add_22 : decode cX0_add 22 = .ok (.iaload, 1) := by decide +kernel
theorem dX0_add_23 : decode cX0_add 23 = .ok (.iload_n 2, 1) := by decide +kernel
theorem dX0_add_24 : decode cX0_add 24 = .ok (.iadd, 1) := by decide +kernel
theorem dX0_add_25 : decode cX0_add 25 = .ok (.aload_n 0, 1) := by decide +kernel
theorem dX0_add_26 : decode cX0_add 26 = .ok (.getfield 7, 3) := by decide +kernel
theorem dX0_add_29 : decode cX0_add 29 = .ok (.irem, 1) := by decide +kernel
theorem dX0_add_30 : decode cX0_add 30 = .ok (.iastore, 1) := by decide +kernel
theorem dX0_add_31 : decode cX0_add 31 = .ok (.return_, 1) := by decide +kernel
theorem dX0_settle_0 : decode cX0_settle 0 = .ok (.iconst 0, 1) := by decide +kernel
theorem dX0_settle_1 : decode cX0_settle 1 = .ok (.istore_n 1, 1) := by decide +kernel
theorem dX0_settle_2 : decode cX0_settle 2 = .ok (.iconst 0, 1) := by decide +kernel
theorem dX0_settle_3 : decode cX0_settle 3 = .ok (.istore_n 2, 1) := by decide +kernel
theorem dX0_settle_4 : decode cX0_settle 4 = .ok (.iload_n 2, 1) := by decide +kernel
theorem dX0_settle_5 : decode cX0_settle 5 = .ok (.aload_n 0, 1) := by decide +kernel
theorem dX0_settle_6 : decode cX0_settle 6 = .ok (.getfield 13, 3) := by decide +kernel
theorem dX0_settle_9 : decode cX0_settle 9 = .ok (.if_icmp .ge 48, 3) := by decide +kernel
theorem dX0_settle_12 : decode cX0_settle 12 = .ok (.aload_n 0, 1) := by decide +kernel
theorem dX0_settle_13 : decode cX0_settle 13 = .ok (.getfield 28, 3) := by decide +kernel
theorem dX0_settle_16 : decode cX0_settle 16 = .ok (.iload_n 2, 1) := by decide +kernel
theorem dX0_settle_17 : decode cX0_settle 17 = .ok (.iaload, 1) := by decide +kernel
theorem dX0_settle_18 : decode cX0_settle 18 = .ok (.ifCond .ne 6, 3) := by decide +kernel
theorem dX0_settle_21 : decode cX0_settle 21 = .ok (.goto 30, 3) := by decide +kernel
theorem dX0_settle_24 : decode cX0_settle 24 = .ok (.aload_n 0, 1) := by decide +kernel
theorem dX0_settle_25 : decode cX0_settle 25 = .ok (.getfield 24, 3) := by decide +kernel
theorem dX0_settle_28 : decode cX0_settle 28 = .ok (.iload_n 2, 1) := by decide +kernel
theorem dX0_settle_29 : decode cX0_settle 29 = .ok (.baload, 1) := by decide +kernel
theorem dX0_settle_30 : decode cX0_settle 30 = .ok (.ifCond .eq 11, 3) := by decide +kernel
theorem dX0_settle_33 : decode cX0_settle 33 = .ok (.aload_n 0, 1) := by decide +kernel
theorem dX0_settle_34 : decode cX0_settle 34 = .ok (.iload_n 2, 1) := by decide +kernel
theorem dX0_settle_35 : decode cX0_settle 35 = .ok (.invokevirtual 42, 3) := by decide +kernel
theorem dX0_settle_38 : decode cX0_settle 38 = .ok (.goto 13, 3) := by decide +kernel
theorem dX0_settle_41 : decode cX0_settle 41 = .ok (.aload_n 0, 1) := by decide +kernel
theorem dX0_settle_42 : decode cX0_settle 42 = .ok (.iload_n 2, 1) := by decide +kernel
theorem dX0_settle_43 : decode cX0_settle 43 = .ok (.invokevirtual 46, 3) := by decide +kernel
theorem dX0_settle_46 : decode cX0_settle 46 = .ok (.iconst 1, 1) := by decide +kernel
theorem dX0_settle_47 : decode cX0_settle 47 = .ok (.istore_n 1, 1) := by decide +kernel
theorem dX0_settle_48 : decode cX0_settle 48 = .ok (.goto 9, 3) := by decide +kernel
theorem dX0_settle_51 : decode cX0_settle 51 = .ok (.iinc 2 1, 3) := by decide +kernel
theorem dX0_settle_54 : decode cX0_settle 54 = .ok (.goto (-50), 3) := by decide +kernel
theorem dX0_settle_57 : decode cX0_settle 57 = .ok (.iconst 0, 1) := by decide +kernel
theorem dX0_settle_58 : decode cX0_settle 58 = .ok (.istore_n 2, 1) := by decide +kernel
theorem dX0_settle_59 : decode cX0_settle 59 = .ok (.iload_n 2, 1) := by decide +kernel
theorem dX0_settle_60 : decode cX0_settle 60 = .ok (.aload_n 0, 1) := by decide +kernel
theorem dX0_settle_61 : decode cX0_settle 61 = .ok (.getfield 13, 3) := by decide +kernel
theorem dX0_settle_64 : decode cX0_settle 64 = .ok (.if_icmp .ge 16, 3) := by decide +kernel
theorem dX0_settle_67 : decode cX0_settle 67 = .ok (.aload_n 0, 1) := by decide +kernel
theorem dX0_settle_68 : decode cX0_settle 68 = .ok (.getfield 28, 3) := by decide +kernel
theorem dX0_settle_71 : decode cX0_settle 71 = .ok (.iload_n 2, 1) := by decide +kernel
theorem dX0_settle_72 : decode cX0_settle 72 = .ok (.iconst 0, 1) := by decide +kernel
theorem dX0_settle_73 : decode cX0_settle 73 = .ok (.iastore, 1) := by decide +kernel
theorem dX0_settle_74 : decode cX0_settle 74 = .ok (.iinc 2 1, 3) := by decide +kernel
theorem dX0_settle_77 : decode cX0_settle 77 = .ok (.goto (-18), 3) := by decide +kernel
theorem dX0_settle_80 : decode cX0_settle 80 = .ok (.iload_n 1, 1) := by decide +kernel
theorem dX0_settle_81 : decode cX0_settle 81 = .ok (.ireturn, 1) := by decide +kernel
theorem dX0_reduce_0 : decode cX0_reduce 0 = .ok (.aload_n 0, 1) := by decide +kernel
theorem dX0_reduce_1 : decode cX0_reduce 1 = .ok (.getfield 21, 3) := by decide +kernel
theorem dX0_reduce_4 : decode cX0_reduce 4 = .ok (.iload_n 1, 1) := by decide +kernel
theorem dX0_reduce_5 : decode cX0_reduce 5 = .ok (.aaload, 1) := by decide +kernel
theorem dX0_reduce_6 : decode cX0_reduce 6 = .ok (.astore_n 2, 1) := by decide +kernel
theorem dX0_reduce_7 : decode cX0_reduce 7 = .ok (.aload_n 0, 1) := by decide +kernel
theorem dX0_reduce_8 : decode cX0_reduce 8 = .ok (.getfield 7, 3) := by decide +kernel
theorem dX0_reduce_11 : decode cX0_reduce 11 = .ok (.aload_n 0, 1) := by decide +kernel
theorem dX0_reduce_12 : decode cX0_reduce 12 = .ok (.getfield 28, 3) := by decide +kernel
theorem dX0_reduce_15 : decode cX0_reduce 15 = .ok (.iload_n 1, 1) := by decide +kernel
theorem dX0_reduce_16 : decode cX0_reduce 16 = .ok (.iaload, 1) := by decide +kernel
theorem dX0_reduce_17 : decode cX0_reduce 17 = .ok (.isub, 1) := by decide +kernel
theorem dX0_reduce_18 : decode cX0_reduce 18 = .ok (.istore_n 3, 1) := by decide +kernel
theorem dX0_reduce_19 : decode cX0_reduce 19 = .ok (.iload_n 1, 1) := by decide +kernel
theorem dX0_reduce_20 : decode cX0_reduce 20 = .ok (.istore 4, 2) := by decide +kernel
theorem dX0_reduce_22 : decode cX0_reduce 22 = .ok (.iload 4, 2) := by decide +kernel
theorem dX0_reduce_24 : decode cX0_reduce 24 = .ok (.aload_n 0, 1) := by decide +kernel
theorem dX0_reduce_25 : decode cX0_reduce 25 = .ok (.getfield 13, 3) := by decide +kernel
theorem dX0_reduce_28 : decode cX0_reduce 28 = .ok (.if_icmp .ge 42, 3) := by decide +kernel
theorem dX0_reduce_31 : decode cX0_reduce 31 = .ok (.aload_n 2, 1) := by decide +kernel
theorem dX0_reduce_32 : decode cX0_reduce 32 = .ok (.iload 4, 2) := by decide +kernel
theorem dX0_reduce_34 : decode cX0_reduce 34 = .ok (.iaload, 1) := by decide +kernel
theorem dX0_reduce_35 : decode cX0_reduce 35 = .ok (.ifCond .eq 29, 3) := by decide +kernel
theorem dX0_reduce_38 : decode cX0_reduce 38 = .ok (.aload_n 0, 1) := by decide +kernel
theorem dX0_reduce_39 : decode cX0_reduce 39 = .ok (.getfield 28, 3) := by decide +kernel
theorem dX0_reduce_42 : decode cX0_reduce 42 = .ok (.iload 4, 2) := by decide +kernel
theorem dX0_reduce_44 : decode cX0_reduce 44 = .ok (.aload_n 0, 1) := by decide +kernel
theorem dX0_reduce_45 : decode cX0_reduce 45 = .ok (.getfield 28, 3) := by decide +kernel
theorem dX0_reduce_48 : decode cX0_reduce 48 = .ok (.iload 4, 2) := by decide +kernel
theorem dX0_reduce_50 : decode cX0_reduce 50 = .ok (.iaload, 1) := by decide +kernel
theorem dX0_reduce_51 : decode cX0_reduce 51 = .ok (.iload_n 3, 1) := by decide +kernel
theorem dX0_reduce_52 : decode cX0_reduce 52 = .ok (.aload_n 2, 1) := by decide +kernel
theorem dX0_reduce_53 : decode cX0_reduce 53 = .ok (.iload 4, 2) := by decide +kernel
theorem dX0_reduce_55 : decode cX0_reduce 55 = .ok (.iaload, 1) := by decide +kernel
theorem dX0_reduce_56 : decode cX0_reduce 56 = .ok (.imul, 1) := by decide +kernel
theorem dX0_reduce_57 : decode cX0_reduce 57 = .ok (.iadd, 1) := by decide +kernel
theorem dX0_reduce_58 : decode cX0_reduce 58 = .ok (.aload_n 0, 1) := by decide +kernel
theorem dX0_reduce_59 : decode cX0_reduce 59 = .ok (.getfield 7, 3) := by decide +kernel
theorem dX0_reduce_62 : decode cX0_reduce 62 = .ok (.irem, 1) := by decide +kernel
theorem dX0_reduce_63 : decode cX0_reduce 63 = .ok (.iastore, 1) := by decide +kernel
theorem dX0_reduce_64 : decode cX0_reduce 64 = .ok (.iinc 4 1, 3) := by decide +kernel
theorem dX0_reduce_67 : decode cX0_reduce 67 = .ok (.goto (-45), 3) := by decide +kernel
theorem dX0_reduce_70 : decode cX0_reduce 70 = .ok (.return_, 1) := by decide +kernel
theorem dX0_lead_0 : decode cX0_lead 0 = .ok (.aload_n 0, 1) := by decide +kernel
theorem dX0_lead_1 : decode cX0_lead 1 = .ok (.getfield 21, 3) := by decide +kernel
theorem dX0_lead_4 : decode cX0_lead 4 = .ok (.iload_n 1, 1) := by decide +kernel
theorem dX0_lead_5 : decode cX0_lead 5 = .ok (.aaload, 1) := by decide +kernel
theorem dX0_lead_6 : decode cX0_lead 6 = .ok (.astore_n 2, 1) := by decide +kernel
theorem dX0_lead_7 : decode cX0_lead 7 = .ok (.aload_n 0, 1) := by decide +kernel
theorem dX0_lead_8 : decode cX0_lead 8 = .ok (.getfield 28, 3) := by decide +kernel
theorem dX0_lead_11 : decode cX0_lead 11 = .ok (.iload_n 1, 1) := by decide +kernel
theorem dX0_lead_12 : decode cX0_lead 12 = .ok (.iaload, 1) := by decide +kernel
theorem dX0_lead_13 : decode cX0_lead 13 = .ok (.istore_n 3, 1) := by decide +kernel
theorem dX0_lead_14 : decode cX0_lead 14 = .ok (.aload_n 0, 1) := by decide +kernel
theorem dX0_lead_15 : decode cX0_lead 15 = .ok (.getfield 7, 3) := by decide +kernel
theorem dX0_lead_18 : decode cX0_lead 18 = .ok (.iconst 5, 1) := by decide +kernel
theorem dX0_lead_19 : decode cX0_lead 19 = .ok (.if_icmp .ne 16, 3) := by decide +kernel
theorem dX0_lead_22 : decode cX0_lead 22 = .ok (.iload_n 3, 1) := by decide +kernel
theorem dX0_lead_23 : decode cX0_lead 23 = .ok (.iload_n 3, 1) := by decide +kernel
theorem dX0_lead_24 : decode cX0_lead 24 = .ok (.imul, 1) := by decide +kernel
theorem dX0_lead_25 : decode cX0_lead 25 = .ok (.iload_n 3, 1) := by decide +kernel
theorem dX0_lead_26 : decode cX0_lead 26 = .ok (.imul, 1) := by decide +kernel
theorem dX0_lead_27 : decode cX0_lead 27 = .ok (.aload_n 0, 1) := by decide +kernel
theorem dX0_lead_28 : decode cX0_lead 28 = .ok (.getfield 7, 3) := by decide +kernel
theorem dX0_lead_31 : decode cX0_lead 31 = .ok (.irem, 1) := by decide +kernel
theorem dX0_lead_32 : decode cX0_lead 32 = .ok (.goto 4, 3) := by decide +kernel
theorem dX0_lead_35 : decode cX0_lead 35 = .ok (.iload_n 3, 1) := by decide +kernel
theorem dX0_lead_36 : decode cX0_lead 36 = .ok (.istore 4, 2) := by decide +kernel
theorem dX0_lead_38 : decode cX0_lead 38 = .ok (.iconst 0, 1) := by decide +kernel
theorem dX0_lead_39 : decode cX0_lead 39 = .ok (.istore 5, 2) := by decide +kernel
theorem dX0_lead_41 : decode cX0_lead 41 = .ok (.iload 5, 2) := by decide +kernel
theorem dX0_lead_43 : decode cX0_lead 43 = .ok (.aload_n 0, 1) := by decide +kernel
theorem dX0_lead_44 : decode cX0_lead 44 = .ok (.getfield 13, 3) := by decide +kernel
theorem dX0_lead_47 : decode cX0_lead 47 = .ok (.if_icmp .ge 28, 3) := by decide +kernel
theorem dX0_lead_50 : decode cX0_lead 50 = .ok (.aload_n 2, 1) := by decide +kernel
theorem dX0_lead_51 : decode cX0_lead 51 = .ok (.iload 5, 2) := by decide +kernel
theorem dX0_lead_53 : decode cX0_lead 53 = .ok (.aload_n 0, 1) := by decide +kernel
theorem dX0_lead_54 : decode cX0_lead 54 = .ok (.getfield 28, 3) := by decide +kernel
theorem dX0_lead_57 : decode cX0_lead 57 = .ok (.iload 5, 2) := by decide +kernel
theorem dX0_lead_59 : decode cX0_lead 59 = .ok (.iaload, 1) := by decide +kernel
theorem dX0_lead_60 : decode cX0_lead 60 = .ok (.iload 4, 2) := by decide +kernel
theorem dX0_lead_62 : decode cX0_lead 62 = .ok (.imul, 1) := by decide +kernel
theorem dX0_lead_63 : decode cX0_lead 63 = .ok (.aload_n 0, 1) := by decide +kernel
theorem dX0_lead_64 : decode cX0_lead 64 = .ok (.getfield 7, 3) := by decide +kernel
theorem dX0_lead_67 : decode cX0_lead 67 = .ok (.irem, 1) := by decide +kernel
theorem dX0_lead_68 : decode cX0_lead 68 = .ok (.iastore, 1) := by decide +kernel
theorem dX0_lead_69 : decode cX0_lead 69 = .ok (.iinc 5 1, 3) := by decide +kernel
theorem dX0_lead_72 : decode cX0_lead 72 = .ok (.goto (-31), 3) := by decide +kernel
theorem dX0_lead_75 : decode cX0_lead 75 = .ok (.aload_n 0, 1) := by decide +kernel
theorem dX0_lead_76 : decode cX0_lead 76 = .ok (.getfield 24, 3) := by decide +kernel
theorem dX0_lead_79 : decode cX0_lead 79 = .ok (.iload_n 1, 1) := by decide +kernel
theorem dX0_lead_80 : decode cX0_lead 80 = .ok (.iconst 1, 1) := by decide +kernel
theorem dX0_lead_81 : decode cX0_lead 81 = .ok (.bastore, 1) := by decide +kernel
theorem dX0_lead_82 : decode cX0_lead 82 = .ok (.aload_n 0, 1) := by decide +kernel
theorem dX0_lead_83 : decode cX0_lead 83 = .ok (.dup, 1) := by decide +kernel
theorem dX0_lead_84 : decode cX0_lead 84 = .ok (.getfield 16, 3) := by decide +kernel
theorem dX0_lead_87 : decode cX0_lead 87 = .ok (.iconst 1, 1) := by decide +kernel
theorem dX0_lead_88 : decode cX0_lead 88 = .ok (.iadd, 1) := by decide +kernel
theorem dX0_lead_89 : decode cX0_lead 89 = .ok (.putfield 16, 3) := by decide +kernel
theorem dX0_lead_92 : decode cX0_lead 92 = .ok (.return_, 1) := by decide +kernel
theorem dX1_init_0 : decode cX1_init 0 = .ok (.aload_n 0, 1) := by decide +kernel
theorem dX1_init_1 : decode cX1_init 1 = .ok (.invokespecial 3, 3) := by decide +kernel
theorem dX1_init_4 : decode cX1_init 4 = .ok (.aload_n 0, 1) := by decide +kernel
theorem dX1_init_5 : decode cX1_init 5 = .ok (.iconst 5, 1) := by decide +kernel
theorem dX1_init_6 : decode cX1_init 6 = .ok (.newarray .int, 2) := by decide +kernel
theorem dX1_init_8 : decode cX1_init 8 = .ok (.putfield 9, 3) := by decide +kernel
theorem dX1_init_11 : decode cX1_init 11 = .ok (.aload_n 0, 1) := by decide +kernel
theorem dX1_init_12 : decode cX1_init 12 = .ok (.bipush 6, 2) := by decide +kernel
theorem dX1_init_14 : decode cX1_init 14 = .ok (.newarray .int, 2) := by decide +kernel
theorem dX1_init_16 : decode cX1_init 16 = .ok (.putfield 15, 3) := by decide +kernel
theorem dX1_init_19 : decode cX1_init 19 = .ok (.aload_n 0, 1) := by decide +kernel
theorem dX1_init_20 : decode cX1_init 20 = .ok (.bipush 6, 2) := by decide +kernel
theorem dX1_init_22 : decode cX1_init 22 = .ok (.newarray .int, 2) := by decide +kernel
theorem dX1_init_24 : decode cX1_init 24 = .ok (.putfield 18, 3) := by decide +kernel
theorem dX1_init_27 : decode cX1_init 27 = .ok (.aload_n 0, 1) := by decide +kernel
theorem dX1_init_28 : decode cX1_init 28 = .ok (.aload_n 1, 1) := by decide +kernel
theorem dX1_init_29 : decode cX1_init 29 = .ok (.putfield 21, 3) := by decide +kernel
theorem dX1_init_32 : decode cX1_init 32 = .ok (.return_, 1) := by decide +kernel
theorem dX1_rankOf_0 : decode cX1_rankOf 0 = .ok (.aload_n 1, 1) := by decide +kernel
theorem dX1_rankOf_1 : decode cX1_rankOf 1 = .ok (.invokevirtual 25, 3) := by decide +kernel
theorem dX1_rankOf_4 : decode cX1_rankOf 4 = .ok (.istore 4, 2) := by decide +kernel
theorem dX1_rankOf_6 : decode cX1_rankOf 6 = .ok (.aload_n 1, 1) := by decide +kernel
theorem dX1_rankOf_7 : decode cX1_rankOf 7 = .ok (.invokevirtual 31, 3) := by decide +kernel
theorem dX1_rankOf_10 : decode cX1_rankOf 10 = .ok (.iload_n 3, 1) := by decide +kernel
theorem dX1_rankOf_11 : decode cX1_rankOf 11 = .ok (.aload_n 0, 1) := by decide +kernel
theorem dX1_rankOf_12 : decode cX1_rankOf 12 = .ok (.getfield 9, 3) := by decide +kernel
theorem dX1_rankOf_15 : decode cX1_rankOf 15 = .ok (.invokestatic 34, 3) := by decide +kernel
theorem dX1_rankOf_18 : decode cX1_rankOf 18 = .ok (.aload_n 0, 1) := by decide +kernel
theorem dX1_rankOf_19 : decode cX1_rankOf 19 = .ok (.getfield 21, 3) := by decide +kernel
theorem dX1_rankOf_22 : decode cX1_rankOf 22 = .ok (.aload_n 1, 1) := by decide +kernel
theorem dX1_rankOf_23 : decode cX1_rankOf 23 = .ok (.invokevirtual 31, 3) := by decide +kernel
theorem dX1_rankOf_26 : decode cX1_rankOf 26 = .ok (.iload 4, 2) := by decide +kernel
theorem dX1_rankOf_28 : decode cX1_rankOf 28 = .ok (.invokevirtual 40, 3) := by decide +kernel
theorem dX1_rankOf_31 : decode cX1_rankOf 31 = .ok (.iconst 0, 1) := by decide +kernel
theorem dX1_rankOf_32 : decode cX1_rankOf 32 = .ok (.istore 5, 2) := by decide +kernel
theorem dX1_rankOf_34 : decode cX1_rankOf 34 = .ok (.iload 5, 2) := by decide +kernel
theorem dX1_rankOf_36 : decode cX1_rankOf 36 = .ok (.iload 4, 2) := by decide +kernel
theorem dX1_rankOf_38 : decode cX1_rankOf 38 = .ok (.if_icmp .ge 52, 3) := by decide +kernel
theorem dX1_rankOf_41 : decode cX1_rankOf 41 = .ok (.iconst 0, 1) := by decide +kernel
theorem dX1_rankOf_42 : decode cX1_rankOf 42 = .ok (.istore 6, 2) := by decide +kernel
theorem dX1_rankOf_44 : decode cX1_rankOf 44 = .ok (.iload 6, 2) := by decide +kernel
theorem dX1_rankOf_46 : decode cX1_rankOf 46 = .ok (.iload 4, 2) := by decide +kernel
theorem dX1_rankOf_48 : decode cX1_rankOf 48 = .ok (.if_icmp .ge 28, 3) := by decide +kernel
theorem dX1_rankOf_51 : decode cX1_rankOf 51 = .ok (.aload_n 0, 1) := by decide +kernel
theorem dX1_rankOf_52 : decode cX1_rankOf 52 = .ok (.getfield 21, 3) := by decide +kernel
theorem dX1_rankOf_55 : decode cX1_rankOf 55 = .ok (.iload 6, 2) := by decide +kernel
theorem dX1_rankOf_57 : decode cX1_rankOf 57 = .ok (.aload_n 0, 1) := by decide +kernel
theorem dX1_rankOf_58 : decode cX1_rankOf 58 = .ok (.aload_n 1, 1) := by decide +kernel
theorem dX1_rankOf_59 : decode cX1_rankOf 59 = .ok (.iload_n 2, 1) := by decide +kernel
theorem dX1_rankOf_60 : decode cX1_rankOf 60 = .ok (.iload 5, 2) := by decide +kernel
theorem dX1_rankOf_62 : decode cX1_rankOf 62 = .ok (.iload 6, 2) := by decide +kernel
theorem dX1_rankOf_64 : decode cX1_rankOf 64 = .ok (.invokevirtual 46, 3) := by decide +kernel
theorem dX1_rankOf_67 : decode cX1_rankOf 67 = .ok (.invokevirtual 50, 3) := by decide +kernel
theorem dX1_rankOf_70 : decode cX1_rankOf 70 = .ok (.iinc 6 1, 3) := by decide +kernel
theorem dX1_rankOf_73 : decode cX1_rankOf 73 = .ok (.goto (-29), 3) := by decide +kernel
theorem dX1_rankOf_76 : decode cX1_rankOf 76 = .ok (.aload_n 0, 1) := by decide +kernel
theorem dX1_rankOf_77 : decode cX1_rankOf 77 = .ok (.getfield 21, 3) := by decide +kernel
theorem dX1_rankOf_80 : decode cX1_rankOf 80 = .ok (.invokevirtual 53, 3) := by decide +kernel
theorem dX1_rankOf_83 : decode cX1_rankOf 83 = .ok (.pop, 1) := by decide +kernel
theorem dX1_rankOf_84 : decode cX1_rankOf 84 = .ok (.iinc 5 1, 3) := by decide +kernel
theorem dX1_rankOf_87 : decode cX1_rankOf 87 = .ok (.goto (-53), 3) := by decide +kernel
theorem dX1_rankOf_90 : decode cX1_rankOf 90 = .ok (.aload_n 0, 1) := by decide +kernel
theorem dX1_rankOf_91 : decode cX1_rankOf 91 = .ok (.getfield 21, 3) := by decide +kernel
theorem dX1_rankOf_94 : decode cX1_rankOf 94 = .ok (.invokevirtual 57, 3) := by decide +kernel
theorem dX1_rankOf_97 : decode cX1_rankOf 97 = .ok (.ireturn, 1) := by decide +kernel
theorem dX1_entry_0 : decode cX1_entry 0 = .ok (.iconst 0, 1) := by decide +kernel
theorem dX1_entry_1 : decode cX1_entry 1 = .ok (.istore 5, 2) := by decide +kernel
theorem dX1_entry_3 : decode cX1_entry 3 = .ok (.iconst 0, 1) := by decide +kernel
theorem dX1_entry_4 : decode cX1_entry 4 = .ok (.istore 6, 2) := by decide +kernel
theorem dX1_entry_6 : decode cX1_entry 6 = .ok (.iload 6, 2) := by decide +kernel
theorem dX1_entry_8 : decode cX1_entry 8 = .ok (.aload_n 1, 1) := by decide +kernel
theorem dX1_entry_9 : decode cX1_entry 9 = .ok (.invokevirtual 25, 3) := by decide +kernel
theorem dX1_entry_12 : decode cX1_entry 12 = .ok (.if_icmp .ge 132, 3) := by decide +kernel
theorem dX1_entry_15 : decode cX1_entry 15 = .ok (.aload_n 0, 1) := by decide +kernel
theorem dX1_entry_16 : decode cX1_entry 16 = .ok (.getfield 9, 3) := by decide +kernel
theorem dX1_entry_19 : decode cX1_entry 19 = .ok (.iload 6, 2) := by decide +kernel
theorem dX1_entry_21 : decode cX1_entry 21 = .ok (.iaload, 1) := by decide +kernel
theorem dX1_entry_22 : decode cX1_entry 22 = .ok (.ifCond .ne 6, 3) := by decide +kernel
theorem dX1_entry_25 : decode cX1_entry 25 = .ok (.goto 113, 3) := by decide +kernel
theorem dX1_entry_28 : decode cX1_entry 28 = .ok (.iconst 0, 1) := by decide +kernel
theorem dX1_entry_29 : decode cX1_entry 29 = .ok (.istore 7, 2) := by decide +kernel
theorem dX1_entry_31 : decode cX1_entry 31 = .ok (.iload_n 2, 1) := by decide +kernel
theorem dX1_entry_32 : decode cX1_entry 32 = .ok (.tableswitch 70 0 2 #[28, 42, 56], 28) := by decide +kernel
theorem dX1_entry_60 : decode cX1_entry 60 = .ok (.aload_n 1, 1) := by decide +kernel
theorem dX1_entry_61 : decode cX1_entry 61 = .ok (.iload 6, 2) := by decide +kernel
theorem dX1_entry_63 : decode cX1_entry 63 = .ok (.iload_n 3, 1) := by decide +kernel
theorem dX1_entry_64 : decode cX1_entry 64 = .ok (.iload 4, 2) := by decide +kernel
theorem dX1_entry_66 : decode cX1_entry 66 = .ok (.invokevirtual 60, 3) := by decide +kernel
theorem dX1_entry_69 : decode cX1_entry 69 = .ok (.istore 7, 2) := by decide +kernel
theorem dX1_entry_71 : decode cX1_entry 71 = .ok (.goto 52, 3) := by decide +kernel
theorem dX1_entry_74 : decode cX1_entry 74 = .ok (.aload_n 1, 1) := by decide +kernel
theorem dX1_entry_75 : decode cX1_entry 75 = .ok (.iload_n 3, 1) := by decide +kernel
theorem dX1_entry_76 : decode cX1_entry 76 = .ok (.iload 6, 2) := by decide +kernel
theorem dX1_entry_78 : decode cX1_entry 78 = .ok (.iload 4, 2) := by decide +kernel
theorem dX1_entry_80 : decode cX1_entry 80 = .ok (.invokevirtual 60, 3) := by decide +kernel
theorem dX1_entry_83 : decode cX1_entry 83 = .ok (.istore 7, 2) := by decide +kernel
theorem dX1_entry_85 : decode cX1_entry 85 = .ok (.goto 38, 3) := by decide +kernel
theorem dX1_entry_88 : decode cX1_entry 88 = .ok (.aload_n 1, 1) := by decide +kernel
theorem dX1_entry_89 : decode cX1_entry 89 = .ok (.iload_n 3, 1) := by decide +kernel
theorem dX1_entry_90 : decode cX1_entry 90 = .ok (.iload 4, 2) := by decide +kernel
theorem dX1_entry_92 : decode cX1_entry 92 = .ok (.iload 6, 2) := by decide +kernel
theorem dX1_entry_94 : decode cX1_entry 94 = .ok (.invokevirtual 60, 3) := by decide +kernel
theorem dX1_entry_97 : decode cX1_entry 97 = .ok (.istore 7, 2) := by decide +kernel
theorem dX1_entry_99 : decode cX1_entry 99 = .ok (.goto 24, 3) := by decide +kernel
theorem dX1_entry_102 : decode cX1_entry 102 = .ok (.aload_n 1, 1) := by decide +kernel
theorem dX1_entry_103 : decode cX1_entry 103 = .ok (.iload 6, 2) := by decide +kernel
theorem dX1_entry_105 : decode cX1_entry 105 = .ok (.iload_n 3, 1) := by decide +kernel
theorem dX1_entry_106 : decode cX1_entry 106 = .ok (.iload 4, 2) := by decide +kernel
theorem dX1_entry_108 : decode cX1_entry 108 = .ok (.invokevirtual 60, 3) := by decide +kernel
theorem dX1_entry_111 : decode cX1_entry 111 = .ok (.aload_n 1, 1) := by decide +kernel
theorem dX1_entry_112 : decode cX1_entry 112 = .ok (.iload_n 3, 1) := by decide +kernel
theorem dX1_entry_113 : decode cX1_entry 113 = .ok (.iload 6, 2) := by decide +kernel
theorem dX1_entry_115 : decode cX1_entry 115 = .ok (.iload 4, 2) := by decide +kernel
theorem dX1_entry_117 : decode cX1_entry 117 = .ok (.invokevirtual 60, 3) := by decide +kernel
theorem dX1_entry_120 : decode cX1_entry 120 = .ok (.iadd, 1) := by decide +kernel
theorem dX1_entry_121 : decode cX1_entry 121 = .ok (.istore 7, 2) := by decide +kernel
theorem dX1_entry_123 : decode cX1_entry 123 = .ok (.iload 5, 2) := by decide +kernel
theorem dX1_entry_125 : decode cX1_entry 125 = .ok (.aload_n 0, 1) := by decide +kernel
theorem dX1_entry_126 : decode cX1_entry 126 = .ok (.getfield 9, 3) := by decide +kernel
theorem dX1_entry_129 : decode cX1_entry 129 = .ok (.iload 6, 2) := by decide +kernel
theorem dX1_entry_131 : decode cX1_entry 131 = .ok (.iaload, 1) := by decide +kernel
theorem dX1_entry_132 : decode cX1_entry 132 = .ok (.iload 7, 2) := by decide +kernel
theorem dX1_entry_134 : decode cX1_entry 134 = .ok (.imul, 1) := by decide +kernel
theorem dX1_entry_135 : decode cX1_entry 135 = .ok (.iadd, 1) := by decide +kernel
theorem dX1_entry_136 : decode cX1_entry 136 = .ok (.istore 5, 2) := by decide +kernel
theorem dX1_entry_138 : decode cX1_entry 138 = .ok (.iinc 6 1, 3) := by decide +kernel
theorem dX1_entry_141 : decode cX1_entry 141 = .ok (.goto (-135), 3) := by decide +kernel
theorem dX1_entry_144 : decode cX1_entry 144 = .ok (.iload 5, 2) := by decide +kernel
theorem dX1_entry_146 : decode cX1_entry 146 = .ok (.ireturn, 1) := by decide +kernel
theorem dX1_leastSingular_0 : decode cX1_leastSingular 0 = .ok (.iconst 0, 1) := by decide +kernel
theorem dX1_leastSingular_1 : decode cX1_leastSingular 1 = .ok (.istore_n 3, 1) := by decide +kernel
theorem dX1_leastSingular_2 : decode cX1_leastSingular 2 = .ok (.iload_n 3, 1) := by decide +kernel
theorem dX1_leastSingular_3 : decode cX1_leastSingular 3 = .ok (.aload_n 1, 1) := by decide +kernel
theorem dX1_leastSingular_4 : decode cX1_leastSingular 4 = .ok (.invokevirtual 25, 3) := by decide +kernel
theorem dX1_leastSingular_7 : decode cX1_leastSingular 7 = .ok (.if_icmp .ge 52, 3) := by decide +kernel
theorem dX1_leastSingular_10 : decode cX1_leastSingular 10 = .ok (.aload_n 1, 1) := by decide +kernel
theorem dX1_leastSingular_11 : decode cX1_leastSingular 11 = .ok (.iload_n 3, 1) := by decide +kernel
theorem dX1_leastSingular_12 : decode cX1_leastSingular 12 = .ok (.invokevirtual 64, 3) := by decide +kernel
theorem dX1_leastSingular_15 : decode cX1_leastSingular 15 = .ok (.istore 4, 2) := by decide +kernel
theorem dX1_leastSingular_17 : decode cX1_leastSingular 17 = .ok (.iload 4, 2) := by decide +kernel
theorem dX1_leastSingular_19 : decode cX1_leastSingular 19 = .ok (.iconst 2, 1) := by decide +kernel
theorem dX1_leastSingular_20 : decode cX1_leastSingular 20 = .ok (.aload_n 1, 1) := by decide +kernel
theorem dX1_leastSingular_21 : decode cX1_leastSingular 21 = .ok (.iload_n 3, 1) := by decide +kernel
theorem dX1_leastSingular_22 : decode cX1_leastSingular 22 = .ok (.invokevirtual 64, 3) := by decide +kernel
theorem dX1_leastSingular_25 : decode cX1_leastSingular 25 = .ok (.imul, 1) := by decide +kernel
theorem dX1_leastSingular_26 : decode cX1_leastSingular 26 = .ok (.if_icmp .ge 27, 3) := by decide +kernel
theorem dX1_leastSingular_29 : decode cX1_leastSingular 29 = .ok (.aload_n 0, 1) := by decide +kernel
theorem dX1_leastSingular_30 : decode cX1_leastSingular 30 = .ok (.aload_n 1, 1) := by decide +kernel
theorem dX1_leastSingular_31 : decode cX1_leastSingular 31 = .ok (.iload_n 2, 1) := by decide +kernel
theorem dX1_leastSingular_32 : decode cX1_leastSingular 32 = .ok (.iload 4, 2) := by decide +kernel
theorem dX1_leastSingular_34 : decode cX1_leastSingular 34 = .ok (.invokevirtual 68, 3) := by decide +kernel
theorem dX1_leastSingular_37 : decode cX1_leastSingular 37 = .ok (.aload_n 1, 1) := by decide +kernel
theorem dX1_leastSingular_38 : decode cX1_leastSingular 38 = .ok (.invokevirtual 25, 3) := by decide +kernel
theorem dX1_leastSingular_41 : decode cX1_leastSingular 41 = .ok (.if_icmp .ge 6, 3) := by decide +kernel
theorem dX1_leastSingular_44 : decode cX1_leastSingular 44 = .ok (.iload 4, 2) := by decide +kernel
theorem dX1_leastSingular_46 : decode cX1_leastSingular 46 = .ok (.ireturn, 1) := by decide +kernel
theorem dX1_leastSingular_47 : decode cX1_leastSingular 47 = .ok (.iinc 4 1, 3) := by decide +kernel
theorem dX1_leastSingular_50 : decode cX1_leastSingular 50 = .ok (.goto (-33), 3) := by decide +kernel
theorem dX1_leastSingular_53 : decode cX1_leastSingular 53 = .ok (.iinc 3 1, 3) := by decide +kernel
theorem dX1_leastSingular_56 : decode cX1_leastSingular 56 = .ok (.goto (-54), 3) := by decide +kernel
theorem dX1_leastSingular_59 : decode cX1_leastSingular 59 = .ok (.iconst (-1), 1) := by decide +kernel
theorem dX1_leastSingular_60 : decode cX1_leastSingular 60 = .ok (.ireturn, 1) := by decide +kernel
theorem dX1_planar_0 : decode cX1_planar 0 = .ok (.aload_n 1, 1) := by decide +kernel
theorem dX1_planar_1 : decode cX1_planar 1 = .ok (.invokevirtual 31, 3) := by decide +kernel
theorem dX1_planar_4 : decode cX1_planar 4 = .ok (.iconst 2, 1) := by decide +kernel
theorem dX1_planar_5 : decode cX1_planar 5 = .ok (.if_icmp .ne 5, 3) := by decide +kernel
theorem dX1_planar_8 : decode cX1_planar 8 = .ok (.iconst (-1), 1) := by decide +kernel
theorem dX1_planar_9 : decode cX1_planar 9 = .ok (.ireturn, 1) := by decide +kernel
theorem dX1_planar_10 : decode cX1_planar 10 = .ok (.aload_n 0, 1) := by decide +kernel
theorem dX1_planar_11 : decode cX1_planar 11 = .ok (.aload_n 1, 1) := by decide +kernel
theorem dX1_planar_12 : decode cX1_planar 12 = .ok (.iconst 3, 1) := by decide +kernel
theorem dX1_planar_13 : decode cX1_planar 13 = .ok (.invokevirtual 76, 3) := by decide +kernel
theorem dX1_planar_16 : decode cX1_planar 16 = .ok (.iconst (-1), 1) := by decide +kernel
theorem dX1_planar_17 : decode cX1_planar 17 = .ok (.if_icmp .ne 7, 3) := by decide +kernel
theorem dX1_planar_20 : decode cX1_planar 20 = .ok (.iconst 1, 1) := by decide +kernel
theorem dX1_planar_21 : decode cX1_planar 21 = .ok (.goto 4, 3) := by decide +kernel
theorem dX1_planar_24 : decode cX1_planar 24 = .ok (.iconst 0, 1) := by decide +kernel
theorem dX1_planar_25 : decode cX1_planar 25 = .ok (.ireturn, 1) := by decide +kernel
theorem dX1_derivations_0 : decode cX1_derivations 0 = .ok (.aload_n 1, 1) := by decide +kernel
theorem dX1_derivations_1 : decode cX1_derivations 1 = .ok (.invokevirtual 25, 3) := by decide +kernel
theorem dX1_derivations_4 : decode cX1_derivations 4 = .ok (.aload_n 1, 1) := by decide +kernel
theorem dX1_derivations_5 : decode cX1_derivations 5 = .ok (.invokevirtual 25, 3) := by decide +kernel
theorem dX1_derivations_8 : decode cX1_derivations 8 = .ok (.imul, 1) := by decide +kernel
theorem dX1_derivations_9 : decode cX1_derivations 9 = .ok (.istore_n 2, 1) := by decide +kernel
theorem dX1_derivations_10 : decode cX1_derivations 10 = .ok (.aload_n 0, 1) := by decide +kernel
theorem dX1_derivations_11 : decode cX1_derivations 11 = .ok (.getfield 21, 3) := by decide +kernel
theorem dX1_derivations_14 : decode cX1_derivations 14 = .ok (.aload_n 1, 1) := by decide +kernel
theorem dX1_derivations_15 : decode cX1_derivations 15 = .ok (.invokevirtual 31, 3) := by decide +kernel
theorem dX1_derivations_18 : decode cX1_derivations 18 = .ok (.iload_n 2, 1) := by decide +kernel
theorem dX1_derivations_19 : decode cX1_derivations 19 = .ok (.invokevirtual 40, 3) := by decide +kernel
theorem dX1_derivations_22 : decode cX1_derivations 22 = .ok (.aload_n 0, 1) := by decide +kernel
theorem dX1_derivations_23 : decode cX1_derivations 23 = .ok (.aload_n 1, 1) := by decide +kernel
theorem dX1_derivations_24 : decode cX1_derivations 24 = .ok (.iconst 0, 1) := by decide +kernel
theorem dX1_derivations_25 : decode cX1_derivations 25 = .ok (.iconst 0, 1) := by decide +kernel
theorem dX1_derivations_26 : decode cX1_derivations 26 = .ok (.invokevirtual 84, 3) := by decide +kernel
theorem dX1_derivations_29 : decode cX1_derivations 29 = .ok (.iload_n 2, 1) := by decide +kernel
theorem dX1_derivations_30 : decode cX1_derivations 30 = .ok (.aload_n 0, 1) := by decide +kernel
theorem dX1_derivations_31 : decode cX1_derivations 31 = .ok (.getfield 21, 3) := by decide +kernel
theorem dX1_derivations_34 : decode cX1_derivations 34 = .ok (.invokevirtual 57, 3) := by decide +kernel
theorem dX1_derivations_37 : decode cX1_derivations 37 = .ok (.isub, 1) := by decide +kernel
theorem dX1_derivations_38 : decode cX1_derivations 38 = .ok (.ireturn, 1) := by decide +kernel
theorem dX1_triples_0 : decode cX1_triples 0 = .ok (.aload_n 1, 1) := by decide +kernel
theorem dX1_triples_1 : decode cX1_triples 1 = .ok (.invokevirtual 25, 3) := by decide +kernel
theorem dX1_triples_4 : decode cX1_triples 4 = .ok (.aload_n 1, 1) := by decide +kernel
theorem dX1_triples_5 : decode cX1_triples 5 = .ok (.invokevirtual 25, 3) := by decide +kernel
theorem dX1_triples_8 : decode cX1_triples 8 = .ok (.imul, 1) := by decide +kernel
theorem dX1_triples_9 : decode cX1_triples 9 = .ok (.istore_n 2, 1) := by decide +kernel
theorem dX1_triples_10 : decode cX1_triples 10 = .ok (.aload_n 0, 1) := by decide +kernel
theorem dX1_triples_11 : decode cX1_triples 11 = .ok (.getfield 21, 3) := by decide +kernel
theorem dX1_triples_14 : decode cX1_triples 14 = .ok (.aload_n 1, 1) := by decide +kernel
theorem dX1_triples_15 : decode cX1_triples 15 = .ok (.invokevirtual 31, 3) := by decide +kernel
theorem dX1_triples_18 : decode cX1_triples 18 = .ok (.iconst 3, 1) := by decide +kernel
theorem dX1_triples_19 : decode cX1_triples 19 = .ok (.iload_n 2, 1) := by decide +kernel
theorem dX1_triples_20 : decode cX1_triples 20 = .ok (.imul, 1) := by decide +kernel
theorem dX1_triples_21 : decode cX1_triples 21 = .ok (.invokevirtual 40, 3) := by decide +kernel
theorem dX1_triples_24 : decode cX1_triples 24 = .ok (.aload_n 0, 1) := by decide +kernel
theorem dX1_triples_25 : decode cX1_triples 25 = .ok (.aload_n 1, 1) := by decide +kernel
theorem dX1_triples_26 : decode cX1_triples 26 = .ok (.iload_n 2, 1) := by decide +kernel
theorem dX1_triples_27 : decode cX1_triples 27 = .ok (.iconst 2, 1) := by decide +kernel
theorem dX1_triples_28 : decode cX1_triples 28 = .ok (.iload_n 2, 1) := by decide +kernel
theorem dX1_triples_29 : decode cX1_triples 29 = .ok (.imul, 1) := by decide +kernel
theorem dX1_triples_30 : decode cX1_triples 30 = .ok (.invokevirtual 84, 3) := by decide +kernel
theorem dX1_triples_33 : decode cX1_triples 33 = .ok (.iconst 3, 1) := by decide +kernel
theorem dX1_triples_34 : decode cX1_triples 34 = .ok (.iload_n 2, 1) := by decide +kernel
theorem dX1_triples_35 : decode cX1_triples 35 = .ok (.imul, 1) := by decide +kernel
theorem dX1_triples_36 : decode cX1_triples 36 = .ok (.aload_n 0, 1) := by decide +kernel
theorem dX1_triples_37 : decode cX1_triples 37 = .ok (.getfield 21, 3) := by decide +kernel
theorem dX1_triples_40 : decode cX1_triples 40 = .ok (.invokevirtual 57, 3) := by decide +kernel
theorem dX1_triples_43 : decode cX1_triples 43 = .ok (.isub, 1) := by decide +kernel
theorem dX1_triples_44 : decode cX1_triples 44 = .ok (.ireturn, 1) := by decide +kernel
theorem dX1_demandDerivative_0 : decode cX1_demandDerivative 0 = .ok (.aload_n 1, 1) := by decide +kernel
theorem dX1_demandDerivative_1 : decode cX1_demandDerivative 1 = .ok (.invokevirtual 25, 3) := by decide +kernel
theorem dX1_demandDerivative_4 : decode cX1_demandDerivative 4 = .ok (.istore 4, 2) := by decide +kernel
theorem dX1_demandDerivative_6 : decode cX1_demandDerivative 6 = .ok (.iconst 0, 1) := by decide +kernel
theorem dX1_demandDerivative_7 : decode cX1_demandDerivative 7 = .ok (.istore 5, 2) := by decide +kernel
theorem dX1_demandDerivative_9 : decode cX1_demandDerivative 9 = .ok (.iload 5, 2) := by decide +kernel
theorem dX1_demandDerivative_11 : decode cX1_demandDerivative 11 = .ok (.iload 4, 2) := by decide +kernel
theorem dX1_demandDerivative_13 : decode cX1_demandDerivative 13 = .ok (.if_icmp .ge 149, 3) := by decide +kernel
theorem dX1_demandDerivative_16 : decode cX1_demandDerivative 16 = .ok (.iconst 0, 1) := by decide +kernel
theorem dX1_demandDerivative_17 : decode cX1_demandDerivative 17 = .ok (.istore 6, 2) := by decide +kernel
theorem dX1_demandDerivative_19 : decode cX1_demandDerivative 19 = .ok (.iload 6, 2) := by decide +kernel
theorem dX1_demandDerivative_21 : decode cX1_demandDerivative 21 = .ok (.iload 4, 2) := by decide +kernel
theorem dX1_demandDerivative_23 : decode cX1_demandDerivative 23 = .ok (.if_icmp .ge 133, 3) := by decide +kernel
theorem dX1_demandDerivative_26 : decode cX1_demandDerivative 26 = .ok (.iconst 0, 1) := by decide +kernel
theorem dX1_demandDerivative_27 : decode cX1_demandDerivative 27 = .ok (.istore 7, 2) := by decide +kernel
theorem dX1_demandDerivative_29 : decode cX1_demandDerivative 29 = .ok (.iload 7, 2) := by decide +kernel
theorem dX1_demandDerivative_31 : decode cX1_demandDerivative 31 = .ok (.iload 4, 2) := by decide +kernel
theorem dX1_demandDerivative_33 : decode cX1_demandDerivative 33 = .ok (.if_icmp .ge 117, 3) := by decide +kernel
theorem dX1_demandDerivative_36 : decode cX1_demandDerivative 36 = .ok (.iconst 0, 1) := by decide +kernel
theorem dX1_demandDerivative_37 : decode cX1_demandDerivative 37 = .ok (.istore 8, 2) := by decide +kernel
theorem dX1_demandDerivative_39 : decode cX1_demandDerivative 39 = .ok (.iload 8, 2) := by decide +kernel
theorem dX1_demandDerivative_41 : decode cX1_demandDerivative 41 = .ok (.iload 4, 2) := by decide +kernel
theorem dX1_demandDerivative_43 : decode cX1_demandDerivative 43 = .ok (.if_icmp .ge 93, 3) := by decide +kernel
theorem dX1_demandDerivative_46 : decode cX1_demandDerivative 46 = .ok (.aload_n 0, 1) := by decide +kernel
theorem dX1_demandDerivative_47 : decode cX1_demandDerivative 47 = .ok (.getfield 21, 3) := by decide +kernel
theorem dX1_demandDerivative_50 : decode cX1_demandDerivative 50 = .ok (.iload 4, 2) := by decide +kernel
theorem dX1_demandDerivative_52 : decode cX1_demandDerivative 52 = .ok (.iload 5, 2) := by decide +kernel
theorem dX1_demandDerivative_54 : decode cX1_demandDerivative 54 = .ok (.imul, 1) := by decide +kernel
theorem dX1_demandDerivative_55 : decode cX1_demandDerivative 55 = .ok (.iload 8, 2) := by decide +kernel
theorem dX1_demandDerivative_57 : decode cX1_demandDerivative 57 = .ok (.iadd, 1) := by decide +kernel
theorem dX1_demandDerivative_58 : decode cX1_demandDerivative 58 = .ok (.aload_n 1, 1) := by decide +kernel
theorem dX1_demandDerivative_59 : decode cX1_demandDerivative 59 = .ok (.iload 8, 2) := by decide +kernel
theorem dX1_demandDerivative_61 : decode cX1_demandDerivative 61 = .ok (.iload 6, 2) := by decide +kernel
theorem dX1_demandDerivative_63 : decode cX1_demandDerivative 63 = .ok (.iload 7, 2) := by decide +kernel
theorem dX1_demandDerivative_65 : decode cX1_demandDerivative 65 = .ok (.invokevirtual 60, 3) := by decide +kernel
theorem dX1_demandDerivative_68 : decode cX1_demandDerivative 68 = .ok (.invokevirtual 50, 3) := by decide +kernel
theorem dX1_demandDerivative_71 : decode cX1_demandDerivative 71 = .ok (.aload_n 0, 1) := by decide +kernel
theorem dX1_demandDerivative_72 : decode cX1_demandDerivative 72 = .ok (.getfield 21, 3) := by decide +kernel
theorem dX1_demandDerivative_75 : decode cX1_demandDerivative 75 = .ok (.iload_n 2, 1) := by decide +kernel
theorem dX1_demandDerivative_76 : decode cX1_demandDerivative 76 = .ok (.iload 4, 2) := by decide +kernel
theorem dX1_demandDerivative_78 : decode cX1_demandDerivative 78 = .ok (.iload 6, 2) := by decide +kernel
theorem dX1_demandDerivative_80 : decode cX1_demandDerivative 80 = .ok (.imul, 1) := by decide +kernel
theorem dX1_demandDerivative_81 : decode cX1_demandDerivative 81 = .ok (.iadd, 1) := by decide +kernel
theorem dX1_demandDerivative_82 : decode cX1_demandDerivative 82 = .ok (.iload 8, 2) := by decide +kernel
theorem dX1_demandDerivative_84 : decode cX1_demandDerivative 84 = .ok (.iadd, 1) := by decide +kernel
theorem dX1_demandDerivative_85 : decode cX1_demandDerivative 85 = .ok (.aload_n 1, 1) := by decide +kernel
theorem dX1_demandDerivative_86 : decode cX1_demandDerivative 86 = .ok (.iload 5, 2) := by decide +kernel
theorem dX1_demandDerivative_88 : decode cX1_demandDerivative 88 = .ok (.iload 8, 2) := by decide +kernel
theorem dX1_demandDerivative_90 : decode cX1_demandDerivative 90 = .ok (.iload 7, 2) := by decide +kernel
theorem dX1_demandDerivative_92 : decode cX1_demandDerivative 92 = .ok (.invokevirtual 60, 3) := by decide +kernel
theorem dX1_demandDerivative_95 : decode cX1_demandDerivative 95 = .ok (.invokevirtual 50, 3) := by decide +kernel
theorem dX1_demandDerivative_98 : decode cX1_demandDerivative 98 = .ok (.aload_n 0, 1) := by decide +kernel
theorem dX1_demandDerivative_99 : decode cX1_demandDerivative 99 = .ok (.getfield 21, 3) := by decide +kernel
theorem dX1_demandDerivative_102 : decode cX1_demandDerivative 102 = .ok (.iload_n 3, 1) := by decide +kernel
theorem dX1_demandDerivative_103 : decode cX1_demandDerivative 103 = .ok (.iload 4, 2) := by decide +kernel
theorem dX1_demandDerivative_105 : decode cX1_demandDerivative 105 = .ok (.iload 8, 2) := by decide +kernel
theorem dX1_demandDerivative_107 : decode cX1_demandDerivative 107 = .ok (.imul, 1) := by decide +kernel
theorem dX1_demandDerivative_108 : decode cX1_demandDerivative 108 = .ok (.iadd, 1) := by decide +kernel
theorem dX1_demandDerivative_109 : decode cX1_demandDerivative 109 = .ok (.iload 7, 2) := by decide +kernel
theorem dX1_demandDerivative_111 : decode cX1_demandDerivative 111 = .ok (.iadd, 1) := by decide +kernel
theorem dX1_demandDerivative_112 : decode cX1_demandDerivative 112 = .ok (.aload_n 1, 1) := by decide +kernel
theorem dX1_demandDerivative_113 : decode cX1_demandDerivative 113 = .ok (.invokevirtual 31, 3) := by decide +kernel
theorem dX1_demandDerivative_116 : decode cX1_demandDerivative 116 = .ok (.aload_n 1, 1) := by decide +kernel
theorem dX1_demandDerivative_117 : decode cX1_demandDerivative 117 = .ok (.iload 5, 2) := by decide +kernel
theorem dX1_demandDerivative_119 : decode cX1_demandDerivative 119 = .ok (.iload 6, 2) := by decide +kernel
theorem dX1_demandDerivative_121 : decode cX1_demandDerivative 121 = .ok (.iload 8, 2) := by decide +kernel
theorem dX1_demandDerivative_123 : decode cX1_demandDerivative 123 = .ok (.invokevirtual 60, 3) := by decide +kernel
theorem dX1_demandDerivative_126 : decode cX1_demandDerivative 126 = .ok (.isub, 1) := by decide +kernel
theorem dX1_demandDerivative_127 : decode cX1_demandDerivative 127 = .ok (.invokevirtual 50, 3) := by decide +kernel
theorem dX1_demandDerivative_130 : decode cX1_demandDerivative 130 = .ok (.iinc 8 1, 3) := by decide +kernel
theorem dX1_demandDerivative_133 : decode cX1_demandDerivative 133 = .ok (.goto (-94), 3) := by decide +kernel
theorem dX1_demandDerivative_136 : decode cX1_demandDerivative 136 = .ok (.aload_n 0, 1) := by decide +kernel
theorem dX1_demandDerivative_137 : decode cX1_demandDerivative 137 = .ok (.getfield 21, 3) := by decide +kernel
theorem dX1_demandDerivative_140 : decode cX1_demandDerivative 140 = .ok (.invokevirtual 53, 3) := by decide +kernel
theorem dX1_demandDerivative_143 : decode cX1_demandDerivative 143 = .ok (.pop, 1) := by decide +kernel
theorem dX1_demandDerivative_144 : decode cX1_demandDerivative 144 = .ok (.iinc 7 1, 3) := by decide +kernel
theorem dX1_demandDerivative_147 : decode cX1_demandDerivative 147 = .ok (.goto (-118), 3) := by decide +kernel
theorem dX1_demandDerivative_150 : decode cX1_demandDerivative 150 = .ok (.iinc 6 1, 3) := by decide +kernel
theorem dX1_demandDerivative_153 : decode cX1_demandDerivative 153 = .ok (.goto (-134), 3) := by decide +kernel
theorem dX1_demandDerivative_156 : decode cX1_demandDerivative 156 = .ok (.iinc 5 1, 3) := by decide +kernel
theorem dX1_demandDerivative_159 : decode cX1_demandDerivative 159 = .ok (.goto (-150), 3) := by decide +kernel
theorem dX1_demandDerivative_162 : decode cX1_demandDerivative 162 = .ok (.return_, 1) := by decide +kernel
theorem dX2_init_0 : decode cX2_init 0 = .ok (.aload_n 0, 1) := by decide +kernel
theorem dX2_init_1 : decode cX2_init 1 = .ok (.invokespecial 3, 3) := by decide +kernel
theorem dX2_init_4 : decode cX2_init 4 = .ok (.aload_n 0, 1) := by decide +kernel
theorem dX2_init_5 : decode cX2_init 5 = .ok (.new 9, 3) := by decide +kernel
theorem dX2_init_8 : decode cX2_init 8 = .ok (.dup, 1) := by decide +kernel
theorem dX2_init_9 : decode cX2_init 9 = .ok (.invokespecial 11, 3) := by decide +kernel
theorem dX2_init_12 : decode cX2_init 12 = .ok (.putfield 12, 3) := by decide +kernel
theorem dX2_init_15 : decode cX2_init 15 = .ok (.aload_n 0, 1) := by decide +kernel
theorem dX2_init_16 : decode cX2_init 16 = .ok (.iconst 4, 1) := by decide +kernel
theorem dX2_init_17 : decode cX2_init 17 = .ok (.newarray .boolean, 2) := by decide +kernel
theorem dX2_init_19 : decode cX2_init 19 = .ok (.putfield 18, 3) := by decide +kernel
theorem dX2_init_22 : decode cX2_init 22 = .ok (.aload_n 0, 1) := by decide +kernel
theorem dX2_init_23 : decode cX2_init 23 = .ok (.iconst 4, 1) := by decide +kernel
theorem dX2_init_24 : decode cX2_init 24 = .ok (.bipush 32, 2) := by decide +kernel
theorem dX2_init_26 : decode cX2_init 26 = .ok (.multianewarray 22 2, 4) := by decide +kernel
theorem dX2_init_30 : decode cX2_init 30 = .ok (.putfield 24, 3) := by decide +kernel
theorem dX2_init_33 : decode cX2_init 33 = .ok (.aload_n 0, 1) := by decide +kernel
theorem dX2_init_34 : decode cX2_init 34 = .ok (.iconst 4, 1) := by decide +kernel
theorem dX2_init_35 : decode cX2_init 35 = .ok (.iconst 3, 1) := by decide +kernel
theorem dX2_init_36 : decode cX2_init 36 = .ok (.multianewarray 22 2, 4) := by decide +kernel
theorem dX2_init_40 : decode cX2_init 40 = .ok (.putfield 27, 3) := by decide +kernel
theorem dX2_init_43 : decode cX2_init 43 = .ok (.aload_n 0, 1) := by decide +kernel
theorem dX2_init_44 : decode cX2_init 44 = .ok (.aload_n 1, 1) := by decide +kernel
theorem dX2_init_45 : decode cX2_init 45 = .ok (.putfield 30, 3) := by decide +kernel
theorem dX2_init_48 : decode cX2_init 48 = .ok (.return_, 1) := by decide +kernel
theorem dX3_init_0 : decode cX3_init 0 = .ok (.aload_n 0, 1) := by decide +kernel
theorem dX3_init_1 : decode cX3_init 1 = .ok (.invokespecial 3, 3) := by decide +kernel
theorem dX3_init_4 : decode cX3_init 4 = .ok (.aload_n 0, 1) := by decide +kernel
theorem dX3_init_5 : decode cX3_init 5 = .ok (.aload_n 1, 1) := by decide +kernel
theorem dX3_init_6 : decode cX3_init 6 = .ok (.putfield 9, 3) := by decide +kernel
theorem dX3_init_9 : decode cX3_init 9 = .ok (.return_, 1) := by decide +kernel
