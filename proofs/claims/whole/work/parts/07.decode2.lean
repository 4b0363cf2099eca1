theorem dX4_init_0 : decode cX4_init 0 = .ok (.aload_n 0, 1) := by decide +kernel
theorem dX4_init_1 : decode cX4_init 1 = .ok (.invokespecial 3, 3) := by decide +kernel
theorem dX4_init_4 : decode cX4_init 4 = .ok (.aload_n 0, 1) := by decide +kernel
theorem dX4_init_5 : decode cX4_init 5 = .ok (.bipush 24, 2) := by decide +kernel
theorem dX4_init_7 : decode cX4_init 7 = .ok (.newarray .int, 2) := by decide +kernel
theorem dX4_init_9 : decode cX4_init 9 = .ok (.putfield 9, 3) := by decide +kernel
theorem dX4_init_12 : decode cX4_init 12 = .ok (.aload_n 0, 1) := by decide +kernel
theorem dX4_init_13 : decode cX4_init 13 = .ok (.iconst 0, 1) := by decide +kernel
theorem dX4_init_14 : decode cX4_init 14 = .ok (.putfield 15, 3) := by decide +kernel
theorem dX4_init_17 : decode cX4_init 17 = .ok (.return_, 1) := by decide +kernel
theorem dX4_add_0 : decode cX4_add 0 = .ok (.iconst 0, 1) := by decide +kernel
theorem dX4_add_1 : decode cX4_add 1 = .ok (.istore_n 2, 1) := by decide +kernel
theorem dX4_add_2 : decode cX4_add 2 = .ok (.iload_n 2, 1) := by decide +kernel
theorem dX4_add_3 : decode cX4_add 3 = .ok (.aload_n 0, 1) := by decide +kernel
theorem dX4_add_4 : decode cX4_add 4 = .ok (.getfield 15, 3) := by decide +kernel
theorem dX4_add_7 : decode cX4_add 7 = .ok (.if_icmp .ge 20, 3) := by decide +kernel
theorem dX4_add_10 : decode cX4_add 10 = .ok (.aload_n 0, 1) := by decide +kernel
theorem dX4_add_11 : decode cX4_add 11 = .ok (.getfield 9, 3) := by decide +kernel
theorem dX4_add_14 : decode cX4_add 14 = .ok (.iload_n 2, 1) := by decide +kernel
theorem dX4_add_15 : decode cX4_add 15 = .ok (.iaload, 1) := by decide +kernel
theorem dX4_add_16 : decode cX4_add 16 = .ok (.iload_n 1, 1) := by decide +kernel
theorem dX4_add_17 : decode cX4_add 17 = .ok (.if_icmp .ne 4, 3) := by decide +kernel
theorem dX4_add_20 : decode cX4_add 20 = .ok (.return_, 1) := by decide +kernel
theorem dX4_add_21 : decode cX4_add 21 = .ok (.iinc 2 1, 3) := by decide +kernel
theorem dX4_add_24 : decode cX4_add 24 = .ok (.goto (-22), 3) := by decide +kernel
theorem dX4_add_27 : decode cX4_add 27 = .ok (.aload_n 0, 1) := by decide +kernel
theorem dX4_add_28 : decode cX4_add 28 = .ok (.getfield 15, 3) := by decide +kernel
theorem dX4_add_31 : decode cX4_add 31 = .ok (.bipush 24, 2) := by decide +kernel
theorem dX4_add_33 : decode cX4_add 33 = .ok (.if_icmp .ge 23, 3) := by decide +kernel
theorem dX4_add_36 : decode cX4_add 36 = .ok (.aload_n 0, 1) := by decide +kernel
theorem dX4_add_37 : decode cX4_add 37 = .ok (.getfield 9, 3) := by decide +kernel
theorem dX4_add_40 : decode cX4_add 40 = .ok (.aload_n 0, 1) := by decide +kernel
theorem dX4_add_41 : decode cX4_add 41 = .ok (.getfield 15, 3) := by decide +kernel
theorem dX4_add_44 : decode cX4_add 44 = .ok (.iload_n 1, 1) := by decide +kernel
theorem dX4_add_45 : decode cX4_add 45 = .ok (.iastore, 1) := by decide +kernel
theorem dX4_add_46 : decode cX4_add 46 = .ok (.aload_n 0, 1) := by decide +kernel
theorem dX4_add_47 : decode cX4_add 47 = .ok (.dup, 1) := by decide +kernel
theorem dX4_add_48 : decode cX4_add 48 = .ok (.getfield 15, 3) := by decide +kernel
theorem dX4_add_51 : decode cX4_add 51 = .ok (.iconst 1, 1) := by decide +kernel
theorem dX4_add_52 : decode cX4_add 52 = .ok (.iadd, 1) := by decide +kernel
theorem dX4_add_53 : decode cX4_add 53 = .ok (.putfield 15, 3) := by decide +kernel
theorem dX4_add_56 : decode cX4_add 56 = .ok (.return_, 1) := by decide +kernel
theorem dX4_takeFirst_0 : decode cX4_takeFirst 0 = .ok (.aload_n 0, 1) := by decide +kernel
theorem dX4_takeFirst_1 : decode cX4_takeFirst 1 = .ok (.getfield 15, 3) := by decide +kernel
theorem dX4_takeFirst_4 : decode cX4_takeFirst 4 = .ok (.ifCond .ne 5, 3) := by decide +kernel
theorem dX4_takeFirst_7 : decode cX4_takeFirst 7 = .ok (.iconst (-1), 1) := by decide +kernel
theorem dX4_takeFirst_8 : decode cX4_takeFirst 8 = .ok (.ireturn, 1) := by decide +kernel
theorem dX4_takeFirst_9 : decode cX4_takeFirst 9 = .ok (.aload_n 0, 1) := by decide +kernel
theorem dX4_takeFirst_10 : decode cX4_takeFirst 10 = .ok (.getfield 9, 3) := by decide +kernel
theorem dX4_takeFirst_13 : decode cX4_takeFirst 13 = .ok (.iconst 0, 1) := by decide +kernel
theorem dX4_takeFirst_14 : decode cX4_takeFirst 14 = .ok (.iaload, 1) := by decide +kernel
theorem dX4_takeFirst_15 : decode cX4_takeFirst 15 = .ok (.istore_n 1, 1) := by decide +kernel
theorem dX4_takeFirst_16 : decode cX4_takeFirst 16 = .ok (.aload_n 0, 1) := by decide +kernel
theorem dX4_takeFirst_17 : decode cX4_takeFirst 17 = .ok (.dup, 1) := by decide +kernel
theorem dX4_takeFirst_18 : decode cX4_takeFirst 18 = .ok (.getfield 15, 3) := by decide +kernel
theorem dX4_takeFirst_21 : decode cX4_takeFirst 21 = .ok (.iconst 1, 1) := by decide +kernel
theorem dX4_takeFirst_22 : decode cX4_takeFirst 22 = .ok (.isub, 1) := by decide +kernel
theorem dX4_takeFirst_23 : decode cX4_takeFirst 23 = .ok (.putfield 15, 3) := by decide +kernel
theorem dX4_takeFirst_26 : decode cX4_takeFirst 26 = .ok (.iconst 0, 1) := by decide +kernel
theorem dX4_takeFirst_27 : decode cX4_takeFirst 27 = .ok (.istore_n 2, 1) := by decide +kernel
theorem dX4_takeFirst_28 : decode cX4_takeFirst 28 = .ok (.iload_n 2, 1) := by decide +kernel
theorem dX4_takeFirst_29 : decode cX4_takeFirst 29 = .ok (.aload_n 0, 1) := by decide +kernel
theorem dX4_takeFirst_30 : decode cX4_takeFirst 30 = .ok (.getfield 15, 3) := by decide +kernel
theorem dX4_takeFirst_33 : decode cX4_takeFirst 33 = .ok (.if_icmp .ge 23, 3) := by decide +kernel
theorem dX4_takeFirst_36 : decode cX4_takeFirst 36 = .ok (.aload_n 0, 1) := by decide +kernel
theorem dX4_takeFirst_37 : decode cX4_takeFirst 37 = .ok (.getfield 9, 3) := by decide +kernel
theorem dX4_takeFirst_40 : decode cX4_takeFirst 40 = .ok (.iload_n 2, 1) := by decide +kernel
theorem dX4_takeFirst_41 : decode cX4_takeFirst 41 = .ok (.aload_n 0, 1) := by decide +kernel
theorem dX4_takeFirst_42 : decode cX4_takeFirst 42 = .ok (.getfield 9, 3) := by decide +kernel
theorem dX4_takeFirst_45 : decode cX4_takeFirst 45 = .ok (.iload_n 2, 1) := by decide +kernel
theorem dX4_takeFirst_46 : decode cX4_takeFirst 46 = .ok (.iconst 1, 1) := by decide +kernel
theorem dX4_takeFirst_47 : decode cX4_takeFirst 47 = .ok (.iadd, 1) := by decide +kernel
theorem dX4_takeFirst_48 : decode cX4_takeFirst 48 = .ok (.iaload, 1) := by decide +kernel
theorem dX4_takeFirst_49 : decode cX4_takeFirst 49 = .ok (.iastore, 1) := by decide +kernel
theorem dX4_takeFirst_50 : decode cX4_takeFirst 50 = .ok (.iinc 2 1, 3) := by decide +kernel
theorem dX4_takeFirst_53 : decode cX4_takeFirst 53 = .ok (.goto (-25), 3) := by decide +kernel
theorem dX4_takeFirst_56 : decode cX4_takeFirst 56 = .ok (.iload_n 1, 1) := by decide +kernel
theorem dX4_takeFirst_57 : decode cX4_takeFirst 57 = .ok (.ireturn, 1) := by decide +kernel
theorem dX5_init_0 : decode cX5_init 0 = .ok (.aload_n 0, 1) := by decide +kernel
theorem dX5_init_1 : decode cX5_init 1 = .ok (.invokespecial 3, 3) := by decide +kernel
theorem dX5_init_4 : decode cX5_init 4 = .ok (.aload_n 0, 1) := by decide +kernel
theorem dX5_init_5 : decode cX5_init 5 = .ok (.bipush 24, 2) := by decide +kernel
theorem dX5_init_7 : decode cX5_init 7 = .ok (.newarray .int, 2) := by decide +kernel
theorem dX5_init_9 : decode cX5_init 9 = .ok (.putfield 9, 3) := by decide +kernel
theorem dX5_init_12 : decode cX5_init 12 = .ok (.aload_n 0, 1) := by decide +kernel
theorem dX5_init_13 : decode cX5_init 13 = .ok (.aload_n 1, 1) := by decide +kernel
theorem dX5_init_14 : decode cX5_init 14 = .ok (.putfield 15, 3) := by decide +kernel
theorem dX5_init_17 : decode cX5_init 17 = .ok (.aload_n 0, 1) := by decide +kernel
theorem dX5_init_18 : decode cX5_init 18 = .ok (.iconst 0, 1) := by decide +kernel
theorem dX5_init_19 : decode cX5_init 19 = .ok (.putfield 19, 3) := by decide +kernel
theorem dX5_init_22 : decode cX5_init 22 = .ok (.return_, 1) := by decide +kernel
theorem dX5_arrange_0 : decode cX5_arrange 0 = .ok (.aload_n 0, 1) := by decide +kernel
theorem dX5_arrange_1 : decode cX5_arrange 1 = .ok (.iconst 0, 1) := by decide +kernel
theorem dX5_arrange_2 : decode cX5_arrange 2 = .ok (.putfield 19, 3) := by decide +kernel
theorem dX5_arrange_5 : decode cX5_arrange 5 = .ok (.iconst 0, 1) := by decide +kernel
theorem dX5_arrange_6 : decode cX5_arrange 6 = .ok (.istore_n 1, 1) := by decide +kernel
theorem dX5_arrange_7 : decode cX5_arrange 7 = .ok (.iload_n 1, 1) := by decide +kernel
theorem dX5_arrange_8 : decode cX5_arrange 8 = .ok (.aload_n 0, 1) := by decide +kernel
theorem dX5_arrange_9 : decode cX5_arrange 9 = .ok (.getfield 15, 3) := by decide +kernel
theorem dX5_arrange_12 : decode cX5_arrange 12 = .ok (.getfield 23, 3) := by decide +kernel
theorem dX5_arrange_15 : decode cX5_arrange 15 = .ok (.if_icmp .ge 45, 3) := by decide +kernel
theorem dX5_arrange_18 : decode cX5_arrange 18 = .ok (.aload_n 0, 1) := by decide +kernel
theorem dX5_arrange_19 : decode cX5_arrange 19 = .ok (.getfield 15, 3) := by decide +kernel
theorem dX5_arrange_22 : decode cX5_arrange 22 = .ok (.getfield 26, 3) := by decide +kernel
theorem dX5_arrange_25 : decode cX5_arrange 25 = .ok (.iload_n 1, 1) := by decide +kernel
theorem dX5_arrange_26 : decode cX5_arrange 26 = .ok (.iaload, 1) := by decide +kernel
theorem dX5_arrange_27 : decode cX5_arrange 27 = .ok (.istore_n 2, 1) := by decide +kernel
theorem dX5_arrange_28 : decode cX5_arrange 28 = .ok (.aload_n 0, 1) := by decide +kernel
theorem dX5_arrange_29 : decode cX5_arrange 29 = .ok (.getfield 15, 3) := by decide +kernel
theorem dX5_arrange_32 : decode cX5_arrange 32 = .ok (.iload_n 2, 1) := by decide +kernel
theorem dX5_arrange_33 : decode cX5_arrange 33 = .ok (.bipush 10, 2) := by decide +kernel
theorem dX5_arrange_35 : decode cX5_arrange 35 = .ok (.invokevirtual 29, 3) := by decide +kernel
theorem dX5_arrange_38 : decode cX5_arrange 38 = .ok (.istore_n 3, 1) := by decide +kernel
theorem dX5_arrange_39 : decode cX5_arrange 39 = .ok (.iload_n 3, 1) := by decide +kernel
theorem dX5_arrange_40 : decode cX5_arrange 40 = .ok (.iconst 2, 1) := by decide +kernel
theorem dX5_arrange_41 : decode cX5_arrange 41 = .ok (.if_icmp .eq 8, 3) := by decide +kernel
theorem dX5_arrange_44 : decode cX5_arrange 44 = .ok (.iload_n 3, 1) := by decide +kernel
theorem dX5_arrange_45 : decode cX5_arrange 45 = .ok (.iconst 3, 1) := by decide +kernel
theorem dX5_arrange_46 : decode cX5_arrange 46 = .ok (.if_icmp .ne 8, 3) := by decide +kernel
theorem dX5_arrange_49 : decode cX5_arrange 49 = .ok (.aload_n 0, 1) := by decide +kernel
theorem dX5_arrange_50 : decode cX5_arrange 50 = .ok (.iload_n 2, 1) := by decide +kernel
theorem dX5_arrange_51 : decode cX5_arrange 51 = .ok (.invokevirtual 33, 3) := by decide +kernel
theorem dX5_arrange_54 : decode cX5_arrange 54 = .ok (.iinc 1 1, 3) := by decide +kernel
theorem dX5_arrange_57 : decode cX5_arrange 57 = .ok (.goto (-50), 3) := by decide +kernel
theorem dX5_arrange_60 : decode cX5_arrange 60 = .ok (.return_, 1) := by decide +kernel
theorem dX5_insert_0 : decode cX5_insert 0 = .ok (.aload_n 0, 1) := by decide +kernel
theorem dX5_insert_1 : decode cX5_insert 1 = .ok (.getfield 19, 3) := by decide +kernel
theorem dX5_insert_4 : decode cX5_insert 4 = .ok (.bipush 24, 2) := by decide +kernel
theorem dX5_insert_6 : decode cX5_insert 6 = .ok (.if_icmp .lt 4, 3) := by decide +kernel
theorem dX5_insert_9 : decode cX5_insert 9 = .ok (.return_, 1) := by decide +kernel
theorem dX5_insert_10 : decode cX5_insert 10 = .ok (.aload_n 0, 1) := by decide +kernel
theorem dX5_insert_11 : decode cX5_insert 11 = .ok (.getfield 19, 3) := by decide +kernel
theorem dX5_insert_14 : decode cX5_insert 14 = .ok (.istore_n 2, 1) := by decide +kernel
theorem dX5_insert_15 : decode cX5_insert 15 = .ok (.iload_n 2, 1) := by decide +kernel
theorem dX5_insert_16 : decode cX5_insert 16 = .ok (.ifCond .le 43, 3) := by decide +kernel
theorem dX5_insert_19 : decode cX5_insert 19 = .ok (.aload_n 0, 1) := by decide +kernel
theorem dX5_insert_20 : decode cX5_insert 20 = .ok (.iload_n 1, 1) := by decide +kernel
theorem dX5_insert_21 : decode cX5_insert 21 = .ok (.invokevirtual 37, 3) := by decide +kernel
theorem dX5_insert_24 : decode cX5_insert 24 = .ok (.aload_n 0, 1) := by decide +kernel
theorem dX5_insert_25 : decode cX5_insert 25 = .ok (.aload_n 0, 1) := by decide +kernel
theorem dX5_insert_26 : decode cX5_insert 26 = .ok (.getfield 9, 3) := by decide +kernel
theorem dX5_insert_29 : decode cX5_insert 29 = .ok (.iload_n 2, 1) := by decide +kernel
theorem dX5_insert_30 : decode cX5_insert 30 = .ok (.iconst 1, 1) := by decide +kernel
theorem dX5_insert_31 : decode cX5_insert 31 = .ok (.isub, 1) := by decide +kernel
theorem dX5_insert_32 : decode cX5_insert 32 = .ok (.iaload, 1) := by decide +kernel
theorem dX5_insert_33 : decode cX5_insert 33 = .ok (.invokevirtual 37, 3) := by decide +kernel
theorem dX5_insert_36 : decode cX5_insert 36 = .ok (.if_icmp .ge 23, 3) := by decide +kernel
theorem dX5_insert_39 : decode cX5_insert 39 = .ok (.aload_n 0, 1) := by decide +kernel
theorem dX5_insert_40 : decode cX5_insert 40 = .ok (.getfield 9, 3) := by decide +kernel
theorem dX5_insert_43 : decode cX5_insert 43 = .ok (.iload_n 2, 1) := by decide +kernel
theorem dX5_insert_44 : decode cX5_insert 44 = .ok (.aload_n 0, 1) := by decide +kernel
theorem dX5_insert_45 : decode cX5_insert 45 = .ok (.getfield 9, 3) := by decide +kernel
theorem dX5_insert_48 : decode cX5_insert 48 = .ok (.iload_n 2, 1) := by decide +kernel
theorem dX5_insert_49 : decode cX5_insert 49 = .ok (.iconst 1, 1) := by decide +kernel
theorem dX5_insert_50 : decode cX5_insert 50 = .ok (.isub, 1) := by decide +kernel
theorem dX5_insert_51 : decode cX5_insert 51 = .ok (.iaload, 1) := by decide +kernel
theorem dX5_insert_52 : decode cX5_insert 52 = .ok (.iastore, 1) := by decide +kernel
theorem dX5_insert_53 : decode cX5_insert 53 = .ok (.iinc 2 (-1), 3) := by decide +kernel
theorem dX5_insert_56 : decode cX5_insert 56 = .ok (.goto (-41), 3) := by decide +kernel
theorem dX5_insert_59 : decode cX5_insert 59 = .ok (.aload_n 0, 1) := by decide +kernel
theorem dX5_insert_60 : decode cX5_insert 60 = .ok (.getfield 9, 3) := by decide +kernel
theorem dX5_insert_63 : decode cX5_insert 63 = .ok (.iload_n 2, 1) := by decide +kernel
theorem dX5_insert_64 : decode cX5_insert 64 = .ok (.iload_n 1, 1) := by decide +kernel
theorem dX5_insert_65 : decode cX5_insert 65 = .ok (.iastore, 1) := by decide +kernel
theorem dX5_insert_66 : decode cX5_insert 66 = .ok (.aload_n 0, 1) := by decide +kernel
theorem dX5_insert_67 : decode cX5_insert 67 = .ok (.dup, 1) := by decide +kernel
theorem dX5_insert_68 : decode cX5_insert 68 = .ok (.getfield 19, 3) := by decide +kernel
theorem dX5_insert_71 : decode cX5_insert 71 = .ok (.iconst 1, 1) := by decide +kernel
theorem dX5_insert_72 : decode cX5_insert 72 = .ok (.iadd, 1) := by decide +kernel
theorem dX5_insert_73 : decode cX5_insert 73 = .ok (.putfield 19, 3) := by decide +kernel
theorem dX5_insert_76 : decode cX5_insert 76 = .ok (.return_, 1) := by decide +kernel
theorem dX5_rank_0 : decode cX5_rank 0 = .ok (.aload_n 0, 1) := by decide +kernel
theorem dX5_rank_1 : decode cX5_rank 1 = .ok (.getfield 15, 3) := by decide +kernel
theorem dX5_rank_4 : decode cX5_rank 4 = .ok (.iload_n 1, 1) := by decide +kernel
theorem dX5_rank_5 : decode cX5_rank 5 = .ok (.bipush 6, 2) := by decide +kernel
theorem dX5_rank_7 : decode cX5_rank 7 = .ok (.invokevirtual 29, 3) := by decide +kernel
theorem dX5_rank_10 : decode cX5_rank 10 = .ok (.istore_n 2, 1) := by decide +kernel
theorem dX5_rank_11 : decode cX5_rank 11 = .ok (.iload_n 2, 1) := by decide +kernel
theorem dX5_rank_12 : decode cX5_rank 12 = .ok (.ifCond .ne 8, 3) := by decide +kernel
theorem dX5_rank_15 : decode cX5_rank 15 = .ok (.bipush 101, 2) := by decide +kernel
theorem dX5_rank_17 : decode cX5_rank 17 = .ok (.goto 4, 3) := by decide +kernel
theorem dX5_rank_20 : decode cX5_rank 20 = .ok (.iload_n 2, 1) := by decide +kernel
theorem dX5_rank_21 : decode cX5_rank 21 = .ok (.ireturn, 1) := by decide +kernel
theorem dX5_at_0 : decode cX5_at 0 = .ok (.iload_n 1, 1) := by decide +kernel
theorem dX5_at_1 : decode cX5_at 1 = .ok (.ifCond .ge 5, 3) := by decide +kernel
theorem dX5_at_4 : decode cX5_at 4 = .ok (.iconst (-1), 1) := by decide +kernel
theorem dX5_at_5 : decode cX5_at 5 = .ok (.ireturn, 1) := by decide +kernel
theorem dX5_at_6 : decode cX5_at 6 = .ok (.iload_n 1, 1) := by decide +kernel
theorem dX5_at_7 : decode cX5_at 7 = .ok (.istore_n 3, 1) := by decide +kernel
theorem dX5_at_8 : decode cX5_at 8 = .ok (.iconst 0, 1) := by decide +kernel
theorem dX5_at_9 : decode cX5_at 9 = .ok (.istore 4, 2) := by decide +kernel
theorem dX5_at_11 : decode cX5_at 11 = .ok (.iload 4, 2) := by decide +kernel
theorem dX5_at_13 : decode cX5_at 13 = .ok (.aload_n 0, 1) := by decide +kernel
theorem dX5_at_14 : decode cX5_at 14 = .ok (.getfield 19, 3) := by decide +kernel
theorem dX5_at_17 : decode cX5_at 17 = .ok (.if_icmp .ge 38, 3) := by decide +kernel
theorem dX5_at_20 : decode cX5_at 20 = .ok (.iload_n 2, 1) := by decide +kernel
theorem dX5_at_21 : decode cX5_at 21 = .ok (.aload_n 0, 1) := by decide +kernel
theorem dX5_at_22 : decode cX5_at 22 = .ok (.getfield 9, 3) := by decide +kernel
theorem dX5_at_25 : decode cX5_at 25 = .ok (.iload 4, 2) := by decide +kernel
theorem dX5_at_27 : decode cX5_at 27 = .ok (.iaload, 1) := by decide +kernel
theorem dX5_at_28 : decode cX5_at 28 = .ok (.invokestatic 41, 3) := by decide +kernel
theorem dX5_at_31 : decode cX5_at 31 = .ok (.ifCond .eq 18, 3) := by decide +kernel
theorem dX5_at_34 : decode cX5_at 34 = .ok (.iload_n 3, 1) := by decide +kernel
theorem dX5_at_35 : decode cX5_at 35 = .ok (.ifCond .ne 11, 3) := by decide +kernel
theorem dX5_at_38 : decode cX5_at 38 = .ok (.aload_n 0, 1) := by decide +kernel
theorem dX5_at_39 : decode cX5_at 39 = .ok (.getfield 9, 3) := by decide +kernel
theorem dX5_at_42 : decode cX5_at 42 = .ok (.iload 4, 2) := by decide +kernel
theorem dX5_at_44 : decode cX5_at 44 = .ok (.iaload, 1) := by decide +kernel
theorem dX5_at_45 : decode cX5_at 45 = .ok (.ireturn, 1) := by decide +kernel
theorem dX5_at_46 : decode cX5_at 46 = .ok (.iinc 3 (-1), 3) := by decide +kernel
theorem dX5_at_49 : decode cX5_at 49 = .ok (.iinc 4 1, 3) := by decide +kernel
theorem dX5_at_52 : decode cX5_at 52 = .ok (.goto (-41), 3) := by decide +kernel
theorem dX5_at_55 : decode cX5_at 55 = .ok (.iconst (-1), 1) := by decide +kernel
theorem dX5_at_56 : decode cX5_at 56 = .ok (.ireturn, 1) := by decide +kernel
theorem dX5_turn_0 : decode cX5_turn 0 = .ok (.aload_n 0, 1) := by decide +kernel
theorem dX5_turn_1 : decode cX5_turn 1 = .ok (.getfield 15, 3) := by decide +kernel
theorem dX5_turn_4 : decode cX5_turn 4 = .ok (.iload_n 1, 1) := by decide +kernel
theorem dX5_turn_5 : decode cX5_turn 5 = .ok (.iload_n 3, 1) := by decide +kernel
theorem dX5_turn_6 : decode cX5_turn 6 = .ok (.invokevirtual 45, 3) := by decide +kernel
theorem dX5_turn_9 : decode cX5_turn 9 = .ok (.istore 4, 2) := by decide +kernel
theorem dX5_turn_11 : decode cX5_turn 11 = .ok (.iload 4, 2) := by decide +kernel
theorem dX5_turn_13 : decode cX5_turn 13 = .ok (.iconst (-1), 1) := by decide +kernel
theorem dX5_turn_14 : decode cX5_turn 14 = .ok (.if_icmp .ne 7, 3) := by decide +kernel
theorem dX5_turn_17 : decode cX5_turn 17 = .ok (.iload_n 3, 1) := by decide +kernel
theorem dX5_turn_18 : decode cX5_turn 18 = .ok (.goto 14, 3) := by decide +kernel
theorem dX5_turn_21 : decode cX5_turn 21 = .ok (.iload_n 3, 1) := by decide +kernel
theorem dX5_turn_22 : decode cX5_turn 22 = .ok (.aload_n 0, 1) := by decide +kernel
theorem dX5_turn_23 : decode cX5_turn 23 = .ok (.getfield 15, 3) := by decide +kernel
theorem dX5_turn_26 : decode cX5_turn 26 = .ok (.iload 4, 2) := by decide +kernel
theorem dX5_turn_28 : decode cX5_turn 28 = .ok (.invokevirtual 48, 3) := by decide +kernel
theorem dX5_turn_31 : decode cX5_turn 31 = .ok (.iand, 1) := by decide +kernel
theorem dX5_turn_32 : decode cX5_turn 32 = .ok (.istore 5, 2) := by decide +kernel
theorem dX5_turn_34 : decode cX5_turn 34 = .ok (.iload 5, 2) := by decide +kernel
theorem dX5_turn_36 : decode cX5_turn 36 = .ok (.iload_n 1, 1) := by decide +kernel
theorem dX5_turn_37 : decode cX5_turn 37 = .ok (.invokestatic 41, 3) := by decide +kernel
theorem dX5_turn_40 : decode cX5_turn 40 = .ok (.ifCond .eq 11, 3) := by decide +kernel
theorem dX5_turn_43 : decode cX5_turn 43 = .ok (.aload_n 0, 1) := by decide +kernel
theorem dX5_turn_44 : decode cX5_turn 44 = .ok (.iload_n 1, 1) := by decide +kernel
theorem dX5_turn_45 : decode cX5_turn 45 = .ok (.invokevirtual 51, 3) := by decide +kernel
theorem dX5_turn_48 : decode cX5_turn 48 = .ok (.goto 4, 3) := by decide +kernel
theorem dX5_turn_51 : decode cX5_turn 51 = .ok (.iconst (-1), 1) := by decide +kernel
theorem dX5_turn_52 : decode cX5_turn 52 = .ok (.istore 6, 2) := by decide +kernel
theorem dX5_turn_54 : decode cX5_turn 54 = .ok (.iconst 0, 1) := by decide +kernel
theorem dX5_turn_55 : decode cX5_turn 55 = .ok (.istore 7, 2) := by decide +kernel
theorem dX5_turn_57 : decode cX5_turn 57 = .ok (.iload 7, 2) := by decide +kernel
theorem dX5_turn_59 : decode cX5_turn 59 = .ok (.aload_n 0, 1) := by decide +kernel
theorem dX5_turn_60 : decode cX5_turn 60 = .ok (.getfield 19, 3) := by decide +kernel
theorem dX5_turn_63 : decode cX5_turn 63 = .ok (.if_icmp .ge 53, 3) := by decide +kernel
theorem dX5_turn_66 : decode cX5_turn 66 = .ok (.iload_n 2, 1) := by decide +kernel
theorem dX5_turn_67 : decode cX5_turn 67 = .ok (.ifCond .ne 12, 3) := by decide +kernel
theorem dX5_turn_70 : decode cX5_turn 70 = .ok (.aload_n 0, 1) := by decide +kernel
theorem dX5_turn_71 : decode cX5_turn 71 = .ok (.iload 6, 2) := by decide +kernel
theorem dX5_turn_73 : decode cX5_turn 73 = .ok (.invokevirtual 54, 3) := by decide +kernel
theorem dX5_turn_76 : decode cX5_turn 76 = .ok (.goto 9, 3) := by decide +kernel
theorem dX5_turn_79 : decode cX5_turn 79 = .ok (.aload_n 0, 1) := by decide +kernel
theorem dX5_turn_80 : decode cX5_turn 80 = .ok (.iload 6, 2) := by decide +kernel
theorem dX5_turn_82 : decode cX5_turn 82 = .ok (.invokevirtual 57, 3) := by decide +kernel
theorem dX5_turn_85 : decode cX5_turn 85 = .ok (.istore 6, 2) := by decide +kernel
theorem dX5_turn_87 : decode cX5_turn 87 = .ok (.iload 5, 2) := by decide +kernel
theorem dX5_turn_89 : decode cX5_turn 89 = .ok (.aload_n 0, 1) := by decide +kernel
theorem dX5_turn_90 : decode cX5_turn 90 = .ok (.getfield 9, 3) := by decide +kernel
theorem dX5_turn_93 : decode cX5_turn 93 = .ok (.iload 6, 2) := by decide +kernel
theorem dX5_turn_95 : decode cX5_turn 95 = .ok (.iaload, 1) := by decide +kernel
theorem dX5_turn_96 : decode cX5_turn 96 = .ok (.invokestatic 41, 3) := by decide +kernel
theorem dX5_turn_99 : decode cX5_turn 99 = .ok (.ifCond .eq 11, 3) := by decide +kernel
theorem dX5_turn_102 : decode cX5_turn 102 = .ok (.aload_n 0, 1) := by decide +kernel
theorem dX5_turn_103 : decode cX5_turn 103 = .ok (.getfield 9, 3) := by decide +kernel
theorem dX5_turn_106 : decode cX5_turn 106 = .ok (.iload 6, 2) := by decide +kernel
theorem dX5_turn_108 : decode cX5_turn 108 = .ok (.iaload, 1) := by decide +kernel
theorem dX5_turn_109 : decode cX5_turn 109 = .ok (.ireturn, 1) := by decide +kernel
theorem dX5_turn_110 : decode cX5_turn 110 = .ok (.iinc 7 1, 3) := by decide +kernel
theorem dX5_turn_113 : decode cX5_turn 113 = .ok (.goto (-56), 3) := by decide +kernel
theorem dX5_turn_116 : decode cX5_turn 116 = .ok (.iload_n 1, 1) := by decide +kernel
theorem dX5_turn_117 : decode cX5_turn 117 = .ok (.ireturn, 1) := by decide +kernel
theorem dX5_spotBehind_0 : decode cX5_spotBehind 0 = .ok (.iload_n 1, 1) := by decide +kernel
theorem dX5_spotBehind_1 : decode cX5_spotBehind 1 = .ok (.iconst 1, 1) := by decide +kernel
theorem dX5_spotBehind_2 : decode cX5_spotBehind 2 = .ok (.iadd, 1) := by decide +kernel
theorem dX5_spotBehind_3 : decode cX5_spotBehind 3 = .ok (.aload_n 0, 1) := by decide +kernel
theorem dX5_spotBehind_4 : decode cX5_spotBehind 4 = .ok (.getfield 19, 3) := by decide +kernel
theorem dX5_spotBehind_7 : decode cX5_spotBehind 7 = .ok (.if_icmp .ge 9, 3) := by decide +kernel
theorem dX5_spotBehind_10 : decode cX5_spotBehind 10 = .ok (.iload_n 1, 1) := by decide +kernel
theorem dX5_spotBehind_11 : decode cX5_spotBehind 11 = .ok (.iconst 1, 1) := by decide +kernel
theorem dX5_spotBehind_12 : decode cX5_spotBehind 12 = .ok (.iadd, 1) := by decide +kernel
theorem dX5_spotBehind_13 : decode cX5_spotBehind 13 = .ok (.goto 4, 3) := by decide +kernel
theorem dX5_spotBehind_16 : decode cX5_spotBehind 16 = .ok (.iconst 0, 1) := by decide +kernel
theorem dX5_spotBehind_17 : decode cX5_spotBehind 17 = .ok (.ireturn, 1) := by decide +kernel
theorem dX5_spotAhead_0 : decode cX5_spotAhead 0 = .ok (.iload_n 1, 1) := by decide +kernel
theorem dX5_spotAhead_1 : decode cX5_spotAhead 1 = .ok (.ifCond .le 9, 3) := by decide +kernel
theorem dX5_spotAhead_4 : decode cX5_spotAhead 4 = .ok (.iload_n 1, 1) := by decide +kernel
theorem dX5_spotAhead_5 : decode cX5_spotAhead 5 = .ok (.iconst 1, 1) := by decide +kernel
theorem dX5_spotAhead_6 : decode cX5_spotAhead 6 = .ok (.isub, 1) := by decide +kernel
theorem dX5_spotAhead_7 : decode cX5_spotAhead 7 = .ok (.goto 9, 3) := by decide +kernel
theorem dX5_spotAhead_10 : decode cX5_spotAhead 10 = .ok (.aload_n 0, 1) := by decide +kernel
theorem dX5_spotAhead_11 : decode cX5_spotAhead 11 = .ok (.getfield 19, 3) := by decide +kernel
theorem dX5_spotAhead_14 : decode cX5_spotAhead 14 = .ok (.iconst 1, 1) := by decide +kernel
theorem dX5_spotAhead_15 : decode cX5_spotAhead 15 = .ok (.isub, 1) := by decide +kernel
theorem dX5_spotAhead_16 : decode cX5_spotAhead 16 = .ok (.ireturn, 1) := by decide +kernel
theorem dX5_spotOf_0 : decode cX5_spotOf 0 = .ok (.iconst 0, 1) := by decide +kernel
theorem dX5_spotOf_1 : decode cX5_spotOf 1 = .ok (.istore_n 2, 1) := by decide +kernel
theorem dX5_spotOf_2 : decode cX5_spotOf 2 = .ok (.iload_n 2, 1) := by decide +kernel
theorem dX5_spotOf_3 : decode cX5_spotOf 3 = .ok (.aload_n 0, 1) := by decide +kernel
theorem dX5_spotOf_4 : decode cX5_spotOf 4 = .ok (.getfield 19, 3) := by decide +kernel
theorem dX5_spotOf_7 : decode cX5_spotOf 7 = .ok (.if_icmp .ge 21, 3) := by decide +kernel
theorem dX5_spotOf_10 : decode cX5_spotOf 10 = .ok (.aload_n 0, 1) := by decide +kernel
theorem dX5_spotOf_11 : decode cX5_spotOf 11 = .ok (.getfield 9, 3) := by decide +kernel
theorem dX5_spotOf_14 : decode cX5_spotOf 14 = .ok (.iload_n 2, 1) := by decide +kernel
theorem dX5_spotOf_15 : decode cX5_spotOf 15 = .ok (.iaload, 1) := by decide +kernel
theorem dX5_spotOf_16 : decode cX5_spotOf 16 = .ok (.iload_n 1, 1) := by decide +kernel
theorem dX5_spotOf_17 : decode cX5_spotOf 17 = .ok (.if_icmp .ne 5, 3) := by decide +kernel
theorem dX5_spotOf_20 : decode cX5_spotOf 20 = .ok (.iload_n 2, 1) := by decide +kernel
theorem dX5_spotOf_21 : decode cX5_spotOf 21 = .ok (.ireturn, 1) := by decide +kernel
theorem dX5_spotOf_22 : decode cX5_spotOf 22 = .ok (.iinc 2 1, 3) := by decide +kernel
theorem dX5_spotOf_25 : decode cX5_spotOf 25 = .ok (.goto (-23), 3) := by decide +kernel
theorem dX5_spotOf_28 : decode cX5_spotOf 28 = .ok (.iconst (-1), 1) := by decide +kernel
theorem dX5_spotOf_29 : decode cX5_spotOf 29 = .ok (.ireturn, 1) := by decide +kernel
theorem dX6_init_0 : decode cX6_init 0 = .ok (.aload_n 0, 1) := by decide +kernel
theorem dX6_init_1 : decode cX6_init 1 = .ok (.invokespecial 5, 3) := by decide +kernel
theorem dX6_init_4 : decode cX6_init 4 = .ok (.aload_n 0, 1) := by decide +kernel
theorem dX6_init_5 : decode cX6_init 5 = .ok (.bipush 6, 2) := by decide +kernel
theorem dX6_init_7 : decode cX6_init 7 = .ok (.newarray .int, 2) := by decide +kernel
theorem dX6_init_9 : decode cX6_init 9 = .ok (.putfield 11, 3) := by decide +kernel
theorem dX6_init_12 : decode cX6_init 12 = .ok (.aload_n 0, 1) := by decide +kernel
theorem dX6_init_13 : decode cX6_init 13 = .ok (.sipush 1600, 3) := by decide +kernel
theorem dX6_init_16 : decode cX6_init 16 = .ok (.newarray .int, 2) := by decide +kernel
theorem dX6_init_18 : decode cX6_init 18 = .ok (.putfield 15, 3) := by decide +kernel
theorem dX6_init_21 : decode cX6_init 21 = .ok (.aload_n 0, 1) := by decide +kernel
theorem dX6_init_22 : decode cX6_init 22 = .ok (.sipush 1600, 3) := by decide +kernel
theorem dX6_init_25 : decode cX6_init 25 = .ok (.newarray .int, 2) := by decide +kernel
theorem dX6_init_27 : decode cX6_init 27 = .ok (.putfield 18, 3) := by decide +kernel
theorem dX6_init_30 : decode cX6_init 30 = .ok (.aload_n 0, 1) := by decide +kernel
theorem dX6_init_31 : decode cX6_init 31 = .ok (.sipush 1600, 3) := by decide +kernel
theorem dX6_init_34 : decode cX6_init 34 = .ok (.newarray .int, 2) := by decide +kernel
theorem dX6_init_36 : decode cX6_init 36 = .ok (.putfield 21, 3) := by decide +kernel
theorem dX6_init_39 : decode cX6_init 39 = .ok (.aload_n 0, 1) := by decide +kernel
theorem dX6_init_40 : decode cX6_init 40 = .ok (.sipush 1600, 3) := by decide +kernel
theorem dX6_init_43 : decode cX6_init 43 = .ok (.newarray .int, 2) := by decide +kernel
theorem dX6_init_45 : decode cX6_init 45 = .ok (.putfield 24, 3) := by decide +kernel
theorem dX6_init_48 : decode cX6_init 48 = .ok (.aload_n 0, 1) := by decide +kernel
theorem dX6_init_49 : decode cX6_init 49 = .ok (.aload_n 1, 1) := by decide +kernel
theorem dX6_init_50 : decode cX6_init 50 = .ok (.putfield 27, 3) := by decide +kernel
theorem dX6_init_53 : decode cX6_init 53 = .ok (.aload_n 0, 1) := by decide +kernel
theorem dX6_init_54 : decode cX6_init 54 = .ok (.aload_n 2, 1) := by decide +kernel
theorem dX6_init_55 : decode cX6_init 55 = .ok (.putfield 31, 3) := by decide +kernel
theorem dX6_init_58 : decode cX6_init 58 = .ok (.aload_n 0, 1) := by decide +kernel
theorem dX6_init_59 : decode cX6_init 59 = .ok (.iconst 0, 1) := by decide +kernel
theorem dX6_init_60 : decode cX6_init 60 = .ok (.putfield 35, 3) := by decide +kernel
theorem dX6_init_63 : decode cX6_init 63 = .ok (.aload_n 0, 1) := by decide +kernel
theorem dX6_init_64 : decode cX6_init 64 = .ok (.iconst 0, 1) := by decide +kernel
theorem dX6_init_65 : decode cX6_init 65 = .ok (.putfield 39, 3) := by decide +kernel
theorem dX6_init_68 : decode cX6_init 68 = .ok (.aload_n 0, 1) := by decide +kernel
theorem dX6_init_69 : decode cX6_init 69 = .ok (.iconst 0, 1) := by decide +kernel
theorem dX6_init_70 : decode cX6_init 70 = .ok (.putfield 42, 3) := by decide +kernel
theorem dX6_init_73 : decode cX6_init 73 = .ok (.aload_n 0, 1) := by decide +kernel
theorem dX6_init_74 : decode cX6_init 74 = .ok (.iconst 0, 1) := by decide +kernel
theorem dX6_init_75 : decode cX6_init 75 = .ok (.putfield 45, 3) := by decide +kernel
theorem dX6_init_78 : decode cX6_init 78 = .ok (.return_, 1) := by decide +kernel
theorem dX6_lengthTo_0 : decode cX6_lengthTo 0 = .ok (.aload_n 0, 1) := by decide +kernel
theorem dX6_lengthTo_1 : decode cX6_lengthTo 1 = .ok (.iload_n 1, 1) := by decide +kernel
theorem dX6_lengthTo_2 : decode cX6_lengthTo 2 = .ok (.iconst 1, 1) := by decide +kernel
theorem dX6_lengthTo_3 : decode cX6_lengthTo 3 = .ok (.iload_n 2, 1) := by decide +kernel
theorem dX6_lengthTo_4 : decode cX6_lengthTo 4 = .ok (.ishl, 1) := by decide +kernel
theorem dX6_lengthTo_5 : decode cX6_lengthTo 5 = .ok (.invokevirtual 48, 3) := by decide +kernel
theorem dX6_lengthTo_8 : decode cX6_lengthTo 8 = .ok (.istore_n 3, 1) := by decide +kernel
theorem dX6_lengthTo_9 : decode cX6_lengthTo 9 = .ok (.iload_n 3, 1) := by decide +kernel
theorem dX6_lengthTo_10 : decode cX6_lengthTo 10 = .ok (.iconst (-1), 1) := by decide +kernel
theorem dX6_lengthTo_11 : decode cX6_lengthTo 11 = .ok (.if_icmp .ne 7, 3) := by decide +kernel
theorem dX6_lengthTo_14 : decode cX6_lengthTo 14 = .ok (.iconst (-1), 1) := by decide +kernel
theorem dX6_lengthTo_15 : decode cX6_lengthTo 15 = .ok (.goto 9, 3) := by decide +kernel
theorem dX6_lengthTo_18 : decode cX6_lengthTo 18 = .ok (.aload_n 0, 1) := by decide +kernel
theorem dX6_lengthTo_19 : decode cX6_lengthTo 19 = .ok (.getfield 18, 3) := by decide +kernel
theorem dX6_lengthTo_22 : decode cX6_lengthTo 22 = .ok (.iload_n 3, 1) := by decide +kernel
theorem dX6_lengthTo_23 : decode cX6_lengthTo 23 = .ok (.iaload, 1) := by decide +kernel
theorem dX6_lengthTo_24 : decode cX6_lengthTo 24 = .ok (.ireturn, 1) := by decide +kernel
theorem dX6_firstKeyTo_0 : decode cX6_firstKeyTo 0 = .ok (.aload_n 0, 1) := by decide +kernel
theorem dX6_firstKeyTo_1 : decode cX6_firstKeyTo 1 = .ok (.iload_n 1, 1) := by decide +kernel
theorem dX6_firstKeyTo_2 : decode cX6_firstKeyTo 2 = .ok (.iconst 1, 1) := by decide +kernel
theorem dX6_firstKeyTo_3 : decode cX6_firstKeyTo 3 = .ok (.iload_n 2, 1) := by decide +kernel
theorem dX6_firstKeyTo_4 : decode cX6_firstKeyTo 4 = .ok (.ishl, 1) := by decide +kernel
theorem dX6_firstKeyTo_5 : decode cX6_firstKeyTo 5 = .ok (.invokevirtual 48, 3) := by decide +kernel
theorem dX6_firstKeyTo_8 : decode cX6_firstKeyTo 8 = .ok (.istore_n 3, 1) := by decide +kernel
theorem dX6_firstKeyTo_9 : decode cX6_firstKeyTo 9 = .ok (.iload_n 3, 1) := by decide +kernel
theorem dX6_firstKeyTo_10 : decode cX6_firstKeyTo 10 = .ok (.iconst (-1), 1) := by decide +kernel
theorem dX6_firstKeyTo_11 : decode cX6_firstKeyTo 11 = .ok (.if_icmp .ne 7, 3) := by decide +kernel
theorem dX6_firstKeyTo_14 : decode cX6_firstKeyTo 14 = .ok (.iconst (-1), 1) := by decide +kernel
theorem dX6_firstKeyTo_15 : decode cX6_firstKeyTo 15 = .ok (.goto 9, 3) := by decide +kernel
theorem dX6_firstKeyTo_18 : decode cX6_firstKeyTo 18 = .ok (.aload_n 0, 1) := by decide +kernel
theorem dX6_firstKeyTo_19 : decode cX6_firstKeyTo 19 = .ok (.getfield 21, 3) := by decide +kernel
theorem dX6_firstKeyTo_22 : decode cX6_firstKeyTo 22 = .ok (.iload_n 3, 1) := by decide +kernel
theorem dX6_firstKeyTo_23 : decode cX6_firstKeyTo 23 = .ok (.iaload, 1) := by decide +kernel
theorem dX6_firstKeyTo_24 : decode cX6_firstKeyTo 24 = .ok (.ireturn, 1) := by decide +kernel
theorem dX6_leadOutOf_0 : decode cX6_leadOutOf 0 = .ok (.aload_n 0, 1) := by decide +kernel
theorem dX6_leadOutOf_1 : decode cX6_leadOutOf 1 = .ok (.iload_n 1, 1) := by decide +kernel
theorem dX6_leadOutOf_2 : decode cX6_leadOutOf 2 = .ok (.aload_n 0, 1) := by decide +kernel
theorem dX6_leadOutOf_3 : decode cX6_leadOutOf 3 = .ok (.getfield 27, 3) := by decide +kernel
theorem dX6_leadOutOf_6 : decode cX6_leadOutOf 6 = .ok (.iload_n 2, 1) := by decide +kernel
theorem dX6_leadOutOf_7 : decode cX6_leadOutOf 7 = .ok (.invokevirtual 52, 3) := by decide +kernel
theorem dX6_leadOutOf_10 : decode cX6_leadOutOf 10 = .ok (.iconst (-1), 1) := by decide +kernel
theorem dX6_leadOutOf_11 : decode cX6_leadOutOf 11 = .ok (.ixor, 1) := by decide +kernel
theorem dX6_leadOutOf_12 : decode cX6_leadOutOf 12 = .ok (.invokevirtual 48, 3) := by decide +kernel
theorem dX6_leadOutOf_15 : decode cX6_leadOutOf 15 = .ok (.iconst (-1), 1) := by decide +kernel
theorem dX6_leadOutOf_16 : decode cX6_leadOutOf 16 = .ok (.if_icmp .eq 7, 3) := by decide +kernel
theorem dX6_leadOutOf_19 : decode cX6_leadOutOf 19 = .ok (.iconst 1, 1) := by decide +kernel
theorem dX6_leadOutOf_20 : decode cX6_leadOutOf 20 = .ok (.goto 4, 3) := by decide +kernel
theorem dX6_leadOutOf_23 : decode cX6_leadOutOf 23 = .ok (.iconst 0, 1) := by decide +kernel
theorem dX6_leadOutOf_24 : decode cX6_leadOutOf 24 = .ok (.ireturn, 1) := by decide +kernel
theorem dX6_find_0 : decode cX6_find 0 = .ok (.aload_n 0, 1) := by decide +kernel
theorem dX6_find_1 : decode cX6_find 1 = .ok (.dup, 1) := by decide +kernel
theorem dX6_find_2 : decode cX6_find 2 = .ok (.getfield 45, 3) := by decide +kernel
theorem dX6_find_5 : decode cX6_find 5 = .ok (.iconst 1, 1) := by decide +kernel
theorem dX6_find_6 : decode cX6_find 6 = .ok (.iadd, 1) := by decide +kernel
theorem dX6_find_7 : decode cX6_find 7 = .ok (.putfield 45, 3) := by decide +kernel
theorem dX6_find_10 : decode cX6_find 10 = .ok (.aload_n 0, 1) := by decide +kernel
theorem dX6_find_11 : decode cX6_find 11 = .ok (.iconst 0, 1) := by decide +kernel
theorem dX6_find_12 : decode cX6_find 12 = .ok (.putfield 42, 3) := by decide +kernel
theorem dX6_find_15 : decode cX6_find 15 = .ok (.aload_n 0, 1) := by decide +kernel
theorem dX6_find_16 : decode cX6_find 16 = .ok (.invokevirtual 58, 3) := by decide +kernel
theorem dX6_find_19 : decode cX6_find 19 = .ok (.aload_n 0, 1) := by decide +kernel
theorem dX6_find_20 : decode cX6_find 20 = .ok (.aload_n 0, 1) := by decide +kernel
theorem dX6_find_21 : decode cX6_find 21 = .ok (.invokevirtual 61, 3) := by decide +kernel
theorem dX6_find_24 : decode cX6_find 24 = .ok (.iload_n 1, 1) := by decide +kernel
theorem dX6_find_25 : decode cX6_find 25 = .ok (.iconst 0, 1) := by decide +kernel
theorem dX6_find_26 : decode cX6_find 26 = .ok (.iconst (-1), 1) := by decide +kernel
theorem dX6_find_27 : decode cX6_find 27 = .ok (.invokevirtual 65, 3) := by decide +kernel
theorem dX6_find_30 : decode cX6_find 30 = .ok (.iconst 0, 1) := by decide +kernel
theorem dX6_find_31 : decode cX6_find 31 = .ok (.istore_n 3, 1) := by decide +kernel
theorem dX6_find_32 : decode cX6_find 32 = .ok (.iload_n 3, 1) := by decide +kernel
theorem dX6_find_33 : decode cX6_find 33 = .ok (.aload_n 0, 1) := by decide +kernel
theorem dX6_find_34 : decode cX6_find 34 = .ok (.getfield 42, 3) := by decide +kernel
theorem dX6_find_37 : decode cX6_find 37 = .ok (.if_icmp .ge 39, 3) := by decide +kernel
theorem dX6_find_40 : decode cX6_find 40 = .ok (.iload_n 3, 1) := by decide +kernel
theorem dX6_find_41 : decode cX6_find 41 = .ok (.sipush 1600, 3) := by decide +kernel
theorem dX6_find_44 : decode cX6_find 44 = .ok (.if_icmp .ge 32, 3) := by decide +kernel
theorem dX6_find_47 : decode cX6_find 47 = .ok (.iload_n 2, 1) := by decide +kernel
theorem dX6_find_48 : decode cX6_find 48 = .ok (.aload_n 0, 1) := by decide +kernel
theorem dX6_find_49 : decode cX6_find 49 = .ok (.getfield 15, 3) := by decide +kernel
theorem dX6_find_52 : decode cX6_find 52 = .ok (.iload_n 3, 1) := by decide +kernel
theorem dX6_find_53 : decode cX6_find 53 = .ok (.iaload, 1) := by decide +kernel
theorem dX6_find_54 : decode cX6_find 54 = .ok (.invokestatic 69, 3) := by decide +kernel
theorem dX6_find_57 : decode cX6_find 57 = .ok (.invokestatic 72, 3) := by decide +kernel
theorem dX6_find_60 : decode cX6_find 60 = .ok (.ifCond .eq 5, 3) := by decide +kernel
theorem dX6_find_63 : decode cX6_find 63 = .ok (.iload_n 3, 1) := by decide +kernel
theorem dX6_find_64 : decode cX6_find 64 = .ok (.ireturn, 1) := by decide +kernel
theorem dX6_find_65 : decode cX6_find 65 = .ok (.aload_n 0, 1) := by decide +kernel
theorem dX6_find_66 : decode cX6_find 66 = .ok (.iload_n 3, 1) := by decide +kernel
theorem dX6_find_67 : decode cX6_find 67 = .ok (.invokevirtual 76, 3) := by decide +kernel
theorem dX6_find_70 : decode cX6_find 70 = .ok (.iinc 3 1, 3) := by decide +kernel
theorem dX6_find_73 : decode cX6_find 73 = .ok (.goto (-41), 3) := by decide +kernel
theorem dX6_find_76 : decode cX6_find 76 = .ok (.iconst (-1), 1) := by decide +kernel
theorem dX6_find_77 : decode cX6_find 77 = .ok (.ireturn, 1) := by decide +kernel
theorem dX6_takeDoors_0 : decode cX6_takeDoors 0 = .ok (.aload_n 0, 1) := by decide +kernel
theorem dX6_takeDoors_1 : decode cX6_takeDoors 1 = .ok (.getfield 27, 3) := by decide +kernel
theorem dX6_takeDoors_4 : decode cX6_takeDoors 4 = .ok (.iconst (-1), 1) := by decide +kernel
theorem dX6_takeDoors_5 : decode cX6_takeDoors 5 = .ok (.invokevirtual 80, 3) := by decide +kernel
theorem dX6_takeDoors_8 : decode cX6_takeDoors 8 = .ok (.istore_n 1, 1) := by decide +kernel
theorem dX6_takeDoors_9 : decode cX6_takeDoors 9 = .ok (.aload_n 0, 1) := by decide +kernel
theorem dX6_takeDoors_10 : decode cX6_takeDoors 10 = .ok (.iconst 0, 1) := by decide +kernel
theorem dX6_takeDoors_11 : decode cX6_takeDoors 11 = .ok (.putfield 35, 3) := by decide +kernel
theorem dX6_takeDoors_14 : decode cX6_takeDoors 14 = .ok (.iconst 0, 1) := by decide +kernel
theorem dX6_takeDoors_15 : decode cX6_takeDoors 15 = .ok (.istore_n 2, 1) := by decide +kernel
theorem dX6_takeDoors_16 : decode cX6_takeDoors 16 = .ok (.iload_n 2, 1) := by decide +kernel
theorem dX6_takeDoors_17 : decode cX6_takeDoors 17 = .ok (.aload_n 0, 1) := by decide +kernel
theorem dX6_takeDoors_18 : decode cX6_takeDoors 18 = .ok (.getfield 27, 3) := by decide +kernel
theorem dX6_takeDoors_21 : decode cX6_takeDoors 21 = .ok (.getfield 83, 3) := by decide +kernel
theorem dX6_takeDoors_24 : decode cX6_takeDoors 24 = .ok (.if_icmp .ge 46, 3) := by decide +kernel
theorem dX6_takeDoors_27 : decode cX6_takeDoors 27 = .ok (.iload_n 1, 1) := by decide +kernel
theorem dX6_takeDoors_28 : decode cX6_takeDoors 28 = .ok (.iload_n 2, 1) := by decide +kernel
theorem dX6_takeDoors_29 : decode cX6_takeDoors 29 = .ok (.invokestatic 72, 3) := by decide +kernel
theorem dX6_takeDoors_32 : decode cX6_takeDoors 32 = .ok (.ifCond .eq 32, 3) := by decide +kernel
theorem dX6_takeDoors_35 : decode cX6_takeDoors 35 = .ok (.aload_n 0, 1) := by decide +kernel
theorem dX6_takeDoors_36 : decode cX6_takeDoors 36 = .ok (.getfield 35, 3) := by decide +kernel
theorem dX6_takeDoors_39 : decode cX6_takeDoors 39 = .ok (.bipush 6, 2) := by decide +kernel
theorem dX6_takeDoors_41 : decode cX6_takeDoors 41 = .ok (.if_icmp .ge 23, 3) := by decide +kernel
theorem dX6_takeDoors_44 : decode cX6_takeDoors 44 = .ok (.aload_n 0, 1) := by decide +kernel
theorem dX6_takeDoors_45 : decode cX6_takeDoors 45 = .ok (.getfield 11, 3) := by decide +kernel
theorem dX6_takeDoors_48 : decode cX6_takeDoors 48 = .ok (.aload_n 0, 1) := by decide +kernel
theorem dX6_takeDoors_49 : decode cX6_takeDoors 49 = .ok (.getfield 35, 3) := by decide +kernel
theorem dX6_takeDoors_52 : decode cX6_takeDoors 52 = .ok (.iload_n 2, 1) := by decide +kernel
theorem dX6_takeDoors_53 : decode cX6_takeDoors 53 = .ok (.iastore, 1) := by decide +kernel
theorem dX6_takeDoors_54 : decode cX6_takeDoors 54 = .ok (.aload_n 0, 1) := by decide +kernel
theorem dX6_takeDoors_55 : decode cX6_takeDoors 55 = .ok (.dup, 1) := by decide +kernel
theorem dX6_takeDoors_56 : decode cX6_takeDoors 56 = .ok (.getfield 35, 3) := by decide +kernel
theorem dX6_takeDoors_59 : decode cX6_takeDoors 59 = .ok (.iconst 1, 1) := by decide +kernel
theorem dX6_takeDoors_60 : decode cX6_takeDoors 60 = .ok (.iadd, 1) := by decide +kernel
theorem dX6_takeDoors_61 : decode cX6_takeDoors 61 = .ok (.putfield 35, 3) := by decide +kernel
theorem dX6_takeDoors_64 : decode cX6_takeDoors 64 = .ok (.iinc 2 1, 3) := by decide +kernel
theorem dX6_takeDoors_67 : decode cX6_takeDoors 67 = .ok (.goto (-51), 3) := by decide +kernel
theorem dX6_takeDoors_70 : decode cX6_takeDoors 70 = .ok (.aload_n 0, 1) := by decide +kernel
theorem dX6_takeDoors_71 : decode cX6_takeDoors 71 = .ok (.aload_n 0, 1) := by decide +kernel
theorem dX6_takeDoors_72 : decode cX6_takeDoors 72 = .ok (.getfield 27, 3) := by decide +kernel
theorem dX6_takeDoors_75 : decode cX6_takeDoors 75 = .ok (.invokevirtual 86, 3) := by decide +kernel
theorem dX6_takeDoors_78 : decode cX6_takeDoors 78 = .ok (.iload_n 1, 1) := by decide +kernel
theorem dX6_takeDoors_79 : decode cX6_takeDoors 79 = .ok (.iconst (-1), 1) := by decide +kernel
theorem dX6_takeDoors_80 : decode cX6_takeDoors 80 = .ok (.ixor, 1) := by decide +kernel
theorem dX6_takeDoors_81 : decode cX6_takeDoors 81 = .ok (.iand, 1) := by decide +kernel
theorem dX6_takeDoors_82 : decode cX6_takeDoors 82 = .ok (.putfield 39, 3) := by decide +kernel
theorem dX6_takeDoors_85 : decode cX6_takeDoors 85 = .ok (.return_, 1) := by decide +kernel
theorem dX6_doorsShutNow_0 : decode cX6_doorsShutNow 0 = .ok (.iconst 0, 1) := by decide +kernel
theorem dX6_doorsShutNow_1 : decode cX6_doorsShutNow 1 = .ok (.istore_n 1, 1) := by decide +kernel
theorem dX6_doorsShutNow_2 : decode cX6_doorsShutNow 2 = .ok (.iconst 0, 1) := by decide +kernel
theorem dX6_doorsShutNow_3 : decode cX6_doorsShutNow 3 = .ok (.istore_n 2, 1) := by decide +kernel
theorem dX6_doorsShutNow_4 : decode cX6_doorsShutNow 4 = .ok (.iload_n 2, 1) := by decide +kernel
theorem dX6_doorsShutNow_5 : decode cX6_doorsShutNow 5 = .ok (.aload_n 0, 1) := by decide +kernel
theorem dX6_doorsShutNow_6 : decode cX6_doorsShutNow 6 = .ok (.getfield 35, 3) := by decide +kernel
theorem dX6_doorsShutNow_9 : decode cX6_doorsShutNow 9 = .ok (.if_icmp .ge 32, 3) := by decide +kernel
theorem dX6_doorsShutNow_12 : decode cX6_doorsShutNow 12 = .ok (.aload_n 0, 1) := by decide +kernel
theorem dX6_doorsShutNow_13 : decode cX6_doorsShutNow 13 = .ok (.getfield 27, 3) := by decide +kernel
theorem dX6_doorsShutNow_16 : decode cX6_doorsShutNow 16 = .ok (.aload_n 0, 1) := by decide +kernel
theorem dX6_doorsShutNow_17 : decode cX6_doorsShutNow 17 = .ok (.getfield 11, 3) := by decide +kernel
theorem dX6_doorsShutNow_20 : decode cX6_doorsShutNow 20 = .ok (.iload_n 2, 1) := by decide +kernel
theorem dX6_doorsShutNow_21 : decode cX6_doorsShutNow 21 = .ok (.iaload, 1) := by decide +kernel
theorem dX6_doorsShutNow_22 : decode cX6_doorsShutNow 22 = .ok (.iconst 5, 1) := by decide +kernel
theorem dX6_doorsShutNow_23 : decode cX6_doorsShutNow 23 = .ok (.invokevirtual 89, 3) := by decide +kernel
theorem dX6_doorsShutNow_26 : decode cX6_doorsShutNow 26 = .ok (.ifCond .eq 9, 3) := by decide +kernel
theorem dX6_doorsShutNow_29 : decode cX6_doorsShutNow 29 = .ok (.iload_n 1, 1) := by decide +kernel
theorem dX6_doorsShutNow_30 : decode cX6_doorsShutNow 30 = .ok (.iconst 1, 1) := by decide +kernel
theorem dX6_doorsShutNow_31 : decode cX6_doorsShutNow 31 = .ok (.iload_n 2, 1) := by decide +kernel
theorem dX6_doorsShutNow_32 : decode cX6_doorsShutNow 32 = .ok (.ishl, 1) := by decide +kernel
theorem dX6_doorsShutNow_33 : decode cX6_doorsShutNow 33 = .ok (.ior, 1) := by decide +kernel
theorem dX6_doorsShutNow_34 : decode cX6_doorsShutNow 34 = .ok (.istore_n 1, 1) := by decide +kernel
theorem dX6_doorsShutNow_35 : decode cX6_doorsShutNow 35 = .ok (.iinc 2 1, 3) := by decide +kernel
theorem dX6_doorsShutNow_38 : decode cX6_doorsShutNow 38 = .ok (.goto (-34), 3) := by decide +kernel
theorem dX6_doorsShutNow_41 : decode cX6_doorsShutNow 41 = .ok (.iload_n 1, 1) := by decide +kernel
theorem dX6_doorsShutNow_42 : decode cX6_doorsShutNow 42 = .ok (.ireturn, 1) := by decide +kernel
theorem dX6_shownIf_0 : decode cX6_shownIf 0 = .ok (.aload_n 0, 1) := by decide +kernel
theorem dX6_shownIf_1 : decode cX6_shownIf 1 = .ok (.getfield 39, 3) := by decide +kernel
theorem dX6_shownIf_4 : decode cX6_shownIf 4 = .ok (.istore_n 2, 1) := by decide +kernel
theorem dX6_shownIf_5 : decode cX6_shownIf 5 = .ok (.iconst 0, 1) := by decide +kernel
theorem dX6_shownIf_6 : decode cX6_shownIf 6 = .ok (.istore_n 3, 1) := by decide +kernel
theorem dX6_shownIf_7 : decode cX6_shownIf 7 = .ok (.iload_n 3, 1) := by decide +kernel
theorem dX6_shownIf_8 : decode cX6_shownIf 8 = .ok (.aload_n 0, 1) := by decide +kernel
theorem dX6_shownIf_9 : decode cX6_shownIf 9 = .ok (.getfield 35, 3) := by decide +kernel
theorem dX6_shownIf_12 : decode cX6_shownIf 12 = .ok (.if_icmp .ge 28, 3) := by decide +kernel
theorem dX6_shownIf_15 : decode cX6_shownIf 15 = .ok (.iload_n 1, 1) := by decide +kernel
theorem dX6_shownIf_16 : decode cX6_shownIf 16 = .ok (.iload_n 3, 1) := by decide +kernel
theorem dX6_shownIf_17 : decode cX6_shownIf 17 = .ok (.ishr, 1) := by decide +kernel
theorem dX6_shownIf_18 : decode cX6_shownIf 18 = .ok (.iconst 1, 1) := by decide +kernel
theorem dX6_shownIf_19 : decode cX6_shownIf 19 = .ok (.iand, 1) := by decide +kernel
theorem dX6_shownIf_20 : decode cX6_shownIf 20 = .ok (.ifCond .eq 14, 3) := by decide +kernel
theorem dX6_shownIf_23 : decode cX6_shownIf 23 = .ok (.iload_n 2, 1) := by decide +kernel
theorem dX6_shownIf_24 : decode cX6_shownIf 24 = .ok (.iconst 1, 1) := by decide +kernel
theorem dX6_shownIf_25 : decode cX6_shownIf 25 = .ok (.aload_n 0, 1) := by decide +kernel
theorem dX6_shownIf_26 : decode cX6_shownIf 26 = .ok (.getfield 11, 3) := by decide +kernel
theorem dX6_shownIf_29 : decode cX6_shownIf 29 = .ok (.iload_n 3, 1) := by decide +kernel
theorem dX6_shownIf_30 : decode cX6_shownIf 30 = .ok (.iaload, 1) := by decide +kernel
theorem dX6_shownIf_31 : decode cX6_shownIf 31 = .ok (.ishl, 1) := by decide +kernel
theorem dX6_shownIf_32 : decode cX6_shownIf 32 = .ok (.ior, 1) := by decide +kernel
theorem dX6_shownIf_33 : decode cX6_shownIf 33 = .ok (.istore_n 2, 1) := by decide +kernel
theorem dX6_shownIf_34 : decode cX6_shownIf 34 = .ok (.iinc 3 1, 3) := by decide +kernel
theorem dX6_shownIf_37 : decode cX6_shownIf 37 = .ok (.goto (-30), 3) := by decide +kernel
theorem dX6_shownIf_40 : decode cX6_shownIf 40 = .ok (.aload_n 0, 1) := by decide +kernel
theorem dX6_shownIf_41 : decode cX6_shownIf 41 = .ok (.getfield 27, 3) := by decide +kernel
theorem dX6_shownIf_44 : decode cX6_shownIf 44 = .ok (.iload_n 2, 1) := by decide +kernel
theorem dX6_shownIf_45 : decode cX6_shownIf 45 = .ok (.invokevirtual 92, 3) := by decide +kernel
theorem dX6_shownIf_48 : decode cX6_shownIf 48 = .ok (.ireturn, 1) := by decide +kernel
theorem dX6_focusIn_0 : decode cX6_focusIn 0 = .ok (.iload_n 0, 1) := by decide +kernel
theorem dX6_focusIn_1 : decode cX6_focusIn 1 = .ok (.bipush 25, 2) := by decide +kernel
theorem dX6_focusIn_3 : decode cX6_focusIn 3 = .ok (.irem, 1) := by decide +kernel
theorem dX6_focusIn_4 : decode cX6_focusIn 4 = .ok (.iconst 1, 1) := by decide +kernel
theorem dX6_focusIn_5 : decode cX6_focusIn 5 = .ok (.isub, 1) := by decide +kernel
theorem dX6_focusIn_6 : decode cX6_focusIn 6 = .ok (.ireturn, 1) := by decide +kernel
theorem dX6_pressAllKeys_0 : decode cX6_pressAllKeys 0 = .ok (.iload_n 1, 1) := by decide +kernel
theorem dX6_pressAllKeys_1 : decode cX6_pressAllKeys 1 = .ok (.ifCond .lt 11, 3) := by decide +kernel
theorem dX6_pressAllKeys_4 : decode cX6_pressAllKeys 4 = .ok (.iload_n 1, 1) := by decide +kernel
theorem dX6_pressAllKeys_5 : decode cX6_pressAllKeys 5 = .ok (.aload_n 0, 1) := by decide +kernel
theorem dX6_pressAllKeys_6 : decode cX6_pressAllKeys 6 = .ok (.getfield 42, 3) := by decide +kernel
theorem dX6_pressAllKeys_9 : decode cX6_pressAllKeys 9 = .ok (.if_icmp .lt 4, 3) := by decide +kernel
theorem dX6_pressAllKeys_12 : decode cX6_pressAllKeys 12 = .ok (.return_, 1) := by decide +kernel
theorem dX6_pressAllKeys_13 : decode cX6_pressAllKeys 13 = .ok (.aload_n 0, 1) := by decide +kernel
theorem dX6_pressAllKeys_14 : decode cX6_pressAllKeys 14 = .ok (.getfield 15, 3) := by decide +kernel
theorem dX6_pressAllKeys_17 : decode cX6_pressAllKeys 17 = .ok (.iload_n 1, 1) := by decide +kernel
theorem dX6_pressAllKeys_18 : decode cX6_pressAllKeys 18 = .ok (.iaload, 1) := by decide +kernel
theorem dX6_pressAllKeys_19 : decode cX6_pressAllKeys 19 = .ok (.invokestatic 69, 3) := by decide +kernel
theorem dX6_pressAllKeys_22 : decode cX6_pressAllKeys 22 = .ok (.istore_n 2, 1) := by decide +kernel
theorem dX6_pressAllKeys_23 : decode cX6_pressAllKeys 23 = .ok (.aload_n 0, 1) := by decide +kernel
theorem dX6_pressAllKeys_24 : decode cX6_pressAllKeys 24 = .ok (.getfield 15, 3) := by decide +kernel
theorem dX6_pressAllKeys_27 : decode cX6_pressAllKeys 27 = .ok (.iload_n 1, 1) := by decide +kernel
theorem dX6_pressAllKeys_28 : decode cX6_pressAllKeys 28 = .ok (.iaload, 1) := by decide +kernel
theorem dX6_pressAllKeys_29 : decode cX6_pressAllKeys 29 = .ok (.bipush 25, 2) := by decide +kernel
theorem dX6_pressAllKeys_31 : decode cX6_pressAllKeys 31 = .ok (.idiv, 1) := by decide +kernel
theorem dX6_pressAllKeys_32 : decode cX6_pressAllKeys 32 = .ok (.istore_n 3, 1) := by decide +kernel
theorem dX6_pressAllKeys_33 : decode cX6_pressAllKeys 33 = .ok (.aload_n 0, 1) := by decide +kernel
theorem dX6_pressAllKeys_34 : decode cX6_pressAllKeys 34 = .ok (.iload_n 3, 1) := by decide +kernel
theorem dX6_pressAllKeys_35 : decode cX6_pressAllKeys 35 = .ok (.invokevirtual 95, 3) := by decide +kernel
theorem dX6_pressAllKeys_38 : decode cX6_pressAllKeys 38 = .ok (.istore 4, 2) := by decide +kernel
theorem dX6_pressAllKeys_40 : decode cX6_pressAllKeys 40 = .ok (.aload_n 0, 1) := by decide +kernel
theorem dX6_pressAllKeys_41 : decode cX6_pressAllKeys 41 = .ok (.iload_n 1, 1) := by decide +kernel
theorem dX6_pressAllKeys_42 : decode cX6_pressAllKeys 42 = .ok (.iconst 0, 1) := by decide +kernel
theorem dX6_pressAllKeys_43 : decode cX6_pressAllKeys 43 = .ok (.iload_n 3, 1) := by decide +kernel
theorem dX6_pressAllKeys_44 : decode cX6_pressAllKeys 44 = .ok (.aload_n 0, 1) := by decide +kernel
theorem dX6_pressAllKeys_45 : decode cX6_pressAllKeys 45 = .ok (.getfield 31, 3) := by decide +kernel
theorem dX6_pressAllKeys_48 : decode cX6_pressAllKeys 48 = .ok (.iload_n 2, 1) := by decide +kernel
theorem dX6_pressAllKeys_49 : decode cX6_pressAllKeys 49 = .ok (.iconst 0, 1) := by decide +kernel
theorem dX6_pressAllKeys_50 : decode cX6_pressAllKeys 50 = .ok (.iload 4, 2) := by decide +kernel
theorem dX6_pressAllKeys_52 : decode cX6_pressAllKeys 52 = .ok (.invokevirtual 98, 3) := by decide +kernel
theorem dX6_pressAllKeys_55 : decode cX6_pressAllKeys 55 = .ok (.invokevirtual 104, 3) := by decide +kernel
theorem dX6_pressAllKeys_58 : decode cX6_pressAllKeys 58 = .ok (.aload_n 0, 1) := by decide +kernel
theorem dX6_pressAllKeys_59 : decode cX6_pressAllKeys 59 = .ok (.iload_n 1, 1) := by decide +kernel
theorem dX6_pressAllKeys_60 : decode cX6_pressAllKeys 60 = .ok (.iconst 1, 1) := by decide +kernel
theorem dX6_pressAllKeys_61 : decode cX6_pressAllKeys 61 = .ok (.iload_n 3, 1) := by decide +kernel
theorem dX6_pressAllKeys_62 : decode cX6_pressAllKeys 62 = .ok (.aload_n 0, 1) := by decide +kernel
theorem dX6_pressAllKeys_63 : decode cX6_pressAllKeys 63 = .ok (.getfield 31, 3) := by decide +kernel
theorem dX6_pressAllKeys_66 : decode cX6_pressAllKeys 66 = .ok (.iload_n 2, 1) := by decide +kernel
theorem dX6_pressAllKeys_67 : decode cX6_pressAllKeys 67 = .ok (.iconst 1, 1) := by decide +kernel
theorem dX6_pressAllKeys_68 : decode cX6_pressAllKeys 68 = .ok (.iload 4, 2) := by decide +kernel
theorem dX6_pressAllKeys_70 : decode cX6_pressAllKeys 70 = .ok (.invokevirtual 98, 3) := by decide +kernel
theorem dX6_pressAllKeys_73 : decode cX6_pressAllKeys 73 = .ok (.invokevirtual 104, 3) := by decide +kernel
theorem dX6_pressAllKeys_76 : decode cX6_pressAllKeys 76 = .ok (.aload_n 0, 1) := by decide +kernel
theorem dX6_pressAllKeys_77 : decode cX6_pressAllKeys 77 = .ok (.iload_n 2, 1) := by decide +kernel
theorem dX6_pressAllKeys_78 : decode cX6_pressAllKeys 78 = .ok (.invokevirtual 107, 3) := by decide +kernel
theorem dX6_pressAllKeys_81 : decode cX6_pressAllKeys 81 = .ok (.istore 5, 2) := by decide +kernel
theorem dX6_pressAllKeys_83 : decode cX6_pressAllKeys 83 = .ok (.iload 5, 2) := by decide +kernel
theorem dX6_pressAllKeys_85 : decode cX6_pressAllKeys 85 = .ok (.iconst (-1), 1) := by decide +kernel
theorem dX6_pressAllKeys_86 : decode cX6_pressAllKeys 86 = .ok (.if_icmp .eq 37, 3) := by decide +kernel
theorem dX6_pressAllKeys_89 : decode cX6_pressAllKeys 89 = .ok (.iload_n 3, 1) := by decide +kernel
theorem dX6_pressAllKeys_90 : decode cX6_pressAllKeys 90 = .ok (.iconst 1, 1) := by decide +kernel
theorem dX6_pressAllKeys_91 : decode cX6_pressAllKeys 91 = .ok (.iload 5, 2) := by decide +kernel
theorem dX6_pressAllKeys_93 : decode cX6_pressAllKeys 93 = .ok (.ishl, 1) := by decide +kernel
theorem dX6_pressAllKeys_94 : decode cX6_pressAllKeys 94 = .ok (.ixor, 1) := by decide +kernel
theorem dX6_pressAllKeys_95 : decode cX6_pressAllKeys 95 = .ok (.istore 6, 2) := by decide +kernel
theorem dX6_pressAllKeys_97 : decode cX6_pressAllKeys 97 = .ok (.aload_n 0, 1) := by decide +kernel
theorem dX6_pressAllKeys_98 : decode cX6_pressAllKeys 98 = .ok (.iload_n 1, 1) := by decide +kernel
theorem dX6_pressAllKeys_99 : decode cX6_pressAllKeys 99 = .ok (.iconst 2, 1) := by decide +kernel
theorem dX6_pressAllKeys_100 : decode cX6_pressAllKeys 100 = .ok (.iload 6, 2) := by decide +kernel
theorem dX6_pressAllKeys_102 : decode cX6_pressAllKeys 102 = .ok (.aload_n 0, 1) := by decide +kernel
theorem dX6_pressAllKeys_103 : decode cX6_pressAllKeys 103 = .ok (.iload 6, 2) := by decide +kernel
theorem dX6_pressAllKeys_105 : decode cX6_pressAllKeys 105 = .ok (.invokevirtual 95, 3) := by decide +kernel
theorem dX6_pressAllKeys_108 : decode cX6_pressAllKeys 108 = .ok (.iload_n 2, 1) := by decide +kernel
theorem dX6_pressAllKeys_109 : decode cX6_pressAllKeys 109 = .ok (.invokestatic 72, 3) := by decide +kernel
theorem dX6_pressAllKeys_112 : decode cX6_pressAllKeys 112 = .ok (.ifCond .eq 7, 3) := by decide +kernel
theorem dX6_pressAllKeys_115 : decode cX6_pressAllKeys 115 = .ok (.iload_n 2, 1) := by decide +kernel
theorem dX6_pressAllKeys_116 : decode cX6_pressAllKeys 116 = .ok (.goto 4, 3) := by decide +kernel
theorem dX6_pressAllKeys_119 : decode cX6_pressAllKeys 119 = .ok (.iconst (-1), 1) := by decide +kernel
theorem dX6_pressAllKeys_120 : decode cX6_pressAllKeys 120 = .ok (.invokevirtual 104, 3) := by decide +kernel
theorem dX6_pressAllKeys_123 : decode cX6_pressAllKeys 123 = .ok (.return_, 1) := by decide +kernel
theorem dX6_doorOf_0 : decode cX6_doorOf 0 = .ok (.aload_n 0, 1) := by decide +kernel
theorem dX6_doorOf_1 : decode cX6_doorOf 1 = .ok (.getfield 27, 3) := by decide +kernel
theorem dX6_doorOf_4 : decode cX6_doorOf 4 = .ok (.iload_n 1, 1) := by decide +kernel
theorem dX6_doorOf_5 : decode cX6_doorOf 5 = .ok (.invokevirtual 110, 3) := by decide +kernel
theorem dX6_doorOf_8 : decode cX6_doorOf 8 = .ok (.istore_n 2, 1) := by decide +kernel
theorem dX6_doorOf_9 : decode cX6_doorOf 9 = .ok (.iconst 0, 1) := by decide +kernel
theorem dX6_doorOf_10 : decode cX6_doorOf 10 = .ok (.istore_n 3, 1) := by decide +kernel
theorem dX6_doorOf_11 : decode cX6_doorOf 11 = .ok (.iload_n 3, 1) := by decide +kernel
theorem dX6_doorOf_12 : decode cX6_doorOf 12 = .ok (.aload_n 0, 1) := by decide +kernel
theorem dX6_doorOf_13 : decode cX6_doorOf 13 = .ok (.getfield 35, 3) := by decide +kernel
theorem dX6_doorOf_16 : decode cX6_doorOf 16 = .ok (.if_icmp .ge 21, 3) := by decide +kernel
theorem dX6_doorOf_19 : decode cX6_doorOf 19 = .ok (.aload_n 0, 1) := by decide +kernel
theorem dX6_doorOf_20 : decode cX6_doorOf 20 = .ok (.getfield 11, 3) := by decide +kernel
theorem dX6_doorOf_23 : decode cX6_doorOf 23 = .ok (.iload_n 3, 1) := by decide +kernel
theorem dX6_doorOf_24 : decode cX6_doorOf 24 = .ok (.iaload, 1) := by decide +kernel
theorem dX6_doorOf_25 : decode cX6_doorOf 25 = .ok (.iload_n 2, 1) := by decide +kernel
theorem dX6_doorOf_26 : decode cX6_doorOf 26 = .ok (.if_icmp .ne 5, 3) := by decide +kernel
theorem dX6_doorOf_29 : decode cX6_doorOf 29 = .ok (.iload_n 3, 1) := by decide +kernel
theorem dX6_doorOf_30 : decode cX6_doorOf 30 = .ok (.ireturn, 1) := by decide +kernel
theorem dX6_doorOf_31 : decode cX6_doorOf 31 = .ok (.iinc 3 1, 3) := by decide +kernel
theorem dX6_doorOf_34 : decode cX6_doorOf 34 = .ok (.goto (-23), 3) := by decide +kernel
theorem dX6_doorOf_37 : decode cX6_doorOf 37 = .ok (.iconst (-1), 1) := by decide +kernel
theorem dX6_doorOf_38 : decode cX6_doorOf 38 = .ok (.ireturn, 1) := by decide +kernel
theorem dX6_comeFrom_0 : decode cX6_comeFrom 0 = .ok (.iload_n 1, 1) := by decide +kernel
theorem dX6_comeFrom_1 : decode cX6_comeFrom 1 = .ok (.ifCond .lt 45, 3) := by decide +kernel
theorem dX6_comeFrom_4 : decode cX6_comeFrom 4 = .ok (.iload_n 1, 1) := by decide +kernel
theorem dX6_comeFrom_5 : decode cX6_comeFrom 5 = .ok (.aload_n 0, 1) := by decide +kernel
theorem dX6_comeFrom_6 : decode cX6_comeFrom 6 = .ok (.getfield 42, 3) := by decide +kernel
theorem dX6_comeFrom_9 : decode cX6_comeFrom 9 = .ok (.if_icmp .ge 37, 3) := by decide +kernel
theorem dX6_comeFrom_12 : decode cX6_comeFrom 12 = .ok (.aload_n 0, 1) := by decide +kernel
theorem dX6_comeFrom_13 : decode cX6_comeFrom 13 = .ok (.iload_n 3, 1) := by decide +kernel
theorem dX6_comeFrom_14 : decode cX6_comeFrom 14 = .ok (.iload 4, 2) := by decide +kernel
theorem dX6_comeFrom_16 : decode cX6_comeFrom 16 = .ok (.aload_n 0, 1) := by decide +kernel
theorem dX6_comeFrom_17 : decode cX6_comeFrom 17 = .ok (.getfield 18, 3) := by decide +kernel
theorem dX6_comeFrom_20 : decode cX6_comeFrom 20 = .ok (.iload_n 1, 1) := by decide +kernel
theorem dX6_comeFrom_21 : decode cX6_comeFrom 21 = .ok (.iaload, 1) := by decide +kernel
theorem dX6_comeFrom_22 : decode cX6_comeFrom 22 = .ok (.iconst 1, 1) := by decide +kernel
theorem dX6_comeFrom_23 : decode cX6_comeFrom 23 = .ok (.iadd, 1) := by decide +kernel
theorem dX6_comeFrom_24 : decode cX6_comeFrom 24 = .ok (.aload_n 0, 1) := by decide +kernel
theorem dX6_comeFrom_25 : decode cX6_comeFrom 25 = .ok (.getfield 18, 3) := by decide +kernel
theorem dX6_comeFrom_28 : decode cX6_comeFrom 28 = .ok (.iload_n 1, 1) := by decide +kernel
theorem dX6_comeFrom_29 : decode cX6_comeFrom 29 = .ok (.iaload, 1) := by decide +kernel
theorem dX6_comeFrom_30 : decode cX6_comeFrom 30 = .ok (.ifCond .ne 7, 3) := by decide +kernel
theorem dX6_comeFrom_33 : decode cX6_comeFrom 33 = .ok (.iload_n 2, 1) := by decide +kernel
theorem dX6_comeFrom_34 : decode cX6_comeFrom 34 = .ok (.goto 9, 3) := by decide +kernel
theorem dX6_comeFrom_37 : decode cX6_comeFrom 37 = .ok (.aload_n 0, 1) := by decide +kernel
theorem dX6_comeFrom_38 : decode cX6_comeFrom 38 = .ok (.getfield 21, 3) := by decide +kernel
theorem dX6_comeFrom_41 : decode cX6_comeFrom 41 = .ok (.iload_n 1, 1) := by decide +kernel
theorem dX6_comeFrom_42 : decode cX6_comeFrom 42 = .ok (.iaload, 1) := by decide +kernel
theorem dX6_comeFrom_43 : decode cX6_comeFrom 43 = .ok (.invokevirtual 65, 3) := by decide +kernel
theorem dX6_comeFrom_46 : decode cX6_comeFrom 46 = .ok (.return_, 1) := by decide +kernel
theorem dX6_come_0 : decode cX6_come 0 = .ok (.iload_n 1, 1) := by decide +kernel
theorem dX6_come_1 : decode cX6_come 1 = .ok (.bipush 25, 2) := by decide +kernel
theorem dX6_come_3 : decode cX6_come 3 = .ok (.imul, 1) := by decide +kernel
theorem dX6_come_4 : decode cX6_come 4 = .ok (.iload_n 2, 1) := by decide +kernel
theorem dX6_come_5 : decode cX6_come 5 = .ok (.iadd, 1) := by decide +kernel
theorem dX6_come_6 : decode cX6_come 6 = .ok (.iconst 1, 1) := by decide +kernel
theorem dX6_come_7 : decode cX6_come 7 = .ok (.iadd, 1) := by decide +kernel
theorem dX6_come_8 : decode cX6_come 8 = .ok (.istore 5, 2) := by decide +kernel
theorem dX6_come_10 : decode cX6_come 10 = .ok (.iload 5, 2) := by decide +kernel
theorem dX6_come_12 : decode cX6_come 12 = .ok (.ifCond .lt 88, 3) := by decide +kernel
theorem dX6_come_15 : decode cX6_come 15 = .ok (.iload 5, 2) := by decide +kernel
theorem dX6_come_17 : decode cX6_come 17 = .ok (.sipush 1600, 3) := by decide +kernel
theorem dX6_come_20 : decode cX6_come 20 = .ok (.if_icmp .ge 80, 3) := by decide +kernel
theorem dX6_come_23 : decode cX6_come 23 = .ok (.aload_n 0, 1) := by decide +kernel
theorem dX6_come_24 : decode cX6_come 24 = .ok (.getfield 24, 3) := by decide +kernel
theorem dX6_come_27 : decode cX6_come 27 = .ok (.iload 5, 2) := by decide +kernel
theorem dX6_come_29 : decode cX6_come 29 = .ok (.iaload, 1) := by decide +kernel
theorem dX6_come_30 : decode cX6_come 30 = .ok (.aload_n 0, 1) := by decide +kernel
theorem dX6_come_31 : decode cX6_come 31 = .ok (.getfield 45, 3) := by decide +kernel
theorem dX6_come_34 : decode cX6_come 34 = .ok (.if_icmp .eq 66, 3) := by decide +kernel
theorem dX6_come_37 : decode cX6_come 37 = .ok (.aload_n 0, 1) := by decide +kernel
theorem dX6_come_38 : decode cX6_come 38 = .ok (.getfield 42, 3) := by decide +kernel
theorem dX6_come_41 : decode cX6_come 41 = .ok (.sipush 1600, 3) := by decide +kernel
theorem dX6_come_44 : decode cX6_come 44 = .ok (.if_icmp .ge 56, 3) := by decide +kernel
theorem dX6_come_47 : decode cX6_come 47 = .ok (.aload_n 0, 1) := by decide +kernel
theorem dX6_come_48 : decode cX6_come 48 = .ok (.getfield 24, 3) := by decide +kernel
theorem dX6_come_51 : decode cX6_come 51 = .ok (.iload 5, 2) := by decide +kernel
theorem dX6_come_53 : decode cX6_come 53 = .ok (.aload_n 0, 1) := by decide +kernel
theorem dX6_come_54 : decode cX6_come 54 = .ok (.getfield 45, 3) := by decide +kernel
theorem dX6_come_57 : decode cX6_come 57 = .ok (.iastore, 1) := by decide +kernel
theorem dX6_come_58 : decode cX6_come 58 = .ok (.aload_n 0, 1) := by decide +kernel
theorem dX6_come_59 : decode cX6_come 59 = .ok (.getfield 15, 3) := by decide +kernel
theorem dX6_come_62 : decode cX6_come 62 = .ok (.aload_n 0, 1) := by decide +kernel
theorem dX6_come_63 : decode cX6_come 63 = .ok (.getfield 42, 3) := by decide +kernel
theorem dX6_come_66 : decode cX6_come 66 = .ok (.iload 5, 2) := by decide +kernel
theorem dX6_come_68 : decode cX6_come 68 = .ok (.iastore, 1) := by decide +kernel
theorem dX6_come_69 : decode cX6_come 69 = .ok (.aload_n 0, 1) := by decide +kernel
theorem dX6_come_70 : decode cX6_come 70 = .ok (.getfield 18, 3) := by decide +kernel
theorem dX6_come_73 : decode cX6_come 73 = .ok (.aload_n 0, 1) := by decide +kernel
theorem dX6_come_74 : decode cX6_come 74 = .ok (.getfield 42, 3) := by decide +kernel
theorem dX6_come_77 : decode cX6_come 77 = .ok (.iload_n 3, 1) := by decide +kernel
theorem dX6_come_78 : decode cX6_come 78 = .ok (.iastore, 1) := by decide +kernel
theorem dX6_come_79 : decode cX6_come 79 = .ok (.aload_n 0, 1) := by decide +kernel
theorem dX6_come_80 : decode cX6_come 80 = .ok (.getfield 21, 3) := by decide +kernel
theorem dX6_come_83 : decode cX6_come 83 = .ok (.aload_n 0, 1) := by decide +kernel
theorem dX6_come_84 : decode cX6_come 84 = .ok (.getfield 42, 3) := by decide +kernel
theorem dX6_come_87 : decode cX6_come 87 = .ok (.iload 4, 2) := by decide +kernel
theorem dX6_come_89 : decode cX6_come 89 = .ok (.iastore, 1) := by decide +kernel
theorem dX6_come_90 : decode cX6_come 90 = .ok (.aload_n 0, 1) := by decide +kernel
theorem dX6_come_91 : decode cX6_come 91 = .ok (.dup, 1) := by decide +kernel
theorem dX6_come_92 : decode cX6_come 92 = .ok (.getfield 42, 3) := by decide +kernel
theorem dX6_come_95 : decode cX6_come 95 = .ok (.iconst 1, 1) := by decide +kernel
theorem dX6_come_96 : decode cX6_come 96 = .ok (.iadd, 1) := by decide +kernel
theorem dX6_come_97 : decode cX6_come 97 = .ok (.putfield 42, 3) := by decide +kernel
theorem dX6_come_100 : decode cX6_come 100 = .ok (.return_, 1) := by decide +kernel
theorem dX7_init_0 : decode cX7_init 0 = .ok (.aload_n 0, 1) := by decide +kernel
theorem dX7_init_1 : decode cX7_init 1 = .ok (.invokespecial 1, 3) := by decide +kernel
theorem dX7_init_4 : decode cX7_init 4 = .ok (.aload_n 0, 1) := by decide +kernel
theorem dX7_init_5 : decode cX7_init 5 = .ok (.new 7, 3) := by decide +kernel
theorem dX7_init_8 : decode cX7_init 8 = .ok (.dup, 1) := by decide +kernel
theorem dX7_init_9 : decode cX7_init 9 = .ok (.invokespecial 9, 3) := by decide +kernel
theorem dX7_init_12 : decode cX7_init 12 = .ok (.putfield 10, 3) := by decide +kernel
theorem dX7_init_15 : decode cX7_init 15 = .ok (.aload_n 0, 1) := by decide +kernel
theorem dX7_init_16 : decode cX7_init 16 = .ok (.new 16, 3) := by decide +kernel
theorem dX7_init_19 : decode cX7_init 19 = .ok (.dup, 1) := by decide +kernel
theorem dX7_init_20 : decode cX7_init 20 = .ok (.aload_n 0, 1) := by decide +kernel
theorem dX7_init_21 : decode cX7_init 21 = .ok (.getfield 10, 3) := by decide +kernel
theorem dX7_init_24 : decode cX7_init 24 = .ok (.invokespecial 18, 3) := by decide +kernel
theorem dX7_init_27 : decode cX7_init 27 = .ok (.putfield 21, 3) := by decide +kernel
theorem dX7_init_30 : decode cX7_init 30 = .ok (.aload_n 0, 1) := by decide +kernel
theorem dX7_init_31 : decode cX7_init 31 = .ok (.new 25, 3) := by decide +kernel
theorem dX7_init_34 : decode cX7_init 34 = .ok (.dup, 1) := by decide +kernel
theorem dX7_init_35 : decode cX7_init 35 = .ok (.aload_n 0, 1) := by decide +kernel
theorem dX7_init_36 : decode cX7_init 36 = .ok (.getfield 10, 3) := by decide +kernel
theorem dX7_init_39 : decode cX7_init 39 = .ok (.invokespecial 27, 3) := by decide +kernel
theorem dX7_init_42 : decode cX7_init 42 = .ok (.putfield 28, 3) := by decide +kernel
theorem dX7_init_45 : decode cX7_init 45 = .ok (.aload_n 0, 1) := by decide +kernel
theorem dX7_init_46 : decode cX7_init 46 = .ok (.new 32, 3) := by decide +kernel
theorem dX7_init_49 : decode cX7_init 49 = .ok (.dup, 1) := by decide +kernel
theorem dX7_init_50 : decode cX7_init 50 = .ok (.aload_n 0, 1) := by decide +kernel
theorem dX7_init_51 : decode cX7_init 51 = .ok (.getfield 10, 3) := by decide +kernel
theorem dX7_init_54 : decode cX7_init 54 = .ok (.invokespecial 34, 3) := by decide +kernel
theorem dX7_init_57 : decode cX7_init 57 = .ok (.putfield 35, 3) := by decide +kernel
theorem dX7_init_60 : decode cX7_init 60 = .ok (.aload_n 0, 1) := by decide +kernel
theorem dX7_init_61 : decode cX7_init 61 = .ok (.new 39, 3) := by decide +kernel
theorem dX7_init_64 : decode cX7_init 64 = .ok (.dup, 1) := by decide +kernel
theorem dX7_init_65 : decode cX7_init 65 = .ok (.aload_n 0, 1) := by decide +kernel
theorem dX7_init_66 : decode cX7_init 66 = .ok (.getfield 10, 3) := by decide +kernel
theorem dX7_init_69 : decode cX7_init 69 = .ok (.aload_n 0, 1) := by decide +kernel
theorem dX7_init_70 : decode cX7_init 70 = .ok (.getfield 35, 3) := by decide +kernel
theorem dX7_init_73 : decode cX7_init 73 = .ok (.invokespecial 41, 3) := by decide +kernel
theorem dX7_init_76 : decode cX7_init 76 = .ok (.putfield 44, 3) := by decide +kernel
theorem dX7_init_79 : decode cX7_init 79 = .ok (.aload_n 0, 1) := by decide +kernel
theorem dX7_init_80 : decode cX7_init 80 = .ok (.new 48, 3) := by decide +kernel
theorem dX7_init_83 : decode cX7_init 83 = .ok (.dup, 1) := by decide +kernel
theorem dX7_init_84 : decode cX7_init 84 = .ok (.aload_n 0, 1) := by decide +kernel
theorem dX7_init_85 : decode cX7_init 85 = .ok (.getfield 10, 3) := by decide +kernel
theorem dX7_init_88 : decode cX7_init 88 = .ok (.aload_n 0, 1) := by decide +kernel
theorem dX7_init_89 : decode cX7_init 89 = .ok (.getfield 21, 3) := by decide +kernel
theorem dX7_init_92 : decode cX7_init 92 = .ok (.aload_n 0, 1) := by decide +kernel
theorem dX7_init_93 : decode cX7_init 93 = .ok (.getfield 28, 3) := by decide +kernel
theorem dX7_init_96 : decode cX7_init 96 = .ok (.invokespecial 50, 3) := by decide +kernel
theorem dX7_init_99 : decode cX7_init 99 = .ok (.putfield 53, 3) := by decide +kernel
theorem dX7_init_102 : decode cX7_init 102 = .ok (.aload_n 0, 1) := by decide +kernel
theorem dX7_init_103 : decode cX7_init 103 = .ok (.new 57, 3) := by decide +kernel
theorem dX7_init_106 : decode cX7_init 106 = .ok (.dup, 1) := by decide +kernel
theorem dX7_init_107 : decode cX7_init 107 = .ok (.invokespecial 59, 3) := by decide +kernel
theorem dX7_init_110 : decode cX7_init 110 = .ok (.putfield 60, 3) := by decide +kernel
theorem dX7_init_113 : decode cX7_init 113 = .ok (.aload_n 0, 1) := by decide +kernel
theorem dX7_init_114 : decode cX7_init 114 = .ok (.iconst (-1), 1) := by decide +kernel
theorem dX7_init_115 : decode cX7_init 115 = .ok (.putfield 64, 3) := by decide +kernel
theorem dX7_init_118 : decode cX7_init 118 = .ok (.return_, 1) := by decide +kernel
theorem dX7_part_0 : decode cX7_part 0 = .ok (.aload_n 0, 1) := by decide +kernel
theorem dX7_part_1 : decode cX7_part 1 = .ok (.getfield 10, 3) := by decide +kernel
theorem dX7_part_4 : decode cX7_part 4 = .ok (.iload_n 1, 1) := by decide +kernel
theorem dX7_part_5 : decode cX7_part 5 = .ok (.invokevirtual 68, 3) := by decide +kernel
theorem dX7_part_8 : decode cX7_part 8 = .ok (.ifCond .ne 6, 3) := by decide +kernel
theorem dX7_part_11 : decode cX7_part 11 = .ok (.bipush (-101), 2) := by decide +kernel
theorem dX7_part_13 : decode cX7_part 13 = .ok (.ireturn, 1) := by decide +kernel
theorem dX7_part_14 : decode cX7_part 14 = .ok (.iload_n 2, 1) := by decide +kernel
theorem dX7_part_15 : decode cX7_part 15 = .ok (.ifCond .lt 9, 3) := by decide +kernel
theorem dX7_part_18 : decode cX7_part 18 = .ok (.iload_n 2, 1) := by decide +kernel
theorem dX7_part_19 : decode cX7_part 19 = .ok (.bipush 6, 2) := by decide +kernel
theorem dX7_part_21 : decode cX7_part 21 = .ok (.if_icmp .le 6, 3) := by decide +kernel
theorem dX7_part_24 : decode cX7_part 24 = .ok (.bipush (-102), 2) := by decide +kernel
theorem dX7_part_26 : decode cX7_part 26 = .ok (.ireturn, 1) := by decide +kernel
theorem dX7_part_27 : decode cX7_part 27 = .ok (.aload_n 0, 1) := by decide +kernel
theorem dX7_part_28 : decode cX7_part 28 = .ok (.getfield 10, 3) := by decide +kernel
theorem dX7_part_31 : decode cX7_part 31 = .ok (.invokevirtual 72, 3) := by decide +kernel
theorem dX7_part_34 : decode cX7_part 34 = .ok (.ifCond .eq 6, 3) := by decide +kernel
theorem dX7_part_37 : decode cX7_part 37 = .ok (.bipush (-104), 2) := by decide +kernel
theorem dX7_part_39 : decode cX7_part 39 = .ok (.ireturn, 1) := by decide +kernel
theorem dX7_part_40 : decode cX7_part 40 = .ok (.aload_n 0, 1) := by decide +kernel
theorem dX7_part_41 : decode cX7_part 41 = .ok (.getfield 10, 3) := by decide +kernel
theorem dX7_part_44 : decode cX7_part 44 = .ok (.iload_n 1, 1) := by decide +kernel
theorem dX7_part_45 : decode cX7_part 45 = .ok (.iload_n 2, 1) := by decide +kernel
theorem dX7_part_46 : decode cX7_part 46 = .ok (.invokevirtual 76, 3) := by decide +kernel
theorem dX7_part_49 : decode cX7_part 49 = .ok (.istore_n 3, 1) := by decide +kernel
theorem dX7_part_50 : decode cX7_part 50 = .ok (.aload_n 0, 1) := by decide +kernel
theorem dX7_part_51 : decode cX7_part 51 = .ok (.getfield 35, 3) := by decide +kernel
theorem dX7_part_54 : decode cX7_part 54 = .ok (.invokevirtual 80, 3) := by decide +kernel
theorem dX7_part_57 : decode cX7_part 57 = .ok (.iload_n 3, 1) := by decide +kernel
theorem dX7_part_58 : decode cX7_part 58 = .ok (.ireturn, 1) := by decide +kernel
theorem dX7_set_0 : decode cX7_set 0 = .ok (.aload_n 0, 1) := by decide +kernel
theorem dX7_set_1 : decode cX7_set 1 = .ok (.getfield 10, 3) := by decide +kernel
theorem dX7_set_4 : decode cX7_set 4 = .ok (.iload_n 1, 1) := by decide +kernel
theorem dX7_set_5 : decode cX7_set 5 = .ok (.invokevirtual 68, 3) := by decide +kernel
theorem dX7_set_8 : decode cX7_set 8 = .ok (.ifCond .ne 6, 3) := by decide +kernel
theorem dX7_set_11 : decode cX7_set 11 = .ok (.bipush (-101), 2) := by decide +kernel
theorem dX7_set_13 : decode cX7_set 13 = .ok (.ireturn, 1) := by decide +kernel
theorem dX7_set_14 : decode cX7_set 14 = .ok (.aload_n 0, 1) := by decide +kernel
theorem dX7_set_15 : decode cX7_set 15 = .ok (.getfield 10, 3) := by decide +kernel
theorem dX7_set_18 : decode cX7_set 18 = .ok (.iload_n 2, 1) := by decide +kernel
theorem dX7_set_19 : decode cX7_set 19 = .ok (.iload_n 3, 1) := by decide +kernel
theorem dX7_set_20 : decode cX7_set 20 = .ok (.invokevirtual 83, 3) := by decide +kernel
theorem dX7_set_23 : decode cX7_set 23 = .ok (.ifCond .ne 6, 3) := by decide +kernel
theorem dX7_set_26 : decode cX7_set 26 = .ok (.bipush (-102), 2) := by decide +kernel
theorem dX7_set_28 : decode cX7_set 28 = .ok (.ireturn, 1) := by decide +kernel
theorem dX7_set_29 : decode cX7_set 29 = .ok (.iload_n 1, 1) := by decide +kernel
theorem dX7_set_30 : decode cX7_set 30 = .ok (.ifCond .ne 11, 3) := by decide +kernel
theorem dX7_set_33 : decode cX7_set 33 = .ok (.iload_n 2, 1) := by decide +kernel
theorem dX7_set_34 : decode cX7_set 34 = .ok (.iconst 5, 1) := by decide +kernel
theorem dX7_set_35 : decode cX7_set 35 = .ok (.if_icmp .ne 6, 3) := by decide +kernel
theorem dX7_set_38 : decode cX7_set 38 = .ok (.bipush (-103), 2) := by decide +kernel
theorem dX7_set_40 : decode cX7_set 40 = .ok (.ireturn, 1) := by decide +kernel
theorem dX7_set_41 : decode cX7_set 41 = .ok (.iload_n 2, 1) := by decide +kernel
theorem dX7_set_42 : decode cX7_set 42 = .ok (.bipush 7, 2) := by decide +kernel
theorem dX7_set_44 : decode cX7_set 44 = .ok (.if_icmp .ne 15, 3) := by decide +kernel
theorem dX7_set_47 : decode cX7_set 47 = .ok (.aload_n 0, 1) := by decide +kernel
theorem dX7_set_48 : decode cX7_set 48 = .ok (.iload_n 1, 1) := by decide +kernel
theorem dX7_set_49 : decode cX7_set 49 = .ok (.iload_n 3, 1) := by decide +kernel
theorem dX7_set_50 : decode cX7_set 50 = .ok (.invokevirtual 87, 3) := by decide +kernel
theorem dX7_set_53 : decode cX7_set 53 = .ok (.ifCond .eq 6, 3) := by decide +kernel
theorem dX7_set_56 : decode cX7_set 56 = .ok (.bipush (-104), 2) := by decide +kernel
theorem dX7_set_58 : decode cX7_set 58 = .ok (.ireturn, 1) := by decide +kernel
theorem dX7_set_59 : decode cX7_set 59 = .ok (.aload_n 0, 1) := by decide +kernel
theorem dX7_set_60 : decode cX7_set 60 = .ok (.iload_n 1, 1) := by decide +kernel
theorem dX7_set_61 : decode cX7_set 61 = .ok (.iload_n 2, 1) := by decide +kernel
theorem dX7_set_62 : decode cX7_set 62 = .ok (.iload_n 3, 1) := by decide +kernel
theorem dX7_set_63 : decode cX7_set 63 = .ok (.invokevirtual 90, 3) := by decide +kernel
theorem dX7_set_66 : decode cX7_set 66 = .ok (.ireturn, 1) := by decide +kernel
theorem dX7_told_0 : decode cX7_told 0 = .ok (.aload_n 0, 1) := by decide +kernel
theorem dX7_told_1 : decode cX7_told 1 = .ok (.getfield 10, 3) := by decide +kernel
theorem dX7_told_4 : decode cX7_told 4 = .ok (.iload_n 1, 1) := by decide +kernel
theorem dX7_told_5 : decode cX7_told 5 = .ok (.invokevirtual 68, 3) := by decide +kernel
theorem dX7_told_8 : decode cX7_told 8 = .ok (.ifCond .ne 6, 3) := by decide +kernel
theorem dX7_told_11 : decode cX7_told 11 = .ok (.bipush (-101), 2) := by decide +kernel
theorem dX7_told_13 : decode cX7_told 13 = .ok (.ireturn, 1) := by decide +kernel
theorem dX7_told_14 : decode cX7_told 14 = .ok (.iload_n 2, 1) := by decide +kernel
theorem dX7_told_15 : decode cX7_told 15 = .ok (.ifCond .lt 9, 3) := by decide +kernel
theorem dX7_told_18 : decode cX7_told 18 = .ok (.iload_n 2, 1) := by decide +kernel
theorem dX7_told_19 : decode cX7_told 19 = .ok (.bipush 18, 2) := by decide +kernel
theorem dX7_told_21 : decode cX7_told 21 = .ok (.if_icmp .le 6, 3) := by decide +kernel
theorem dX7_told_24 : decode cX7_told 24 = .ok (.bipush (-102), 2) := by decide +kernel
theorem dX7_told_26 : decode cX7_told 26 = .ok (.ireturn, 1) := by decide +kernel
theorem dX7_told_27 : decode cX7_told 27 = .ok (.iload_n 2, 1) := by decide +kernel
theorem dX7_told_28 : decode cX7_told 28 = .ok (.bipush 18, 2) := by decide +kernel
theorem dX7_told_30 : decode cX7_told 30 = .ok (.if_icmp .ne 23, 3) := by decide +kernel
theorem dX7_told_33 : decode cX7_told 33 = .ok (.aload_n 0, 1) := by decide +kernel
theorem dX7_told_34 : decode cX7_told 34 = .ok (.getfield 10, 3) := by decide +kernel
theorem dX7_told_37 : decode cX7_told 37 = .ok (.invokevirtual 94, 3) := by decide +kernel
theorem dX7_told_40 : decode cX7_told 40 = .ok (.iload_n 1, 1) := by decide +kernel
theorem dX7_told_41 : decode cX7_told 41 = .ok (.invokestatic 98, 3) := by decide +kernel
theorem dX7_told_44 : decode cX7_told 44 = .ok (.ifCond .eq 7, 3) := by decide +kernel
theorem dX7_told_47 : decode cX7_told 47 = .ok (.iconst 1, 1) := by decide +kernel
theorem dX7_told_48 : decode cX7_told 48 = .ok (.goto 4, 3) := by decide +kernel
theorem dX7_told_51 : decode cX7_told 51 = .ok (.iconst 0, 1) := by decide +kernel
theorem dX7_told_52 : decode cX7_told 52 = .ok (.ireturn, 1) := by decide +kernel
theorem dX7_told_53 : decode cX7_told 53 = .ok (.aload_n 0, 1) := by decide +kernel
theorem dX7_told_54 : decode cX7_told 54 = .ok (.getfield 10, 3) := by decide +kernel
theorem dX7_told_57 : decode cX7_told 57 = .ok (.iload_n 1, 1) := by decide +kernel
theorem dX7_told_58 : decode cX7_told 58 = .ok (.iload_n 2, 1) := by decide +kernel
theorem dX7_told_59 : decode cX7_told 59 = .ok (.invokevirtual 101, 3) := by decide +kernel
theorem dX7_told_62 : decode cX7_told 62 = .ok (.ireturn, 1) := by decide +kernel
theorem dX7_box_0 : decode cX7_box 0 = .ok (.aload_n 0, 1) := by decide +kernel
theorem dX7_box_1 : decode cX7_box 1 = .ok (.getfield 10, 3) := by decide +kernel
theorem dX7_box_4 : decode cX7_box 4 = .ok (.iload_n 1, 1) := by decide +kernel
theorem dX7_box_5 : decode cX7_box 5 = .ok (.invokevirtual 68, 3) := by decide +kernel
theorem dX7_box_8 : decode cX7_box 8 = .ok (.ifCond .ne 6, 3) := by decide +kernel
theorem dX7_box_11 : decode cX7_box 11 = .ok (.bipush (-101), 2) := by decide +kernel
theorem dX7_box_13 : decode cX7_box 13 = .ok (.ireturn, 1) := by decide +kernel
theorem dX7_box_14 : decode cX7_box 14 = .ok (.iload_n 2, 1) := by decide +kernel
theorem dX7_box_15 : decode cX7_box 15 = .ok (.invokestatic 104, 3) := by decide +kernel
theorem dX7_box_18 : decode cX7_box 18 = .ok (.ifCond .eq 26, 3) := by decide +kernel
theorem dX7_box_21 : decode cX7_box 21 = .ok (.iload_n 3, 1) := by decide +kernel
theorem dX7_box_22 : decode cX7_box 22 = .ok (.invokestatic 104, 3) := by decide +kernel
theorem dX7_box_25 : decode cX7_box 25 = .ok (.ifCond .eq 19, 3) := by decide +kernel
theorem dX7_box_28 : decode cX7_box 28 = .ok (.iload 4, 2) := by decide +kernel
theorem dX7_box_30 : decode cX7_box 30 = .ok (.invokestatic 104, 3) := by decide +kernel
theorem dX7_box_33 : decode cX7_box 33 = .ok (.ifCond .eq 11, 3) := by decide +kernel
theorem dX7_box_36 : decode cX7_box 36 = .ok (.iload 5, 2) := by decide +kernel
theorem dX7_box_38 : decode cX7_box 38 = .ok (.invokestatic 104, 3) := by decide +kernel
theorem dX7_box_41 : decode cX7_box 41 = .ok (.ifCond .ne 6, 3) := by decide +kernel
theorem dX7_box_44 : decode cX7_box 44 = .ok (.bipush (-102), 2) := by decide +kernel
theorem dX7_box_46 : decode cX7_box 46 = .ok (.ireturn, 1) := by decide +kernel
theorem dX7_box_47 : decode cX7_box 47 = .ok (.aload_n 0, 1) := by decide +kernel
theorem dX7_box_48 : decode cX7_box 48 = .ok (.getfield 10, 3) := by decide +kernel
theorem dX7_box_51 : decode cX7_box 51 = .ok (.iload_n 1, 1) := by decide +kernel
theorem dX7_box_52 : decode cX7_box 52 = .ok (.bipush 12, 2) := by decide +kernel
theorem dX7_box_54 : decode cX7_box 54 = .ok (.iload_n 2, 1) := by decide +kernel
theorem dX7_box_55 : decode cX7_box 55 = .ok (.invokevirtual 107, 3) := by decide +kernel
theorem dX7_box_58 : decode cX7_box 58 = .ok (.aload_n 0, 1) := by decide +kernel
theorem dX7_box_59 : decode cX7_box 59 = .ok (.getfield 10, 3) := by decide +kernel
theorem dX7_box_62 : decode cX7_box 62 = .ok (.iload_n 1, 1) := by decide +kernel
theorem dX7_box_63 : decode cX7_box 63 = .ok (.bipush 13, 2) := by decide +kernel
theorem dX7_box_65 : decode cX7_box 65 = .ok (.iload_n 3, 1) := by decide +kernel
theorem dX7_box_66 : decode cX7_box 66 = .ok (.invokevirtual 107, 3) := by decide +kernel
theorem dX7_box_69 : decode cX7_box 69 = .ok (.aload_n 0, 1) := by decide +kernel
theorem dX7_box_70 : decode cX7_box 70 = .ok (.getfield 10, 3) := by decide +kernel
theorem dX7_box_73 : decode cX7_box 73 = .ok (.iload_n 1, 1) := by decide +kernel
theorem dX7_box_74 : decode cX7_box 74 = .ok (.bipush 14, 2) := by decide +kernel
theorem dX7_box_76 : decode cX7_box 76 = .ok (.iload 4, 2) := by decide +kernel
theorem dX7_box_78 : decode cX7_box 78 = .ok (.invokevirtual 107, 3) := by decide +kernel
theorem dX7_box_81 : decode cX7_box 81 = .ok (.aload_n 0, 1) := by decide +kernel
theorem dX7_box_82 : decode cX7_box 82 = .ok (.getfield 10, 3) := by decide +kernel
theorem dX7_box_85 : decode cX7_box 85 = .ok (.iload_n 1, 1) := by decide +kernel
theorem dX7_box_86 : decode cX7_box 86 = .ok (.bipush 15, 2) := by decide +kernel
theorem dX7_box_88 : decode cX7_box 88 = .ok (.iload 5, 2) := by decide +kernel
theorem dX7_box_90 : decode cX7_box 90 = .ok (.invokevirtual 107, 3) := by decide +kernel
theorem dX7_box_93 : decode cX7_box 93 = .ok (.iconst 1, 1) := by decide +kernel
theorem dX7_box_94 : decode cX7_box 94 = .ok (.ireturn, 1) := by decide +kernel
theorem dX7_colours_0 : decode cX7_colours 0 = .ok (.aload_n 0, 1) := by decide +kernel
theorem dX7_colours_1 : decode cX7_colours 1 = .ok (.getfield 10, 3) := by decide +kernel
theorem dX7_colours_4 : decode cX7_colours 4 = .ok (.iload_n 1, 1) := by decide +kernel
theorem dX7_colours_5 : decode cX7_colours 5 = .ok (.invokevirtual 68, 3) := by decide +kernel
theorem dX7_colours_8 : decode cX7_colours 8 = .ok (.ifCond .ne 6, 3) := by decide +kernel
theorem dX7_colours_11 : decode cX7_colours 11 = .ok (.bipush (-101), 2) := by decide +kernel
theorem dX7_colours_13 : decode cX7_colours 13 = .ok (.ireturn, 1) := by decide +kernel
theorem dX7_colours_14 : decode cX7_colours 14 = .ok (.iload_n 2, 1) := by decide +kernel
theorem dX7_colours_15 : decode cX7_colours 15 = .ok (.invokestatic 111, 3) := by decide +kernel
theorem dX7_colours_18 : decode cX7_colours 18 = .ok (.ifCond .eq 10, 3) := by decide +kernel
theorem dX7_colours_21 : decode cX7_colours 21 = .ok (.iload_n 3, 1) := by decide +kernel
theorem dX7_colours_22 : decode cX7_colours 22 = .ok (.invokestatic 111, 3) := by decide +kernel
theorem dX7_colours_25 : decode cX7_colours 25 = .ok (.ifCond .ne 6, 3) := by decide +kernel
theorem dX7_colours_28 : decode cX7_colours 28 = .ok (.bipush (-102), 2) := by decide +kernel
theorem dX7_colours_30 : decode cX7_colours 30 = .ok (.ireturn, 1) := by decide +kernel
theorem dX7_colours_31 : decode cX7_colours 31 = .ok (.aload_n 0, 1) := by decide +kernel
theorem dX7_colours_32 : decode cX7_colours 32 = .ok (.getfield 10, 3) := by decide +kernel
theorem dX7_colours_35 : decode cX7_colours 35 = .ok (.iload_n 1, 1) := by decide +kernel
theorem dX7_colours_36 : decode cX7_colours 36 = .ok (.bipush 16, 2) := by decide +kernel
theorem dX7_colours_38 : decode cX7_colours 38 = .ok (.iload_n 2, 1) := by decide +kernel
theorem dX7_colours_39 : decode cX7_colours 39 = .ok (.invokevirtual 107, 3) := by decide +kernel
theorem dX7_colours_42 : decode cX7_colours 42 = .ok (.aload_n 0, 1) := by decide +kernel
theorem dX7_colours_43 : decode cX7_colours 43 = .ok (.getfield 10, 3) := by decide +kernel
theorem dX7_colours_46 : decode cX7_colours 46 = .ok (.iload_n 1, 1) := by decide +kernel
theorem dX7_colours_47 : decode cX7_colours 47 = .ok (.bipush 17, 2) := by decide +kernel
theorem dX7_colours_49 : decode cX7_colours 49 = .ok (.iload_n 3, 1) := by decide +kernel
theorem dX7_colours_50 : decode cX7_colours 50 = .ok (.invokevirtual 107, 3) := by decide +kernel
theorem dX7_colours_53 : decode cX7_colours 53 = .ok (.aload_n 0, 1) := by decide +kernel
theorem dX7_colours_54 : decode cX7_colours 54 = .ok (.getfield 10, 3) := by decide +kernel
theorem dX7_colours_57 : decode cX7_colours 57 = .ok (.iload_n 1, 1) := by decide +kernel
theorem dX7_colours_58 : decode cX7_colours 58 = .ok (.invokevirtual 114, 3) := by decide +kernel
theorem dX7_colours_61 : decode cX7_colours 61 = .ok (.ireturn, 1) := by decide +kernel
theorem dX7_contrast_0 : decode cX7_contrast 0 = .ok (.aload_n 0, 1) := by decide +kernel
theorem dX7_contrast_1 : decode cX7_contrast 1 = .ok (.getfield 10, 3) := by decide +kernel
theorem dX7_contrast_4 : decode cX7_contrast 4 = .ok (.iload_n 1, 1) := by decide +kernel
theorem dX7_contrast_5 : decode cX7_contrast 5 = .ok (.invokevirtual 68, 3) := by decide +kernel
theorem dX7_contrast_8 : decode cX7_contrast 8 = .ok (.ifCond .eq 14, 3) := by decide +kernel
theorem dX7_contrast_11 : decode cX7_contrast 11 = .ok (.aload_n 0, 1) := by decide +kernel
theorem dX7_contrast_12 : decode cX7_contrast 12 = .ok (.getfield 10, 3) := by decide +kernel
theorem dX7_contrast_15 : decode cX7_contrast 15 = .ok (.iload_n 1, 1) := by decide +kernel
theorem dX7_contrast_16 : decode cX7_contrast 16 = .ok (.invokevirtual 114, 3) := by decide +kernel
theorem dX7_contrast_19 : decode cX7_contrast 19 = .ok (.goto 5, 3) := by decide +kernel
theorem dX7_contrast_22 : decode cX7_contrast 22 = .ok (.bipush (-101), 2) := by decide +kernel
theorem dX7_contrast_24 : decode cX7_contrast 24 = .ok (.ireturn, 1) := by decide +kernel
theorem dX7_name_0 : decode cX7_name 0 = .ok (.aload_n 0, 1) := by decide +kernel
theorem dX7_name_1 : decode cX7_name 1 = .ok (.getfield 10, 3) := by decide +kernel
theorem dX7_name_4 : decode cX7_name 4 = .ok (.iload_n 1, 1) := by decide +kernel
theorem dX7_name_5 : decode cX7_name 5 = .ok (.invokevirtual 68, 3) := by decide +kernel
theorem dX7_name_8 : decode cX7_name 8 = .ok (.ifCond .ne 6, 3) := by decide +kernel
theorem dX7_name_11 : decode cX7_name 11 = .ok (.bipush (-101), 2) := by decide +kernel
theorem dX7_name_13 : decode cX7_name 13 = .ok (.ireturn, 1) := by decide +kernel
theorem dX7_name_14 : decode cX7_name 14 = .ok (.aload_n 0, 1) := by decide +kernel
theorem dX7_name_15 : decode cX7_name 15 = .ok (.getfield 21, 3) := by decide +kernel
theorem dX7_name_18 : decode cX7_name 18 = .ok (.iload_n 1, 1) := by decide +kernel
theorem dX7_name_19 : decode cX7_name 19 = .ok (.aload_n 0, 1) := by decide +kernel
theorem dX7_name_20 : decode cX7_name 20 = .ok (.getfield 10, 3) := by decide +kernel
theorem dX7_name_23 : decode cX7_name 23 = .ok (.invokevirtual 94, 3) := by decide +kernel
theorem dX7_name_26 : decode cX7_name 26 = .ok (.invokevirtual 118, 3) := by decide +kernel
theorem dX7_name_29 : decode cX7_name 29 = .ok (.aload_n 0, 1) := by decide +kernel
theorem dX7_name_30 : decode cX7_name 30 = .ok (.getfield 21, 3) := by decide +kernel
theorem dX7_name_33 : decode cX7_name 33 = .ok (.iload_n 1, 1) := by decide +kernel
theorem dX7_name_34 : decode cX7_name 34 = .ok (.invokevirtual 122, 3) := by decide +kernel
theorem dX7_name_37 : decode cX7_name 37 = .ok (.ireturn, 1) := by decide +kernel
theorem dX7_word_0 : decode cX7_word 0 = .ok (.aload_n 0, 1) := by decide +kernel
theorem dX7_word_1 : decode cX7_word 1 = .ok (.getfield 10, 3) := by decide +kernel
theorem dX7_word_4 : decode cX7_word 4 = .ok (.iload_n 1, 1) := by decide +kernel
theorem dX7_word_5 : decode cX7_word 5 = .ok (.invokevirtual 68, 3) := by decide +kernel
theorem dX7_word_8 : decode cX7_word 8 = .ok (.ifCond .ne 5, 3) := by decide +kernel
theorem dX7_word_11 : decode cX7_word 11 = .ok (.iconst 0, 1) := by decide +kernel
theorem dX7_word_12 : decode cX7_word 12 = .ok (.ireturn, 1) := by decide +kernel
theorem dX7_word_13 : decode cX7_word 13 = .ok (.aload_n 0, 1) := by decide +kernel
theorem dX7_word_14 : decode cX7_word 14 = .ok (.getfield 21, 3) := by decide +kernel
theorem dX7_word_17 : decode cX7_word 17 = .ok (.iload_n 1, 1) := by decide +kernel
theorem dX7_word_18 : decode cX7_word 18 = .ok (.aload_n 0, 1) := by decide +kernel
theorem dX7_word_19 : decode cX7_word 19 = .ok (.getfield 10, 3) := by decide +kernel
theorem dX7_word_22 : decode cX7_word 22 = .ok (.invokevirtual 94, 3) := by decide +kernel
theorem dX7_word_25 : decode cX7_word 25 = .ok (.invokevirtual 118, 3) := by decide +kernel
theorem dX7_word_28 : decode cX7_word 28 = .ok (.aload_n 0, 1) := by decide +kernel
theorem dX7_word_29 : decode cX7_word 29 = .ok (.getfield 21, 3) := by decide +kernel
theorem dX7_word_32 : decode cX7_word 32 = .ok (.iload_n 1, 1) := by decide +kernel
theorem dX7_word_33 : decode cX7_word 33 = .ok (.iload_n 2, 1) := by decide +kernel
theorem dX7_word_34 : decode cX7_word 34 = .ok (.invokevirtual 125, 3) := by decide +kernel
theorem dX7_word_37 : decode cX7_word 37 = .ok (.ireturn, 1) := by decide +kernel
theorem dX7_said_0 : decode cX7_said 0 = .ok (.aload_n 0, 1) := by decide +kernel
theorem dX7_said_1 : decode cX7_said 1 = .ok (.getfield 28, 3) := by decide +kernel
theorem dX7_said_4 : decode cX7_said 4 = .ok (.aload_n 0, 1) := by decide +kernel
theorem dX7_said_5 : decode cX7_said 5 = .ok (.getfield 10, 3) := by decide +kernel
theorem dX7_said_8 : decode cX7_said 8 = .ok (.invokevirtual 94, 3) := by decide +kernel
theorem dX7_said_11 : decode cX7_said 11 = .ok (.invokevirtual 128, 3) := by decide +kernel
theorem dX7_said_14 : decode cX7_said 14 = .ok (.aload_n 0, 1) := by decide +kernel
theorem dX7_said_15 : decode cX7_said 15 = .ok (.getfield 28, 3) := by decide +kernel
theorem dX7_said_18 : decode cX7_said 18 = .ok (.iload_n 1, 1) := by decide +kernel
theorem dX7_said_19 : decode cX7_said 19 = .ok (.invokevirtual 132, 3) := by decide +kernel
theorem dX7_said_22 : decode cX7_said 22 = .ok (.ireturn, 1) := by decide +kernel
theorem dX7_pairs_0 : decode cX7_pairs 0 = .ok (.aload_n 0, 1) := by decide +kernel
theorem dX7_pairs_1 : decode cX7_pairs 1 = .ok (.getfield 28, 3) := by decide +kernel
theorem dX7_pairs_4 : decode cX7_pairs 4 = .ok (.aload_n 0, 1) := by decide +kernel
theorem dX7_pairs_5 : decode cX7_pairs 5 = .ok (.getfield 10, 3) := by decide +kernel
theorem dX7_pairs_8 : decode cX7_pairs 8 = .ok (.invokevirtual 94, 3) := by decide +kernel
theorem dX7_pairs_11 : decode cX7_pairs 11 = .ok (.invokevirtual 128, 3) := by decide +kernel
theorem dX7_pairs_14 : decode cX7_pairs 14 = .ok (.aload_n 0, 1) := by decide +kernel
theorem dX7_pairs_15 : decode cX7_pairs 15 = .ok (.getfield 28, 3) := by decide +kernel
theorem dX7_pairs_18 : decode cX7_pairs 18 = .ok (.invokevirtual 135, 3) := by decide +kernel
theorem dX7_pairs_21 : decode cX7_pairs 21 = .ok (.aload_n 0, 1) := by decide +kernel
theorem dX7_pairs_22 : decode cX7_pairs 22 = .ok (.getfield 28, 3) := by decide +kernel
theorem dX7_pairs_25 : decode cX7_pairs 25 = .ok (.getfield 138, 3) := by decide +kernel
theorem dX7_pairs_28 : decode cX7_pairs 28 = .ok (.ireturn, 1) := by decide +kernel
theorem dX7_stop_0 : decode cX7_stop 0 = .ok (.aload_n 0, 1) := by decide +kernel
theorem dX7_stop_1 : decode cX7_stop 1 = .ok (.getfield 35, 3) := by decide +kernel
theorem dX7_stop_4 : decode cX7_stop 4 = .ok (.iload_n 1, 1) := by decide +kernel
theorem dX7_stop_5 : decode cX7_stop 5 = .ok (.aload_n 0, 1) := by decide +kernel
theorem dX7_stop_6 : decode cX7_stop 6 = .ok (.getfield 10, 3) := by decide +kernel
theorem dX7_stop_9 : decode cX7_stop 9 = .ok (.invokevirtual 94, 3) := by decide +kernel
theorem dX7_stop_12 : decode cX7_stop 12 = .ok (.invokevirtual 141, 3) := by decide +kernel
theorem dX7_stop_15 : decode cX7_stop 15 = .ok (.ireturn, 1) := by decide +kernel
theorem dX7_press_0 : decode cX7_press 0 = .ok (.iload_n 1, 1) := by decide +kernel
theorem dX7_press_1 : decode cX7_press 1 = .ok (.ifCond .lt 8, 3) := by decide +kernel
theorem dX7_press_4 : decode cX7_press 4 = .ok (.iload_n 1, 1) := by decide +kernel
theorem dX7_press_5 : decode cX7_press 5 = .ok (.iconst 2, 1) := by decide +kernel
theorem dX7_press_6 : decode cX7_press 6 = .ok (.if_icmp .le 6, 3) := by decide +kernel
theorem dX7_press_9 : decode cX7_press 9 = .ok (.bipush (-102), 2) := by decide +kernel
theorem dX7_press_11 : decode cX7_press 11 = .ok (.ireturn, 1) := by decide +kernel
theorem dX7_press_12 : decode cX7_press 12 = .ok (.iload_n 1, 1) := by decide +kernel
theorem dX7_press_13 : decode cX7_press 13 = .ok (.iconst 2, 1) := by decide +kernel
theorem dX7_press_14 : decode cX7_press 14 = .ok (.if_icmp .ne 10, 3) := by decide +kernel
theorem dX7_press_17 : decode cX7_press 17 = .ok (.aload_n 0, 1) := by decide +kernel
theorem dX7_press_18 : decode cX7_press 18 = .ok (.invokevirtual 143, 3) := by decide +kernel
theorem dX7_press_21 : decode cX7_press 21 = .ok (.goto 26, 3) := by decide +kernel
theorem dX7_press_24 : decode cX7_press 24 = .ok (.aload_n 0, 1) := by decide +kernel
theorem dX7_press_25 : decode cX7_press 25 = .ok (.aload_n 0, 1) := by decide +kernel
theorem dX7_press_26 : decode cX7_press 26 = .ok (.getfield 35, 3) := by decide +kernel
theorem dX7_press_29 : decode cX7_press 29 = .ok (.aload_n 0, 1) := by decide +kernel
theorem dX7_press_30 : decode cX7_press 30 = .ok (.getfield 64, 3) := by decide +kernel
theorem dX7_press_33 : decode cX7_press 33 = .ok (.iload_n 1, 1) := by decide +kernel
theorem dX7_press_34 : decode cX7_press 34 = .ok (.aload_n 0, 1) := by decide +kernel
theorem dX7_press_35 : decode cX7_press 35 = .ok (.getfield 10, 3) := by decide +kernel
theorem dX7_press_38 : decode cX7_press 38 = .ok (.invokevirtual 94, 3) := by decide +kernel
theorem dX7_press_41 : decode cX7_press 41 = .ok (.invokevirtual 146, 3) := by decide +kernel
theorem dX7_press_44 : decode cX7_press 44 = .ok (.putfield 64, 3) := by decide +kernel
theorem dX7_press_47 : decode cX7_press 47 = .ok (.aload_n 0, 1) := by decide +kernel
theorem dX7_press_48 : decode cX7_press 48 = .ok (.getfield 64, 3) := by decide +kernel
theorem dX7_press_51 : decode cX7_press 51 = .ok (.ireturn, 1) := by decide +kernel
theorem dX7_focus_0 : decode cX7_focus 0 = .ok (.aload_n 0, 1) := by decide +kernel
theorem dX7_focus_1 : decode cX7_focus 1 = .ok (.getfield 64, 3) := by decide +kernel
theorem dX7_focus_4 : decode cX7_focus 4 = .ok (.ireturn, 1) := by decide +kernel
theorem dX7_caught_0 : decode cX7_caught 0 = .ok (.aload_n 0, 1) := by decide +kernel
theorem dX7_caught_1 : decode cX7_caught 1 = .ok (.getfield 10, 3) := by decide +kernel
theorem dX7_caught_4 : decode cX7_caught 4 = .ok (.aload_n 0, 1) := by decide +kernel
theorem dX7_caught_5 : decode cX7_caught 5 = .ok (.getfield 64, 3) := by decide +kernel
theorem dX7_caught_8 : decode cX7_caught 8 = .ok (.aload_n 0, 1) := by decide +kernel
theorem dX7_caught_9 : decode cX7_caught 9 = .ok (.getfield 10, 3) := by decide +kernel
theorem dX7_caught_12 : decode cX7_caught 12 = .ok (.invokevirtual 94, 3) := by decide +kernel
theorem dX7_caught_15 : decode cX7_caught 15 = .ok (.invokevirtual 149, 3) := by decide +kernel
theorem dX7_caught_18 : decode cX7_caught 18 = .ok (.ireturn, 1) := by decide +kernel
theorem dX7_leave_0 : decode cX7_leave 0 = .ok (.aload_n 0, 1) := by decide +kernel
theorem dX7_leave_1 : decode cX7_leave 1 = .ok (.getfield 64, 3) := by decide +kernel
theorem dX7_leave_4 : decode cX7_leave 4 = .ok (.istore_n 1, 1) := by decide +kernel
theorem dX7_leave_5 : decode cX7_leave 5 = .ok (.aload_n 0, 1) := by decide +kernel
theorem dX7_leave_6 : decode cX7_leave 6 = .ok (.iconst (-1), 1) := by decide +kernel
theorem dX7_leave_7 : decode cX7_leave 7 = .ok (.putfield 64, 3) := by decide +kernel
theorem dX7_leave_10 : decode cX7_leave 10 = .ok (.iload_n 1, 1) := by decide +kernel
theorem dX7_leave_11 : decode cX7_leave 11 = .ok (.ireturn, 1) := by decide +kernel
theorem dX7_walk_0 : decode cX7_walk 0 = .ok (.aload_n 0, 1) := by decide +kernel
theorem dX7_walk_1 : decode cX7_walk 1 = .ok (.getfield 10, 3) := by decide +kernel
theorem dX7_walk_4 : decode cX7_walk 4 = .ok (.iload_n 1, 1) := by decide +kernel
theorem dX7_walk_5 : decode cX7_walk 5 = .ok (.invokevirtual 68, 3) := by decide +kernel
theorem dX7_walk_8 : decode cX7_walk 8 = .ok (.ifCond .eq 18, 3) := by decide +kernel
theorem dX7_walk_11 : decode cX7_walk 11 = .ok (.aload_n 0, 1) := by decide +kernel
theorem dX7_walk_12 : decode cX7_walk 12 = .ok (.getfield 44, 3) := by decide +kernel
theorem dX7_walk_15 : decode cX7_walk 15 = .ok (.aload_n 0, 1) := by decide +kernel
theorem dX7_walk_16 : decode cX7_walk 16 = .ok (.getfield 64, 3) := by decide +kernel
theorem dX7_walk_19 : decode cX7_walk 19 = .ok (.iload_n 1, 1) := by decide +kernel
theorem dX7_walk_20 : decode cX7_walk 20 = .ok (.invokevirtual 152, 3) := by decide +kernel
theorem dX7_walk_23 : decode cX7_walk 23 = .ok (.goto 5, 3) := by decide +kernel
theorem dX7_walk_26 : decode cX7_walk 26 = .ok (.bipush (-101), 2) := by decide +kernel
theorem dX7_walk_28 : decode cX7_walk 28 = .ok (.ireturn, 1) := by decide +kernel
theorem dX7_key_0 : decode cX7_key 0 = .ok (.aload_n 0, 1) := by decide +kernel
theorem dX7_key_1 : decode cX7_key 1 = .ok (.getfield 10, 3) := by decide +kernel
theorem dX7_key_4 : decode cX7_key 4 = .ok (.iload_n 1, 1) := by decide +kernel
theorem dX7_key_5 : decode cX7_key 5 = .ok (.invokevirtual 68, 3) := by decide +kernel
theorem dX7_key_8 : decode cX7_key 8 = .ok (.ifCond .eq 18, 3) := by decide +kernel
theorem dX7_key_11 : decode cX7_key 11 = .ok (.aload_n 0, 1) := by decide +kernel
theorem dX7_key_12 : decode cX7_key 12 = .ok (.getfield 44, 3) := by decide +kernel
theorem dX7_key_15 : decode cX7_key 15 = .ok (.aload_n 0, 1) := by decide +kernel
theorem dX7_key_16 : decode cX7_key 16 = .ok (.getfield 64, 3) := by decide +kernel
theorem dX7_key_19 : decode cX7_key 19 = .ok (.iload_n 1, 1) := by decide +kernel
theorem dX7_key_20 : decode cX7_key 20 = .ok (.invokevirtual 155, 3) := by decide +kernel
theorem dX7_key_23 : decode cX7_key 23 = .ok (.goto 5, 3) := by decide +kernel
theorem dX7_key_26 : decode cX7_key 26 = .ok (.bipush (-101), 2) := by decide +kernel
theorem dX7_key_28 : decode cX7_key 28 = .ok (.ireturn, 1) := by decide +kernel
theorem dX7_keeper_0 : decode cX7_keeper 0 = .ok (.aload_n 0, 1) := by decide +kernel
theorem dX7_keeper_1 : decode cX7_keeper 1 = .ok (.getfield 10, 3) := by decide +kernel
theorem dX7_keeper_4 : decode cX7_keeper 4 = .ok (.aload_n 0, 1) := by decide +kernel
theorem dX7_keeper_5 : decode cX7_keeper 5 = .ok (.getfield 64, 3) := by decide +kernel
theorem dX7_keeper_8 : decode cX7_keeper 8 = .ok (.aload_n 0, 1) := by decide +kernel
theorem dX7_keeper_9 : decode cX7_keeper 9 = .ok (.getfield 10, 3) := by decide +kernel
theorem dX7_keeper_12 : decode cX7_keeper 12 = .ok (.invokevirtual 94, 3) := by decide +kernel
theorem dX7_keeper_15 : decode cX7_keeper 15 = .ok (.invokevirtual 149, 3) := by decide +kernel
theorem dX7_keeper_18 : decode cX7_keeper 18 = .ok (.istore_n 1, 1) := by decide +kernel
theorem dX7_keeper_19 : decode cX7_keeper 19 = .ok (.iload_n 1, 1) := by decide +kernel
theorem dX7_keeper_20 : decode cX7_keeper 20 = .ok (.iconst (-1), 1) := by decide +kernel
theorem dX7_keeper_21 : decode cX7_keeper 21 = .ok (.if_icmp .eq 22, 3) := by decide +kernel
theorem dX7_keeper_24 : decode cX7_keeper 24 = .ok (.aload_n 0, 1) := by decide +kernel
theorem dX7_keeper_25 : decode cX7_keeper 25 = .ok (.getfield 44, 3) := by decide +kernel
theorem dX7_keeper_28 : decode cX7_keeper 28 = .ok (.aload_n 0, 1) := by decide +kernel
theorem dX7_keeper_29 : decode cX7_keeper 29 = .ok (.getfield 64, 3) := by decide +kernel
theorem dX7_keeper_32 : decode cX7_keeper 32 = .ok (.iload_n 1, 1) := by decide +kernel
theorem dX7_keeper_33 : decode cX7_keeper 33 = .ok (.invokevirtual 158, 3) := by decide +kernel
theorem dX7_keeper_36 : decode cX7_keeper 36 = .ok (.ifCond .eq 7, 3) := by decide +kernel
theorem dX7_keeper_39 : decode cX7_keeper 39 = .ok (.iconst (-1), 1) := by decide +kernel
theorem dX7_keeper_40 : decode cX7_keeper 40 = .ok (.goto 4, 3) := by decide +kernel
theorem dX7_keeper_43 : decode cX7_keeper 43 = .ok (.iload_n 1, 1) := by decide +kernel
theorem dX7_keeper_44 : decode cX7_keeper 44 = .ok (.ireturn, 1) := by decide +kernel
theorem dX7_hear_0 : decode cX7_hear 0 = .ok (.aload_n 0, 1) := by decide +kernel
theorem dX7_hear_1 : decode cX7_hear 1 = .ok (.getfield 60, 3) := by decide +kernel
theorem dX7_hear_4 : decode cX7_hear 4 = .ok (.invokevirtual 161, 3) := by decide +kernel
theorem dX7_hear_7 : decode cX7_hear 7 = .ok (.ireturn, 1) := by decide +kernel
theorem dX7_wrongs_0 : decode cX7_wrongs 0 = .ok (.aload_n 0, 1) := by decide +kernel
theorem dX7_wrongs_1 : decode cX7_wrongs 1 = .ok (.getfield 53, 3) := by decide +kernel
theorem dX7_wrongs_4 : decode cX7_wrongs 4 = .ok (.invokevirtual 164, 3) := by decide +kernel
theorem dX7_wrongs_7 : decode cX7_wrongs 7 = .ok (.aload_n 0, 1) := by decide +kernel
theorem dX7_wrongs_8 : decode cX7_wrongs 8 = .ok (.getfield 53, 3) := by decide +kernel
theorem dX7_wrongs_11 : decode cX7_wrongs 11 = .ok (.getfield 166, 3) := by decide +kernel
theorem dX7_wrongs_14 : decode cX7_wrongs 14 = .ok (.ireturn, 1) := by decide +kernel
theorem dX7_wrong_0 : decode cX7_wrong 0 = .ok (.iload_n 2, 1) := by decide +kernel
theorem dX7_wrong_1 : decode cX7_wrong 1 = .ok (.ifCond .eq 11, 3) := by decide +kernel
theorem dX7_wrong_4 : decode cX7_wrong 4 = .ok (.iload_n 2, 1) := by decide +kernel
theorem dX7_wrong_5 : decode cX7_wrong 5 = .ok (.iconst 1, 1) := by decide +kernel
theorem dX7_wrong_6 : decode cX7_wrong 6 = .ok (.if_icmp .eq 6, 3) := by decide +kernel
theorem dX7_wrong_9 : decode cX7_wrong 9 = .ok (.bipush (-102), 2) := by decide +kernel
theorem dX7_wrong_11 : decode cX7_wrong 11 = .ok (.ireturn, 1) := by decide +kernel
theorem dX7_wrong_12 : decode cX7_wrong 12 = .ok (.aload_n 0, 1) := by decide +kernel
theorem dX7_wrong_13 : decode cX7_wrong 13 = .ok (.getfield 53, 3) := by decide +kernel
theorem dX7_wrong_16 : decode cX7_wrong 16 = .ok (.invokevirtual 164, 3) := by decide +kernel
theorem dX7_wrong_19 : decode cX7_wrong 19 = .ok (.iload_n 2, 1) := by decide +kernel
theorem dX7_wrong_20 : decode cX7_wrong 20 = .ok (.ifCond .ne 14, 3) := by decide +kernel
theorem dX7_wrong_23 : decode cX7_wrong 23 = .ok (.aload_n 0, 1) := by decide +kernel
theorem dX7_wrong_24 : decode cX7_wrong 24 = .ok (.getfield 53, 3) := by decide +kernel
theorem dX7_wrong_27 : decode cX7_wrong 27 = .ok (.iload_n 1, 1) := by decide +kernel
theorem dX7_wrong_28 : decode cX7_wrong 28 = .ok (.invokevirtual 169, 3) := by decide +kernel
theorem dX7_wrong_31 : decode cX7_wrong 31 = .ok (.goto 11, 3) := by decide +kernel
theorem dX7_wrong_34 : decode cX7_wrong 34 = .ok (.aload_n 0, 1) := by decide +kernel
theorem dX7_wrong_35 : decode cX7_wrong 35 = .ok (.getfield 53, 3) := by decide +kernel
theorem dX7_wrong_38 : decode cX7_wrong 38 = .ok (.iload_n 1, 1) := by decide +kernel
theorem dX7_wrong_39 : decode cX7_wrong 39 = .ok (.invokevirtual 172, 3) := by decide +kernel
theorem dX7_wrong_42 : decode cX7_wrong 42 = .ok (.ireturn, 1) := by decide +kernel
theorem dX7_mend_0 : decode cX7_mend 0 = .ok (.aload_n 0, 1) := by decide +kernel
theorem dX7_mend_1 : decode cX7_mend 1 = .ok (.getfield 53, 3) := by decide +kernel
theorem dX7_mend_4 : decode cX7_mend 4 = .ok (.invokevirtual 164, 3) := by decide +kernel
theorem dX7_mend_7 : decode cX7_mend 7 = .ok (.aload_n 0, 1) := by decide +kernel
theorem dX7_mend_8 : decode cX7_mend 8 = .ok (.getfield 53, 3) := by decide +kernel
theorem dX7_mend_11 : decode cX7_mend 11 = .ok (.iload_n 1, 1) := by decide +kernel
theorem dX7_mend_12 : decode cX7_mend 12 = .ok (.invokevirtual 169, 3) := by decide +kernel
theorem dX7_mend_15 : decode cX7_mend 15 = .ok (.istore_n 2, 1) := by decide +kernel
theorem dX7_mend_16 : decode cX7_mend 16 = .ok (.aload_n 0, 1) := by decide +kernel
theorem dX7_mend_17 : decode cX7_mend 17 = .ok (.getfield 53, 3) := by decide +kernel
theorem dX7_mend_20 : decode cX7_mend 20 = .ok (.iload_n 1, 1) := by decide +kernel
theorem dX7_mend_21 : decode cX7_mend 21 = .ok (.invokevirtual 172, 3) := by decide +kernel
theorem dX7_mend_24 : decode cX7_mend 24 = .ok (.istore_n 3, 1) := by decide +kernel
theorem dX7_mend_25 : decode cX7_mend 25 = .ok (.iload_n 2, 1) := by decide +kernel
theorem dX7_mend_26 : decode cX7_mend 26 = .ok (.iconst (-1), 1) := by decide +kernel
theorem dX7_mend_27 : decode cX7_mend 27 = .ok (.if_icmp .ne 6, 3) := by decide +kernel
theorem dX7_mend_30 : decode cX7_mend 30 = .ok (.bipush (-101), 2) := by decide +kernel
theorem dX7_mend_32 : decode cX7_mend 32 = .ok (.ireturn, 1) := by decide +kernel
theorem dX7_mend_33 : decode cX7_mend 33 = .ok (.iload_n 3, 1) := by decide +kernel
theorem dX7_mend_34 : decode cX7_mend 34 = .ok (.iconst 3, 1) := by decide +kernel
theorem dX7_mend_35 : decode cX7_mend 35 = .ok (.if_icmp .eq 8, 3) := by decide +kernel
theorem dX7_mend_38 : decode cX7_mend 38 = .ok (.iload_n 3, 1) := by decide +kernel
theorem dX7_mend_39 : decode cX7_mend 39 = .ok (.iconst 4, 1) := by decide +kernel
theorem dX7_mend_40 : decode cX7_mend 40 = .ok (.if_icmp .ne 6, 3) := by decide +kernel
theorem dX7_mend_43 : decode cX7_mend 43 = .ok (.bipush (-103), 2) := by decide +kernel
theorem dX7_mend_45 : decode cX7_mend 45 = .ok (.ireturn, 1) := by decide +kernel
theorem dX7_mend_46 : decode cX7_mend 46 = .ok (.aload_n 0, 1) := by decide +kernel
theorem dX7_mend_47 : decode cX7_mend 47 = .ok (.getfield 53, 3) := by decide +kernel
theorem dX7_mend_50 : decode cX7_mend 50 = .ok (.iload_n 2, 1) := by decide +kernel
theorem dX7_mend_51 : decode cX7_mend 51 = .ok (.iload_n 3, 1) := by decide +kernel
theorem dX7_mend_52 : decode cX7_mend 52 = .ok (.invokevirtual 175, 3) := by decide +kernel
theorem dX7_mend_55 : decode cX7_mend 55 = .ok (.aload_n 0, 1) := by decide +kernel
theorem dX7_mend_56 : decode cX7_mend 56 = .ok (.getfield 53, 3) := by decide +kernel
theorem dX7_mend_59 : decode cX7_mend 59 = .ok (.invokevirtual 164, 3) := by decide +kernel
theorem dX7_mend_62 : decode cX7_mend 62 = .ok (.aload_n 0, 1) := by decide +kernel
theorem dX7_mend_63 : decode cX7_mend 63 = .ok (.getfield 53, 3) := by decide +kernel
theorem dX7_mend_66 : decode cX7_mend 66 = .ok (.getfield 166, 3) := by decide +kernel
theorem dX7_mend_69 : decode cX7_mend 69 = .ok (.ireturn, 1) := by decide +kernel
theorem dX7_count_0 : decode cX7_count 0 = .ok (.iload_n 1, 1) := by decide +kernel
theorem dX7_count_1 : decode cX7_count 1 = .ok (.tableswitch 118 0 5 #[39, 47, 58, 76, 98, 106], 39) := by decide +kernel
theorem dX7_count_40 : decode cX7_count 40 = .ok (.aload_n 0, 1) := by decide +kernel
theorem dX7_count_41 : decode cX7_count 41 = .ok (.getfield 10, 3) := by decide +kernel
theorem dX7_count_44 : decode cX7_count 44 = .ok (.getfield 178, 3) := by decide +kernel
theorem dX7_count_47 : decode cX7_count 47 = .ok (.ireturn, 1) := by decide +kernel
theorem dX7_count_48 : decode cX7_count 48 = .ok (.aload_n 0, 1) := by decide +kernel
theorem dX7_count_49 : decode cX7_count 49 = .ok (.getfield 10, 3) := by decide +kernel
theorem dX7_count_52 : decode cX7_count 52 = .ok (.invokevirtual 94, 3) := by decide +kernel
theorem dX7_count_55 : decode cX7_count 55 = .ok (.invokestatic 179, 3) := by decide +kernel
theorem dX7_count_58 : decode cX7_count 58 = .ok (.ireturn, 1) := by decide +kernel
theorem dX7_count_59 : decode cX7_count 59 = .ok (.aload_n 0, 1) := by decide +kernel
theorem dX7_count_60 : decode cX7_count 60 = .ok (.getfield 10, 3) := by decide +kernel
theorem dX7_count_63 : decode cX7_count 63 = .ok (.aload_n 0, 1) := by decide +kernel
theorem dX7_count_64 : decode cX7_count 64 = .ok (.getfield 10, 3) := by decide +kernel
theorem dX7_count_67 : decode cX7_count 67 = .ok (.invokevirtual 94, 3) := by decide +kernel
theorem dX7_count_70 : decode cX7_count 70 = .ok (.invokevirtual 184, 3) := by decide +kernel
theorem dX7_count_73 : decode cX7_count 73 = .ok (.invokestatic 179, 3) := by decide +kernel
theorem dX7_count_76 : decode cX7_count 76 = .ok (.ireturn, 1) := by decide +kernel
theorem dX7_count_77 : decode cX7_count 77 = .ok (.aload_n 0, 1) := by decide +kernel
theorem dX7_count_78 : decode cX7_count 78 = .ok (.getfield 28, 3) := by decide +kernel
theorem dX7_count_81 : decode cX7_count 81 = .ok (.aload_n 0, 1) := by decide +kernel
theorem dX7_count_82 : decode cX7_count 82 = .ok (.getfield 10, 3) := by decide +kernel
theorem dX7_count_85 : decode cX7_count 85 = .ok (.invokevirtual 94, 3) := by decide +kernel
theorem dX7_count_88 : decode cX7_count 88 = .ok (.invokevirtual 128, 3) := by decide +kernel
theorem dX7_count_91 : decode cX7_count 91 = .ok (.aload_n 0, 1) := by decide +kernel
theorem dX7_count_92 : decode cX7_count 92 = .ok (.getfield 28, 3) := by decide +kernel
theorem dX7_count_95 : decode cX7_count 95 = .ok (.getfield 187, 3) := by decide +kernel
theorem dX7_count_98 : decode cX7_count 98 = .ok (.ireturn, 1) := by decide +kernel
theorem dX7_count_99 : decode cX7_count 99 = .ok (.aload_n 0, 1) := by decide +kernel
theorem dX7_count_100 : decode cX7_count 100 = .ok (.getfield 60, 3) := by decide +kernel
theorem dX7_count_103 : decode cX7_count 103 = .ok (.getfield 188, 3) := by decide +kernel
theorem dX7_count_106 : decode cX7_count 106 = .ok (.ireturn, 1) := by decide +kernel
theorem dX7_count_107 : decode cX7_count 107 = .ok (.aload_n 0, 1) := by decide +kernel
theorem dX7_count_108 : decode cX7_count 108 = .ok (.getfield 10, 3) := by decide +kernel
theorem dX7_count_111 : decode cX7_count 111 = .ok (.iconst (-1), 1) := by decide +kernel
theorem dX7_count_112 : decode cX7_count 112 = .ok (.invokevirtual 189, 3) := by decide +kernel
theorem dX7_count_115 : decode cX7_count 115 = .ok (.invokestatic 179, 3) := by decide +kernel
theorem dX7_count_118 : decode cX7_count 118 = .ok (.ireturn, 1) := by decide +kernel
theorem dX7_count_119 : decode cX7_count 119 = .ok (.bipush (-102), 2) := by decide +kernel
theorem dX7_count_121 : decode cX7_count 121 = .ok (.ireturn, 1) := by decide +kernel
theorem dX7_digest_0 : decode cX7_digest 0 = .ok (.ldc2_w 192, 3) := by decide +kernel
theorem dX7_digest_3 : decode cX7_digest 3 = .ok (.lstore_n 1, 1) := by decide +kernel
theorem dX7_digest_4 : decode cX7_digest 4 = .ok (.iconst 0, 1) := by decide +kernel
theorem dX7_digest_5 : decode cX7_digest 5 = .ok (.istore_n 3, 1) := by decide +kernel
theorem dX7_digest_6 : decode cX7_digest 6 = .ok (.iload_n 3, 1) := by decide +kernel
theorem dX7_digest_7 : decode cX7_digest 7 = .ok (.aload_n 0, 1) := by decide +kernel
theorem dX7_digest_8 : decode cX7_digest 8 = .ok (.getfield 10, 3) := by decide +kernel
theorem dX7_digest_11 : decode cX7_digest 11 = .ok (.getfield 178, 3) := by decide +kernel
theorem dX7_digest_14 : decode cX7_digest 14 = .ok (.if_icmp .ge 43, 3) := by decide +kernel
theorem dX7_digest_17 : decode cX7_digest 17 = .ok (.iconst 0, 1) := by decide +kernel
theorem dX7_digest_18 : decode cX7_digest 18 = .ok (.istore 4, 2) := by decide +kernel
theorem dX7_digest_20 : decode cX7_digest 20 = .ok (.iload 4, 2) := by decide +kernel
theorem dX7_digest_22 : decode cX7_digest 22 = .ok (.bipush 18, 2) := by decide +kernel
theorem dX7_digest_24 : decode cX7_digest 24 = .ok (.if_icmp .ge 27, 3) := by decide +kernel
theorem dX7_digest_27 : decode cX7_digest 27 = .ok (.ldc2_w 194, 3) := by decide +kernel
theorem dX7_digest_30 : decode cX7_digest 30 = .ok (.lload_n 1, 1) := by decide +kernel
theorem dX7_digest_31 : decode cX7_digest 31 = .ok (.lmul, 1) := by decide +kernel
theorem dX7_digest_32 : decode cX7_digest 32 = .ok (.aload_n 0, 1) := by decide +kernel
theorem dX7_digest_33 : decode cX7_digest 33 = .ok (.getfield 10, 3) := by decide +kernel
theorem dX7_digest_36 : decode cX7_digest 36 = .ok (.iload_n 3, 1) := by decide +kernel
theorem dX7_digest_37 : decode cX7_digest 37 = .ok (.iload 4, 2) := by decide +kernel
theorem dX7_digest_39 : decode cX7_digest 39 = .ok (.invokevirtual 101, 3) := by decide +kernel
theorem dX7_digest_42 : decode cX7_digest 42 = .ok (.i2l, 1) := by decide +kernel
theorem dX7_digest_43 : decode cX7_digest 43 = .ok (.ladd, 1) := by decide +kernel
theorem dX7_digest_44 : decode cX7_digest 44 = .ok (.lstore_n 1, 1) := by decide +kernel
theorem dX7_digest_45 : decode cX7_digest 45 = .ok (.iinc 4 1, 3) := by decide +kernel
theorem dX7_digest_48 : decode cX7_digest 48 = .ok (.goto (-28), 3) := by decide +kernel
theorem dX7_digest_51 : decode cX7_digest 51 = .ok (.iinc 3 1, 3) := by decide +kernel
theorem dX7_digest_54 : decode cX7_digest 54 = .ok (.goto (-48), 3) := by decide +kernel
theorem dX7_digest_57 : decode cX7_digest 57 = .ok (.ldc2_w 194, 3) := by decide +kernel
theorem dX7_digest_60 : decode cX7_digest 60 = .ok (.lload_n 1, 1) := by decide +kernel
theorem dX7_digest_61 : decode cX7_digest 61 = .ok (.lmul, 1) := by decide +kernel
theorem dX7_digest_62 : decode cX7_digest 62 = .ok (.aload_n 0, 1) := by decide +kernel
theorem dX7_digest_63 : decode cX7_digest 63 = .ok (.getfield 64, 3) := by decide +kernel
theorem dX7_digest_66 : decode cX7_digest 66 = .ok (.i2l, 1) := by decide +kernel
theorem dX7_digest_67 : decode cX7_digest 67 = .ok (.ladd, 1) := by decide +kernel
theorem dX7_digest_68 : decode cX7_digest 68 = .ok (.lstore_n 1, 1) := by decide +kernel
theorem dX7_digest_69 : decode cX7_digest 69 = .ok (.iconst 0, 1) := by decide +kernel
theorem dX7_digest_70 : decode cX7_digest 70 = .ok (.istore_n 3, 1) := by decide +kernel
theorem dX7_digest_71 : decode cX7_digest 71 = .ok (.iload_n 3, 1) := by decide +kernel
theorem dX7_digest_72 : decode cX7_digest 72 = .ok (.aload_n 0, 1) := by decide +kernel
theorem dX7_digest_73 : decode cX7_digest 73 = .ok (.getfield 60, 3) := by decide +kernel
theorem dX7_digest_76 : decode cX7_digest 76 = .ok (.getfield 188, 3) := by decide +kernel
theorem dX7_digest_79 : decode cX7_digest 79 = .ok (.if_icmp .ge 26, 3) := by decide +kernel
theorem dX7_digest_82 : decode cX7_digest 82 = .ok (.ldc2_w 194, 3) := by decide +kernel
theorem dX7_digest_85 : decode cX7_digest 85 = .ok (.lload_n 1, 1) := by decide +kernel
theorem dX7_digest_86 : decode cX7_digest 86 = .ok (.lmul, 1) := by decide +kernel
theorem dX7_digest_87 : decode cX7_digest 87 = .ok (.aload_n 0, 1) := by decide +kernel
theorem dX7_digest_88 : decode cX7_digest 88 = .ok (.getfield 60, 3) := by decide +kernel
theorem dX7_digest_91 : decode cX7_digest 91 = .ok (.getfield 196, 3) := by decide +kernel
theorem dX7_digest_94 : decode cX7_digest 94 = .ok (.iload_n 3, 1) := by decide +kernel
theorem dX7_digest_95 : decode cX7_digest 95 = .ok (.iaload, 1) := by decide +kernel
theorem dX7_digest_96 : decode cX7_digest 96 = .ok (.i2l, 1) := by decide +kernel
theorem dX7_digest_97 : decode cX7_digest 97 = .ok (.ladd, 1) := by decide +kernel
theorem dX7_digest_98 : decode cX7_digest 98 = .ok (.lstore_n 1, 1) := by decide +kernel
theorem dX7_digest_99 : decode cX7_digest 99 = .ok (.iinc 3 1, 3) := by decide +kernel
theorem dX7_digest_102 : decode cX7_digest 102 = .ok (.goto (-31), 3) := by decide +kernel
theorem dX7_digest_105 : decode cX7_digest 105 = .ok (.aload_n 0, 1) := by decide +kernel
theorem dX7_digest_106 : decode cX7_digest 106 = .ok (.getfield 53, 3) := by decide +kernel
theorem dX7_digest_109 : decode cX7_digest 109 = .ok (.invokevirtual 164, 3) := by decide +kernel
theorem dX7_digest_112 : decode cX7_digest 112 = .ok (.ldc2_w 194, 3) := by decide +kernel
theorem dX7_digest_115 : decode cX7_digest 115 = .ok (.lload_n 1, 1) := by decide +kernel
theorem dX7_digest_116 : decode cX7_digest 116 = .ok (.lmul, 1) := by decide +kernel
theorem dX7_digest_117 : decode cX7_digest 117 = .ok (.aload_n 0, 1) := by decide +kernel
theorem dX7_digest_118 : decode cX7_digest 118 = .ok (.getfield 53, 3) := by decide +kernel
theorem dX7_digest_121 : decode cX7_digest 121 = .ok (.getfield 166, 3) := by decide +kernel
theorem dX7_digest_124 : decode cX7_digest 124 = .ok (.i2l, 1) := by decide +kernel
theorem dX7_digest_125 : decode cX7_digest 125 = .ok (.ladd, 1) := by decide +kernel
theorem dX7_digest_126 : decode cX7_digest 126 = .ok (.lreturn, 1) := by decide +kernel
theorem dX7_opensTooMany_0 : decode cX7_opensTooMany 0 = .ok (.aload_n 0, 1) := by decide +kernel
theorem dX7_opensTooMany_1 : decode cX7_opensTooMany 1 = .ok (.getfield 10, 3) := by decide +kernel
theorem dX7_opensTooMany_4 : decode cX7_opensTooMany 4 = .ok (.iload_n 1, 1) := by decide +kernel
theorem dX7_opensTooMany_5 : decode cX7_opensTooMany 5 = .ok (.invokevirtual 189, 3) := by decide +kernel
theorem dX7_opensTooMany_8 : decode cX7_opensTooMany 8 = .ok (.istore_n 3, 1) := by decide +kernel
theorem dX7_opensTooMany_9 : decode cX7_opensTooMany 9 = .ok (.iload_n 2, 1) := by decide +kernel
theorem dX7_opensTooMany_10 : decode cX7_opensTooMany 10 = .ok (.iconst (-1), 1) := by decide +kernel
theorem dX7_opensTooMany_11 : decode cX7_opensTooMany 11 = .ok (.if_icmp .eq 24, 3) := by decide +kernel
theorem dX7_opensTooMany_14 : decode cX7_opensTooMany 14 = .ok (.iload_n 3, 1) := by decide +kernel
theorem dX7_opensTooMany_15 : decode cX7_opensTooMany 15 = .ok (.iload_n 2, 1) := by decide +kernel
theorem dX7_opensTooMany_16 : decode cX7_opensTooMany 16 = .ok (.invokestatic 98, 3) := by decide +kernel
theorem dX7_opensTooMany_19 : decode cX7_opensTooMany 19 = .ok (.ifCond .ne 16, 3) := by decide +kernel
theorem dX7_opensTooMany_22 : decode cX7_opensTooMany 22 = .ok (.iload_n 3, 1) := by decide +kernel
theorem dX7_opensTooMany_23 : decode cX7_opensTooMany 23 = .ok (.invokestatic 179, 3) := by decide +kernel
theorem dX7_opensTooMany_26 : decode cX7_opensTooMany 26 = .ok (.bipush 6, 2) := by decide +kernel
theorem dX7_opensTooMany_28 : decode cX7_opensTooMany 28 = .ok (.if_icmp .lt 7, 3) := by decide +kernel
theorem dX7_opensTooMany_31 : decode cX7_opensTooMany 31 = .ok (.iconst 1, 1) := by decide +kernel
theorem dX7_opensTooMany_32 : decode cX7_opensTooMany 32 = .ok (.goto 4, 3) := by decide +kernel
theorem dX7_opensTooMany_35 : decode cX7_opensTooMany 35 = .ok (.iconst 0, 1) := by decide +kernel
theorem dX7_opensTooMany_36 : decode cX7_opensTooMany 36 = .ok (.ireturn, 1) := by decide +kernel
theorem dX7_change_0 : decode cX7_change 0 = .ok (.aload_n 0, 1) := by decide +kernel
theorem dX7_change_1 : decode cX7_change 1 = .ok (.getfield 10, 3) := by decide +kernel
theorem dX7_change_4 : decode cX7_change 4 = .ok (.iload_n 1, 1) := by decide +kernel
theorem dX7_change_5 : decode cX7_change 5 = .ok (.iload_n 2, 1) := by decide +kernel
theorem dX7_change_6 : decode cX7_change 6 = .ok (.invokevirtual 101, 3) := by decide +kernel
theorem dX7_change_9 : decode cX7_change 9 = .ok (.istore 4, 2) := by decide +kernel
theorem dX7_change_11 : decode cX7_change 11 = .ok (.aload_n 0, 1) := by decide +kernel
theorem dX7_change_12 : decode cX7_change 12 = .ok (.getfield 10, 3) := by decide +kernel
theorem dX7_change_15 : decode cX7_change 15 = .ok (.iload_n 1, 1) := by decide +kernel
theorem dX7_change_16 : decode cX7_change 16 = .ok (.iload_n 2, 1) := by decide +kernel
theorem dX7_change_17 : decode cX7_change 17 = .ok (.iload_n 3, 1) := by decide +kernel
theorem dX7_change_18 : decode cX7_change 18 = .ok (.invokevirtual 107, 3) := by decide +kernel
theorem dX7_change_21 : decode cX7_change 21 = .ok (.iload 4, 2) := by decide +kernel
theorem dX7_change_23 : decode cX7_change 23 = .ok (.iload_n 3, 1) := by decide +kernel
theorem dX7_change_24 : decode cX7_change 24 = .ok (.if_icmp .eq 17, 3) := by decide +kernel
theorem dX7_change_27 : decode cX7_change 27 = .ok (.iload_n 2, 1) := by decide +kernel
theorem dX7_change_28 : decode cX7_change 28 = .ok (.ifCond .eq 8, 3) := by decide +kernel
theorem dX7_change_31 : decode cX7_change 31 = .ok (.iload_n 2, 1) := by decide +kernel
theorem dX7_change_32 : decode cX7_change 32 = .ok (.iconst 5, 1) := by decide +kernel
theorem dX7_change_33 : decode cX7_change 33 = .ok (.if_icmp .ne 8, 3) := by decide +kernel
theorem dX7_change_36 : decode cX7_change 36 = .ok (.aload_n 0, 1) := by decide +kernel
theorem dX7_change_37 : decode cX7_change 37 = .ok (.iload_n 1, 1) := by decide +kernel
theorem dX7_change_38 : decode cX7_change 38 = .ok (.invokevirtual 200, 3) := by decide +kernel
theorem dX7_change_41 : decode cX7_change 41 = .ok (.iload_n 2, 1) := by decide +kernel
theorem dX7_change_42 : decode cX7_change 42 = .ok (.bipush 6, 2) := by decide +kernel
theorem dX7_change_44 : decode cX7_change 44 = .ok (.if_icmp .ne 10, 3) := by decide +kernel
theorem dX7_change_47 : decode cX7_change 47 = .ok (.aload_n 0, 1) := by decide +kernel
theorem dX7_change_48 : decode cX7_change 48 = .ok (.getfield 35, 3) := by decide +kernel
theorem dX7_change_51 : decode cX7_change 51 = .ok (.invokevirtual 80, 3) := by decide +kernel
theorem dX7_change_54 : decode cX7_change 54 = .ok (.iload_n 2, 1) := by decide +kernel
theorem dX7_change_55 : decode cX7_change 55 = .ok (.iconst 5, 1) := by decide +kernel
theorem dX7_change_56 : decode cX7_change 56 = .ok (.if_icmp .ne 25, 3) := by decide +kernel
theorem dX7_change_59 : decode cX7_change 59 = .ok (.aload_n 0, 1) := by decide +kernel
theorem dX7_change_60 : decode cX7_change 60 = .ok (.getfield 10, 3) := by decide +kernel
theorem dX7_change_63 : decode cX7_change 63 = .ok (.invokevirtual 94, 3) := by decide +kernel
theorem dX7_change_66 : decode cX7_change 66 = .ok (.aload_n 0, 1) := by decide +kernel
theorem dX7_change_67 : decode cX7_change 67 = .ok (.getfield 64, 3) := by decide +kernel
theorem dX7_change_70 : decode cX7_change 70 = .ok (.invokestatic 98, 3) := by decide +kernel
theorem dX7_change_73 : decode cX7_change 73 = .ok (.ifCond .ne 8, 3) := by decide +kernel
theorem dX7_change_76 : decode cX7_change 76 = .ok (.aload_n 0, 1) := by decide +kernel
theorem dX7_change_77 : decode cX7_change 77 = .ok (.iconst (-1), 1) := by decide +kernel
theorem dX7_change_78 : decode cX7_change 78 = .ok (.putfield 64, 3) := by decide +kernel
theorem dX7_change_81 : decode cX7_change 81 = .ok (.iload 4, 2) := by decide +kernel
theorem dX7_change_83 : decode cX7_change 83 = .ok (.ireturn, 1) := by decide +kernel
theorem dX7_enter_0 : decode cX7_enter 0 = .ok (.aload_n 0, 1) := by decide +kernel
theorem dX7_enter_1 : decode cX7_enter 1 = .ok (.getfield 10, 3) := by decide +kernel
theorem dX7_enter_4 : decode cX7_enter 4 = .ok (.aload_n 0, 1) := by decide +kernel
theorem dX7_enter_5 : decode cX7_enter 5 = .ok (.getfield 64, 3) := by decide +kernel
theorem dX7_enter_8 : decode cX7_enter 8 = .ok (.invokevirtual 203, 3) := by decide +kernel
theorem dX7_enter_11 : decode cX7_enter 11 = .ok (.istore_n 1, 1) := by decide +kernel
theorem dX7_enter_12 : decode cX7_enter 12 = .ok (.iload_n 1, 1) := by decide +kernel
theorem dX7_enter_13 : decode cX7_enter 13 = .ok (.iconst (-1), 1) := by decide +kernel
theorem dX7_enter_14 : decode cX7_enter 14 = .ok (.if_icmp .eq 21, 3) := by decide +kernel
theorem dX7_enter_17 : decode cX7_enter 17 = .ok (.aload_n 0, 1) := by decide +kernel
theorem dX7_enter_18 : decode cX7_enter 18 = .ok (.iload_n 1, 1) := by decide +kernel
theorem dX7_enter_19 : decode cX7_enter 19 = .ok (.iconst 5, 1) := by decide +kernel
theorem dX7_enter_20 : decode cX7_enter 20 = .ok (.iconst 1, 1) := by decide +kernel
theorem dX7_enter_21 : decode cX7_enter 21 = .ok (.aload_n 0, 1) := by decide +kernel
theorem dX7_enter_22 : decode cX7_enter 22 = .ok (.getfield 10, 3) := by decide +kernel
theorem dX7_enter_25 : decode cX7_enter 25 = .ok (.iload_n 1, 1) := by decide +kernel
theorem dX7_enter_26 : decode cX7_enter 26 = .ok (.iconst 5, 1) := by decide +kernel
theorem dX7_enter_27 : decode cX7_enter 27 = .ok (.invokevirtual 101, 3) := by decide +kernel
theorem dX7_enter_30 : decode cX7_enter 30 = .ok (.isub, 1) := by decide +kernel
theorem dX7_enter_31 : decode cX7_enter 31 = .ok (.invokevirtual 90, 3) := by decide +kernel
theorem dX7_enter_34 : decode cX7_enter 34 = .ok (.pop, 1) := by decide +kernel
theorem dX7_enter_35 : decode cX7_enter 35 = .ok (.return_, 1) := by decide +kernel
theorem dX7_speakOf_0 : decode cX7_speakOf 0 = .ok (.aload_n 0, 1) := by decide +kernel
theorem dX7_speakOf_1 : decode cX7_speakOf 1 = .ok (.getfield 10, 3) := by decide +kernel
theorem dX7_speakOf_4 : decode cX7_speakOf 4 = .ok (.iload_n 1, 1) := by decide +kernel
theorem dX7_speakOf_5 : decode cX7_speakOf 5 = .ok (.invokevirtual 206, 3) := by decide +kernel
theorem dX7_speakOf_8 : decode cX7_speakOf 8 = .ok (.istore_n 2, 1) := by decide +kernel
theorem dX7_speakOf_9 : decode cX7_speakOf 9 = .ok (.aload_n 0, 1) := by decide +kernel
theorem dX7_speakOf_10 : decode cX7_speakOf 10 = .ok (.getfield 10, 3) := by decide +kernel
theorem dX7_speakOf_13 : decode cX7_speakOf 13 = .ok (.invokevirtual 94, 3) := by decide +kernel
theorem dX7_speakOf_16 : decode cX7_speakOf 16 = .ok (.iload_n 2, 1) := by decide +kernel
theorem dX7_speakOf_17 : decode cX7_speakOf 17 = .ok (.invokestatic 98, 3) := by decide +kernel
theorem dX7_speakOf_20 : decode cX7_speakOf 20 = .ok (.ifCond .eq 11, 3) := by decide +kernel
theorem dX7_speakOf_23 : decode cX7_speakOf 23 = .ok (.aload_n 0, 1) := by decide +kernel
theorem dX7_speakOf_24 : decode cX7_speakOf 24 = .ok (.getfield 60, 3) := by decide +kernel
theorem dX7_speakOf_27 : decode cX7_speakOf 27 = .ok (.iload_n 2, 1) := by decide +kernel
theorem dX7_speakOf_28 : decode cX7_speakOf 28 = .ok (.invokevirtual 209, 3) := by decide +kernel
theorem dX7_speakOf_31 : decode cX7_speakOf 31 = .ok (.return_, 1) := by decide +kernel
theorem dX7_isLength_0 : decode cX7_isLength 0 = .ok (.iload_n 0, 1) := by decide +kernel
theorem dX7_isLength_1 : decode cX7_isLength 1 = .ok (.ifCond .lt 14, 3) := by decide +kernel
theorem dX7_isLength_4 : decode cX7_isLength 4 = .ok (.iload_n 0, 1) := by decide +kernel
theorem dX7_isLength_5 : decode cX7_isLength 5 = .ok (.sipush 10000, 3) := by decide +kernel
theorem dX7_isLength_8 : decode cX7_isLength 8 = .ok (.if_icmp .gt 7, 3) := by decide +kernel
theorem dX7_isLength_11 : decode cX7_isLength 11 = .ok (.iconst 1, 1) := by decide +kernel
theorem dX7_isLength_12 : decode cX7_isLength 12 = .ok (.goto 4, 3) := by decide +kernel
theorem dX7_isLength_15 : decode cX7_isLength 15 = .ok (.iconst 0, 1) := by decide +kernel
theorem dX7_isLength_16 : decode cX7_isLength 16 = .ok (.ireturn, 1) := by decide +kernel
theorem dX7_isColour_0 : decode cX7_isColour 0 = .ok (.iload_n 0, 1) := by decide +kernel
theorem dX7_isColour_1 : decode cX7_isColour 1 = .ok (.ifCond .lt 13, 3) := by decide +kernel
theorem dX7_isColour_4 : decode cX7_isColour 4 = .ok (.iload_n 0, 1) := by decide +kernel
theorem dX7_isColour_5 : decode cX7_isColour 5 = .ok (.ldc 211, 2) := by decide +kernel
theorem dX7_isColour_7 : decode cX7_isColour 7 = .ok (.if_icmp .gt 7, 3) := by decide +kernel
theorem dX7_isColour_10 : decode cX7_isColour 10 = .ok (.iconst 1, 1) := by decide +kernel
theorem dX7_isColour_11 : decode cX7_isColour 11 = .ok (.goto 4, 3) := by decide +kernel
theorem dX7_isColour_14 : decode cX7_isColour 14 = .ok (.iconst 0, 1) := by decide +kernel
theorem dX7_isColour_15 : decode cX7_isColour 15 = .ok (.ireturn, 1) := by decide +kernel
theorem dX7_holds_0 : decode cX7_holds 0 = .ok (.iload_n 1, 1) := by decide +kernel
theorem dX7_holds_1 : decode cX7_holds 1 = .ok (.ifCond .lt 21, 3) := by decide +kernel
theorem dX7_holds_4 : decode cX7_holds 4 = .ok (.iload_n 1, 1) := by decide +kernel
theorem dX7_holds_5 : decode cX7_holds 5 = .ok (.bipush 24, 2) := by decide +kernel
theorem dX7_holds_7 : decode cX7_holds 7 = .ok (.if_icmp .ge 15, 3) := by decide +kernel
theorem dX7_holds_10 : decode cX7_holds 10 = .ok (.iload_n 0, 1) := by decide +kernel
theorem dX7_holds_11 : decode cX7_holds 11 = .ok (.iload_n 1, 1) := by decide +kernel
theorem dX7_holds_12 : decode cX7_holds 12 = .ok (.ishr, 1) := by decide +kernel
theorem dX7_holds_13 : decode cX7_holds 13 = .ok (.iconst 1, 1) := by decide +kernel
theorem dX7_holds_14 : decode cX7_holds 14 = .ok (.iand, 1) := by decide +kernel
theorem dX7_holds_15 : decode cX7_holds 15 = .ok (.ifCond .eq 7, 3) := by decide +kernel
theorem dX7_holds_18 : decode cX7_holds 18 = .ok (.iconst 1, 1) := by decide +kernel
theorem dX7_holds_19 : decode cX7_holds 19 = .ok (.goto 4, 3) := by decide +kernel
theorem dX7_holds_22 : decode cX7_holds 22 = .ok (.iconst 0, 1) := by decide +kernel
theorem dX7_holds_23 : decode cX7_holds 23 = .ok (.ireturn, 1) := by decide +kernel
theorem dX7_lastOf_0 : decode cX7_lastOf 0 = .ok (.bipush 23, 2) := by decide +kernel
theorem dX7_lastOf_2 : decode cX7_lastOf 2 = .ok (.istore_n 1, 1) := by decide +kernel
theorem dX7_lastOf_3 : decode cX7_lastOf 3 = .ok (.iload_n 1, 1) := by decide +kernel
theorem dX7_lastOf_4 : decode cX7_lastOf 4 = .ok (.ifCond .lt 19, 3) := by decide +kernel
theorem dX7_lastOf_7 : decode cX7_lastOf 7 = .ok (.iload_n 0, 1) := by decide +kernel
theorem dX7_lastOf_8 : decode cX7_lastOf 8 = .ok (.iload_n 1, 1) := by decide +kernel
theorem dX7_lastOf_9 : decode cX7_lastOf 9 = .ok (.ishr, 1) := by decide +kernel
theorem dX7_lastOf_10 : decode cX7_lastOf 10 = .ok (.iconst 1, 1) := by decide +kernel
theorem dX7_lastOf_11 : decode cX7_lastOf 11 = .ok (.iand, 1) := by decide +kernel
theorem dX7_lastOf_12 : decode cX7_lastOf 12 = .ok (.ifCond .eq 5, 3) := by decide +kernel
theorem dX7_lastOf_15 : decode cX7_lastOf 15 = .ok (.iload_n 1, 1) := by decide +kernel
theorem dX7_lastOf_16 : decode cX7_lastOf 16 = .ok (.ireturn, 1) := by decide +kernel
theorem dX7_lastOf_17 : decode cX7_lastOf 17 = .ok (.iinc 1 (-1), 3) := by decide +kernel
theorem dX7_lastOf_20 : decode cX7_lastOf 20 = .ok (.goto (-17), 3) := by decide +kernel
theorem dX7_lastOf_23 : decode cX7_lastOf 23 = .ok (.iconst (-1), 1) := by decide +kernel
theorem dX7_lastOf_24 : decode cX7_lastOf 24 = .ok (.ireturn, 1) := by decide +kernel
theorem dX7_light_0 : decode cX7_light 0 = .ok (.sipush 2126, 3) := by decide +kernel
theorem dX7_light_3 : decode cX7_light 3 = .ok (.iload_n 0, 1) := by decide +kernel
theorem dX7_light_4 : decode cX7_light 4 = .ok (.bipush 16, 2) := by decide +kernel
theorem dX7_light_6 : decode cX7_light 6 = .ok (.ishr, 1) := by decide +kernel
theorem dX7_light_7 : decode cX7_light 7 = .ok (.sipush 255, 3) := by decide +kernel
theorem dX7_light_10 : decode cX7_light 10 = .ok (.iand, 1) := by decide +kernel
theorem dX7_light_11 : decode cX7_light 11 = .ok (.imul, 1) := by decide +kernel
theorem dX7_light_12 : decode cX7_light 12 = .ok (.sipush 7152, 3) := by decide +kernel
theorem dX7_light_15 : decode cX7_light 15 = .ok (.iload_n 0, 1) := by decide +kernel
theorem dX7_light_16 : decode cX7_light 16 = .ok (.bipush 8, 2) := by decide +kernel
theorem dX7_light_18 : decode cX7_light 18 = .ok (.ishr, 1) := by decide +kernel
theorem dX7_light_19 : decode cX7_light 19 = .ok (.sipush 255, 3) := by decide +kernel
theorem dX7_light_22 : decode cX7_light 22 = .ok (.iand, 1) := by decide +kernel
theorem dX7_light_23 : decode cX7_light 23 = .ok (.imul, 1) := by decide +kernel
theorem dX7_light_24 : decode cX7_light 24 = .ok (.iadd, 1) := by decide +kernel
theorem dX7_light_25 : decode cX7_light 25 = .ok (.sipush 722, 3) := by decide +kernel
theorem dX7_light_28 : decode cX7_light 28 = .ok (.iload_n 0, 1) := by decide +kernel
theorem dX7_light_29 : decode cX7_light 29 = .ok (.sipush 255, 3) := by decide +kernel
theorem dX7_light_32 : decode cX7_light 32 = .ok (.iand, 1) := by decide +kernel
theorem dX7_light_33 : decode cX7_light 33 = .ok (.imul, 1) := by decide +kernel
theorem dX7_light_34 : decode cX7_light 34 = .ok (.iadd, 1) := by decide +kernel
theorem dX7_light_35 : decode cX7_light 35 = .ok (.ireturn, 1) := by decide +kernel
theorem dX7_contrastBetween_0 : decode cX7_contrastBetween 0 = .ok (.iload_n 0, 1) := by decide +kernel
theorem dX7_contrastBetween_1 : decode cX7_contrastBetween 1 = .ok (.invokestatic 212, 3) := by decide +kernel
theorem dX7_contrastBetween_4 : decode cX7_contrastBetween 4 = .ok (.iload_n 1, 1) := by decide +kernel
theorem dX7_contrastBetween_5 : decode cX7_contrastBetween 5 = .ok (.invokestatic 212, 3) := by decide +kernel
theorem dX7_contrastBetween_8 : decode cX7_contrastBetween 8 = .ok (.invokestatic 215, 3) := by decide +kernel
theorem dX7_contrastBetween_11 : decode cX7_contrastBetween 11 = .ok (.ldc 220, 2) := by decide +kernel
theorem dX7_contrastBetween_13 : decode cX7_contrastBetween 13 = .ok (.iadd, 1) := by decide +kernel
theorem dX7_contrastBetween_14 : decode cX7_contrastBetween 14 = .ok (.i2l, 1) := by decide +kernel
theorem dX7_contrastBetween_15 : decode cX7_contrastBetween 15 = .ok (.lstore_n 2, 1) := by decide +kernel
theorem dX7_contrastBetween_16 : decode cX7_contrastBetween 16 = .ok (.iload_n 0, 1) := by decide +kernel
theorem dX7_contrastBetween_17 : decode cX7_contrastBetween 17 = .ok (.invokestatic 212, 3) := by decide +kernel
theorem dX7_contrastBetween_20 : decode cX7_contrastBetween 20 = .ok (.iload_n 1, 1) := by decide +kernel
theorem dX7_contrastBetween_21 : decode cX7_contrastBetween 21 = .ok (.invokestatic 212, 3) := by decide +kernel
theorem dX7_contrastBetween_24 : decode cX7_contrastBetween 24 = .ok (.invokestatic 221, 3) := by decide +kernel
theorem dX7_contrastBetween_27 : decode cX7_contrastBetween 27 = .ok (.ldc 220, 2) := by decide +kernel
theorem dX7_contrastBetween_29 : decode cX7_contrastBetween 29 = .ok (.iadd, 1) := by decide +kernel
theorem dX7_contrastBetween_30 : decode cX7_contrastBetween 30 = .ok (.i2l, 1) := by decide +kernel
theorem dX7_contrastBetween_31 : decode cX7_contrastBetween 31 = .ok (.lstore 4, 2) := by decide +kernel
theorem dX7_contrastBetween_33 : decode cX7_contrastBetween 33 = .ok (.lload 4, 2) := by decide +kernel
theorem dX7_contrastBetween_35 : decode cX7_contrastBetween 35 = .ok (.lconst 0, 1) := by decide +kernel
theorem dX7_contrastBetween_36 : decode cX7_contrastBetween 36 = .ok (.lcmp, 1) := by decide +kernel
theorem dX7_contrastBetween_37 : decode cX7_contrastBetween 37 = .ok (.ifCond .le 15, 3) := by decide +kernel
theorem dX7_contrastBetween_40 : decode cX7_contrastBetween 40 = .ok (.ldc2_w 224, 3) := by decide +kernel
theorem dX7_contrastBetween_43 : decode cX7_contrastBetween 43 = .ok (.lload_n 2, 1) := by decide +kernel
theorem dX7_contrastBetween_44 : decode cX7_contrastBetween 44 = .ok (.lmul, 1) := by decide +kernel
theorem dX7_contrastBetween_45 : decode cX7_contrastBetween 45 = .ok (.lload 4, 2) := by decide +kernel
theorem dX7_contrastBetween_47 : decode cX7_contrastBetween 47 = .ok (.ldiv, 1) := by decide +kernel
theorem dX7_contrastBetween_48 : decode cX7_contrastBetween 48 = .ok (.l2i, 1) := by decide +kernel
theorem dX7_contrastBetween_49 : decode cX7_contrastBetween 49 = .ok (.goto 4, 3) := by decide +kernel
theorem dX7_contrastBetween_52 : decode cX7_contrastBetween 52 = .ok (.iconst 0, 1) := by decide +kernel
theorem dX7_contrastBetween_53 : decode cX7_contrastBetween 53 = .ok (.ireturn, 1) := by decide +kernel
theorem dJ6_bitCount_0f7a4_0 : decode cJ6_bitCount_0f7a4 0 = .ok (.iload_n 0, 1) := by decide +kernel
theorem dJ6_bitCount_0f7a4_1 : decode cJ6_bitCount_0f7a4 1 = .ok (.iload_n 0, 1) := by decide +kernel
theorem dJ6_bitCount_0f7a4_2 : decode cJ6_bitCount_0f7a4 2 = .ok (.iconst 1, 1) := by decide +kernel
theorem dJ6_bitCount_0f7a4_3 : decode cJ6_bitCount_0f7a4 3 = .ok (.iushr, 1) := by decide +kernel
theorem dJ6_bitCount_0f7a4_4 : decode cJ6_bitCount_0f7a4 4 = .ok (.ldc_w 265, 3) := by decide +kernel
theorem dJ6_bitCount_0f7a4_7 : decode cJ6_bitCount_0f7a4 7 = .ok (.iand, 1) := by decide +kernel
theorem dJ6_bitCount_0f7a4_8 : decode cJ6_bitCount_0f7a4 8 = .ok (.isub, 1) := by decide +kernel
theorem dJ6_bitCount_0f7a4_9 : decode cJ6_bitCount_0f7a4 9 = .ok (.istore_n 0, 1) := by decide +kernel
theorem dJ6_bitCount_0f7a4_10 : decode cJ6_bitCount_0f7a4 10 = .ok (.iload_n 0, 1) := by decide +kernel
theorem dJ6_bitCount_0f7a4_11 : decode cJ6_bitCount_0f7a4 11 = .ok (.ldc_w 266, 3) := by decide +kernel
theorem dJ6_bitCount_0f7a4_14 : decode cJ6_bitCount_0f7a4 14 = .ok (.iand, 1) := by decide +kernel
theorem dJ6_bitCount_0f7a4_15 : decode cJ6_bitCount_0f7a4 15 = .ok (.iload_n 0, 1) := by decide +kernel
theorem dJ6_bitCount_0f7a4_16 : decode cJ6_bitCount_0f7a4 16 = .ok (.iconst 2, 1) := by decide +kernel
theorem dJ6_bitCount_0f7a4_17 : decode cJ6_bitCount_0f7a4 17 = .ok (.iushr, 1) := by decide +kernel
theorem dJ6_bitCount_0f7a4_18 : decode cJ6_bitCount_0f7a4 18 = .ok (.ldc_w 266, 3) := by decide +kernel
theorem dJ6_bitCount_0f7a4_21 : decode cJ6_bitCount_0f7a4 21 = .ok (.iand, 1) := by decide +kernel
theorem dJ6_bitCount_0f7a4_22 : decode cJ6_bitCount_0f7a4 22 = .ok (.iadd, 1) := by decide +kernel
theorem dJ6_bitCount_0f7a4_23 : decode cJ6_bitCount_0f7a4 23 = .ok (.istore_n 0, 1) := by decide +kernel
theorem dJ6_bitCount_0f7a4_24 : decode cJ6_bitCount_0f7a4 24 = .ok (.iload_n 0, 1) := by decide +kernel
theorem dJ6_bitCount_0f7a4_25 : decode cJ6_bitCount_0f7a4 25 = .ok (.iload_n 0, 1) := by decide +kernel
theorem dJ6_bitCount_0f7a4_26 : decode cJ6_bitCount_0f7a4 26 = .ok (.iconst 4, 1) := by decide +kernel
theorem dJ6_bitCount_0f7a4_27 : decode cJ6_bitCount_0f7a4 27 = .ok (.iushr, 1) := by decide +kernel
theorem dJ6_bitCount_0f7a4_28 : decode cJ6_bitCount_0f7a4 28 = .ok (.iadd, 1) := by decide +kernel
theorem dJ6_bitCount_0f7a4_29 : decode cJ6_bitCount_0f7a4 29 = .ok (.ldc_w 267, 3) := by decide +kernel
theorem dJ6_bitCount_0f7a4_32 : decode cJ6_bitCount_0f7a4 32 = .ok (.iand, 1) := by decide +kernel
theorem dJ6_bitCount_0f7a4_33 : decode cJ6_bitCount_0f7a4 33 = .ok (.istore_n 0, 1) := by decide +kernel
theorem dJ6_bitCount_0f7a4_34 : decode cJ6_bitCount_0f7a4 34 = .ok (.iload_n 0, 1) := by decide +kernel
theorem dJ6_bitCount_0f7a4_35 : decode cJ6_bitCount_0f7a4 35 = .ok (.iload_n 0, 1) := by decide +kernel
theorem dJ6_bitCount_0f7a4_36 : decode cJ6_bitCount_0f7a4 36 = .ok (.bipush 8, 2) := by decide +kernel
theorem dJ6_bitCount_0f7a4_38 : decode cJ6_bitCount_0f7a4 38 = .ok (.iushr, 1) := by decide +kernel
theorem dJ6_bitCount_0f7a4_39 : decode cJ6_bitCount_0f7a4 39 = .ok (.iadd, 1) := by decide +kernel
theorem dJ6_bitCount_0f7a4_40 : decode cJ6_bitCount_0f7a4 40 = .ok (.istore_n 0, 1) := by decide +kernel
theorem dJ6_bitCount_0f7a4_41 : decode cJ6_bitCount_0f7a4 41 = .ok (.iload_n 0, 1) := by decide +kernel
theorem dJ6_bitCount_0f7a4_42 : decode cJ6_bitCount_0f7a4 42 = .ok (.iload_n 0, 1) := by decide +kernel
theorem dJ6_bitCount_0f7a4_43 : decode cJ6_bitCount_0f7a4 43 = .ok (.bipush 16, 2) := by decide +kernel
theorem dJ6_bitCount_0f7a4_45 : decode cJ6_bitCount_0f7a4 45 = .ok (.iushr, 1) := by decide +kernel
theorem dJ6_bitCount_0f7a4_46 : decode cJ6_bitCount_0f7a4 46 = .ok (.iadd, 1) := by decide +kernel
theorem dJ6_bitCount_0f7a4_47 : decode cJ6_bitCount_0f7a4 47 = .ok (.istore_n 0, 1) := by decide +kernel
theorem dJ6_bitCount_0f7a4_48 : decode cJ6_bitCount_0f7a4 48 = .ok (.iload_n 0, 1) := by decide +kernel
theorem dJ6_bitCount_0f7a4_49 : decode cJ6_bitCount_0f7a4 49 = .ok (.bipush 63, 2) := by decide +kernel
theorem dJ6_bitCount_0f7a4_51 : decode cJ6_bitCount_0f7a4 51 = .ok (.iand, 1) := by decide +kernel
theorem dJ6_bitCount_0f7a4_52 : decode cJ6_bitCount_0f7a4 52 = .ok (.ireturn, 1) := by decide +kernel
theorem dJ9_max_7cf53_0 : decode cJ9_max_7cf53 0 = .ok (.iload_n 0, 1) := by decide +kernel
theorem dJ9_max_7cf53_1 : decode cJ9_max_7cf53 1 = .ok (.iload_n 1, 1) := by decide +kernel
theorem dJ9_max_7cf53_2 : decode cJ9_max_7cf53 2 = .ok (.if_icmp .lt 7, 3) := by decide +kernel
theorem dJ9_max_7cf53_5 : decode cJ9_max_7cf53 5 = .ok (.iload_n 0, 1) := by decide +kernel
theorem dJ9_max_7cf53_6 : decode cJ9_max_7cf53 6 = .ok (.goto 4, 3) := by decide +kernel
theorem dJ9_max_7cf53_9 : decode cJ9_max_7cf53 9 = .ok (.iload_n 1, 1) := by decide +kernel
theorem dJ9_max_7cf53_10 : decode cJ9_max_7cf53 10 = .ok (.ireturn, 1) := by decide +kernel
theorem dJ9_min_7cf53_0 : decode cJ9_min_7cf53 0 = .ok (.iload_n 0, 1) := by decide +kernel
theorem dJ9_min_7cf53_1 : decode cJ9_min_7cf53 1 = .ok (.iload_n 1, 1) := by decide +kernel
theorem dJ9_min_7cf53_2 : decode cJ9_min_7cf53 2 = .ok (.if_icmp .gt 7, 3) := by decide +kernel
theorem dJ9_min_7cf53_5 : decode cJ9_min_7cf53 5 = .ok (.iload_n 0, 1) := by decide +kernel
theorem dJ9_min_7cf53_6 : decode cJ9_min_7cf53 6 = .ok (.goto 4, 3) := by decide +kernel
theorem dJ9_min_7cf53_9 : decode cJ9_min_7cf53 9 = .ok (.iload_n 1, 1) := by decide +kernel
theorem dJ9_min_7cf53_10 : decode cJ9_min_7cf53 10 = .ok (.ireturn, 1) := by decide +kernel
