theorem dX8_init_0 : decode cX8_init 0 = .ok (.aload_n 0, 1) := by decide +kernel
theorem dX8_init_1 : decode cX8_init 1 = .ok (.invokespecial 1, 3) := by decide +kernel
theorem dX8_init_4 : decode cX8_init 4 = .ok (.aload_n 0, 1) := by decide +kernel
theorem dX8_init_5 : decode cX8_init 5 = .ok (.sipush 432, 3) := by decide +kernel
theorem dX8_init_8 : decode cX8_init 8 = .ok (.newarray .int, 2) := by decide +kernel
theorem dX8_init_10 : decode cX8_init 10 = .ok (.putfield 7, 3) := by decide +kernel
theorem dX8_init_13 : decode cX8_init 13 = .ok (.aload_n 0, 1) := by decide +kernel
theorem dX8_init_14 : decode cX8_init 14 = .ok (.bipush 24, 2) := by decide +kernel
theorem dX8_init_16 : decode cX8_init 16 = .ok (.newarray .int, 2) := by decide +kernel
theorem dX8_init_18 : decode cX8_init 18 = .ok (.putfield 13, 3) := by decide +kernel
theorem dX8_init_21 : decode cX8_init 21 = .ok (.aload_n 0, 1) := by decide +kernel
theorem dX8_init_22 : decode cX8_init 22 = .ok (.bipush 24, 2) := by decide +kernel
theorem dX8_init_24 : decode cX8_init 24 = .ok (.newarray .int, 2) := by decide +kernel
theorem dX8_init_26 : decode cX8_init 26 = .ok (.putfield 16, 3) := by decide +kernel
theorem dX8_init_29 : decode cX8_init 29 = .ok (.aload_n 0, 1) := by decide +kernel
theorem dX8_init_30 : decode cX8_init 30 = .ok (.bipush 24, 2) := by decide +kernel
theorem dX8_init_32 : decode cX8_init 32 = .ok (.newarray .int, 2) := by decide +kernel
theorem dX8_init_34 : decode cX8_init 34 = .ok (.putfield 19, 3) := by decide +kernel
theorem dX8_init_37 : decode cX8_init 37 = .ok (.aload_n 0, 1) := by decide +kernel
theorem dX8_init_38 : decode cX8_init 38 = .ok (.sipush 192, 3) := by decide +kernel
theorem dX8_init_41 : decode cX8_init 41 = .ok (.newarray .int, 2) := by decide +kernel
theorem dX8_init_43 : decode cX8_init 43 = .ok (.putfield 22, 3) := by decide +kernel
theorem dX8_init_46 : decode cX8_init 46 = .ok (.aload_n 0, 1) := by decide +kernel
theorem dX8_init_47 : decode cX8_init 47 = .ok (.bipush 24, 2) := by decide +kernel
theorem dX8_init_49 : decode cX8_init 49 = .ok (.newarray .int, 2) := by decide +kernel
theorem dX8_init_51 : decode cX8_init 51 = .ok (.putfield 25, 3) := by decide +kernel
theorem dX8_init_54 : decode cX8_init 54 = .ok (.aload_n 0, 1) := by decide +kernel
theorem dX8_init_55 : decode cX8_init 55 = .ok (.bipush 24, 2) := by decide +kernel
theorem dX8_init_57 : decode cX8_init 57 = .ok (.newarray .int, 2) := by decide +kernel
theorem dX8_init_59 : decode cX8_init 59 = .ok (.putfield 28, 3) := by decide +kernel
theorem dX8_init_62 : decode cX8_init 62 = .ok (.aload_n 0, 1) := by decide +kernel
theorem dX8_init_63 : decode cX8_init 63 = .ok (.bipush 24, 2) := by decide +kernel
theorem dX8_init_65 : decode cX8_init 65 = .ok (.newarray .int, 2) := by decide +kernel
theorem dX8_init_67 : decode cX8_init 67 = .ok (.putfield 31, 3) := by decide +kernel
theorem dX8_init_70 : decode cX8_init 70 = .ok (.aload_n 0, 1) := by decide +kernel
theorem dX8_init_71 : decode cX8_init 71 = .ok (.bipush 6, 2) := by decide +kernel
theorem dX8_init_73 : decode cX8_init 73 = .ok (.newarray .int, 2) := by decide +kernel
theorem dX8_init_75 : decode cX8_init 75 = .ok (.putfield 34, 3) := by decide +kernel
theorem dX8_init_78 : decode cX8_init 78 = .ok (.aload_n 0, 1) := by decide +kernel
theorem dX8_init_79 : decode cX8_init 79 = .ok (.sipush 1600, 3) := by decide +kernel
theorem dX8_init_82 : decode cX8_init 82 = .ok (.newarray .int, 2) := by decide +kernel
theorem dX8_init_84 : decode cX8_init 84 = .ok (.putfield 37, 3) := by decide +kernel
theorem dX8_init_87 : decode cX8_init 87 = .ok (.aload_n 0, 1) := by decide +kernel
theorem dX8_init_88 : decode cX8_init 88 = .ok (.sipush 1600, 3) := by decide +kernel
theorem dX8_init_91 : decode cX8_init 91 = .ok (.newarray .int, 2) := by decide +kernel
theorem dX8_init_93 : decode cX8_init 93 = .ok (.putfield 40, 3) := by decide +kernel
theorem dX8_init_96 : decode cX8_init 96 = .ok (.aload_n 0, 1) := by decide +kernel
theorem dX8_init_97 : decode cX8_init 97 = .ok (.sipush 144, 3) := by decide +kernel
theorem dX8_init_100 : decode cX8_init 100 = .ok (.newarray .int, 2) := by decide +kernel
theorem dX8_init_102 : decode cX8_init 102 = .ok (.putfield 43, 3) := by decide +kernel
theorem dX8_init_105 : decode cX8_init 105 = .ok (.aload_n 0, 1) := by decide +kernel
theorem dX8_init_106 : decode cX8_init 106 = .ok (.sipush 144, 3) := by decide +kernel
theorem dX8_init_109 : decode cX8_init 109 = .ok (.newarray .int, 2) := by decide +kernel
theorem dX8_init_111 : decode cX8_init 111 = .ok (.putfield 46, 3) := by decide +kernel
theorem dX8_init_114 : decode cX8_init 114 = .ok (.aload_n 0, 1) := by decide +kernel
theorem dX8_init_115 : decode cX8_init 115 = .ok (.iconst (-1), 1) := by decide +kernel
theorem dX8_init_116 : decode cX8_init 116 = .ok (.putfield 49, 3) := by decide +kernel
theorem dX8_init_119 : decode cX8_init 119 = .ok (.aload_n 0, 1) := by decide +kernel
theorem dX8_init_120 : decode cX8_init 120 = .ok (.iconst 0, 1) := by decide +kernel
theorem dX8_init_121 : decode cX8_init 121 = .ok (.iconst 0, 1) := by decide +kernel
theorem dX8_init_122 : decode cX8_init 122 = .ok (.iconst (-1), 1) := by decide +kernel
theorem dX8_init_123 : decode cX8_init 123 = .ok (.invokevirtual 53, 3) := by decide +kernel
theorem dX8_init_126 : decode cX8_init 126 = .ok (.aload_n 0, 1) := by decide +kernel
theorem dX8_init_127 : decode cX8_init 127 = .ok (.iconst 1, 1) := by decide +kernel
theorem dX8_init_128 : decode cX8_init 128 = .ok (.putfield 57, 3) := by decide +kernel
theorem dX8_init_131 : decode cX8_init 131 = .ok (.return_, 1) := by decide +kernel
theorem dX8_in_0 : decode cX8_in 0 = .ok (.lload_n 0, 1) := by decide +kernel
theorem dX8_in_1 : decode cX8_in 1 = .ok (.lload_n 2, 1) := by decide +kernel
theorem dX8_in_2 : decode cX8_in 2 = .ok (.lcmp, 1) := by decide +kernel
theorem dX8_in_3 : decode cX8_in 3 = .ok (.ifCond .lt 14, 3) := by decide +kernel
theorem dX8_in_6 : decode cX8_in 6 = .ok (.lload_n 0, 1) := by decide +kernel
theorem dX8_in_7 : decode cX8_in 7 = .ok (.lload 4, 2) := by decide +kernel
theorem dX8_in_9 : decode cX8_in 9 = .ok (.lcmp, 1) := by decide +kernel
theorem dX8_in_10 : decode cX8_in 10 = .ok (.ifCond .gt 7, 3) := by decide +kernel
theorem dX8_in_13 : decode cX8_in 13 = .ok (.iconst 1, 1) := by decide +kernel
theorem dX8_in_14 : decode cX8_in 14 = .ok (.goto 4, 3) := by decide +kernel
theorem dX8_in_17 : decode cX8_in 17 = .ok (.iconst 0, 1) := by decide +kernel
theorem dX8_in_18 : decode cX8_in 18 = .ok (.ireturn, 1) := by decide +kernel
theorem dX8_get_0 : decode cX8_get 0 = .ok (.aload_n 0, 1) := by decide +kernel
theorem dX8_get_1 : decode cX8_get 1 = .ok (.getfield 7, 3) := by decide +kernel
theorem dX8_get_4 : decode cX8_get 4 = .ok (.bipush 18, 2) := by decide +kernel
theorem dX8_get_6 : decode cX8_get 6 = .ok (.iload_n 1, 1) := by decide +kernel
theorem dX8_get_7 : decode cX8_get 7 = .ok (.imul, 1) := by decide +kernel
theorem dX8_get_8 : decode cX8_get 8 = .ok (.iload_n 2, 1) := by decide +kernel
theorem dX8_get_9 : decode cX8_get 9 = .ok (.iadd, 1) := by decide +kernel
theorem dX8_get_10 : decode cX8_get 10 = .ok (.iaload, 1) := by decide +kernel
theorem dX8_get_11 : decode cX8_get 11 = .ok (.ireturn, 1) := by decide +kernel
theorem dX8_put_0 : decode cX8_put 0 = .ok (.aload_n 0, 1) := by decide +kernel
theorem dX8_put_1 : decode cX8_put 1 = .ok (.getfield 7, 3) := by decide +kernel
theorem dX8_put_4 : decode cX8_put 4 = .ok (.bipush 18, 2) := by decide +kernel
theorem dX8_put_6 : decode cX8_put 6 = .ok (.iload_n 1, 1) := by decide +kernel
theorem dX8_put_7 : decode cX8_put 7 = .ok (.imul, 1) := by decide +kernel
theorem dX8_put_8 : decode cX8_put 8 = .ok (.iload_n 2, 1) := by decide +kernel
theorem dX8_put_9 : decode cX8_put 9 = .ok (.iadd, 1) := by decide +kernel
theorem dX8_put_10 : decode cX8_put 10 = .ok (.iload_n 3, 1) := by decide +kernel
theorem dX8_put_11 : decode cX8_put 11 = .ok (.iastore, 1) := by decide +kernel
theorem dX8_put_12 : decode cX8_put 12 = .ok (.return_, 1) := by decide +kernel
theorem dX8_begin_0 : decode cX8_begin 0 = .ok (.iconst 0, 1) := by decide +kernel
theorem dX8_begin_1 : decode cX8_begin 1 = .ok (.istore 4, 2) := by decide +kernel
theorem dX8_begin_3 : decode cX8_begin 3 = .ok (.iload 4, 2) := by decide +kernel
theorem dX8_begin_5 : decode cX8_begin 5 = .ok (.bipush 18, 2) := by decide +kernel
theorem dX8_begin_7 : decode cX8_begin 7 = .ok (.if_icmp .ge 17, 3) := by decide +kernel
theorem dX8_begin_10 : decode cX8_begin 10 = .ok (.aload_n 0, 1) := by decide +kernel
theorem dX8_begin_11 : decode cX8_begin 11 = .ok (.iload_n 1, 1) := by decide +kernel
theorem dX8_begin_12 : decode cX8_begin 12 = .ok (.iload 4, 2) := by decide +kernel
theorem dX8_begin_14 : decode cX8_begin 14 = .ok (.iconst 0, 1) := by decide +kernel
theorem dX8_begin_15 : decode cX8_begin 15 = .ok (.invokevirtual 60, 3) := by decide +kernel
theorem dX8_begin_18 : decode cX8_begin 18 = .ok (.iinc 4 1, 3) := by decide +kernel
theorem dX8_begin_21 : decode cX8_begin 21 = .ok (.goto (-18), 3) := by decide +kernel
theorem dX8_begin_24 : decode cX8_begin 24 = .ok (.aload_n 0, 1) := by decide +kernel
theorem dX8_begin_25 : decode cX8_begin 25 = .ok (.iload_n 1, 1) := by decide +kernel
theorem dX8_begin_26 : decode cX8_begin 26 = .ok (.iconst 3, 1) := by decide +kernel
theorem dX8_begin_27 : decode cX8_begin 27 = .ok (.iconst (-1), 1) := by decide +kernel
theorem dX8_begin_28 : decode cX8_begin 28 = .ok (.invokevirtual 60, 3) := by decide +kernel
theorem dX8_begin_31 : decode cX8_begin 31 = .ok (.aload_n 0, 1) := by decide +kernel
theorem dX8_begin_32 : decode cX8_begin 32 = .ok (.iload_n 1, 1) := by decide +kernel
theorem dX8_begin_33 : decode cX8_begin 33 = .ok (.iconst 4, 1) := by decide +kernel
theorem dX8_begin_34 : decode cX8_begin 34 = .ok (.iconst (-1), 1) := by decide +kernel
theorem dX8_begin_35 : decode cX8_begin 35 = .ok (.invokevirtual 60, 3) := by decide +kernel
theorem dX8_begin_38 : decode cX8_begin 38 = .ok (.aload_n 0, 1) := by decide +kernel
theorem dX8_begin_39 : decode cX8_begin 39 = .ok (.iload_n 1, 1) := by decide +kernel
theorem dX8_begin_40 : decode cX8_begin 40 = .ok (.bipush 7, 2) := by decide +kernel
theorem dX8_begin_42 : decode cX8_begin 42 = .ok (.iconst (-1), 1) := by decide +kernel
theorem dX8_begin_43 : decode cX8_begin 43 = .ok (.invokevirtual 60, 3) := by decide +kernel
theorem dX8_begin_46 : decode cX8_begin 46 = .ok (.aload_n 0, 1) := by decide +kernel
theorem dX8_begin_47 : decode cX8_begin 47 = .ok (.iload_n 1, 1) := by decide +kernel
theorem dX8_begin_48 : decode cX8_begin 48 = .ok (.bipush 10, 2) := by decide +kernel
theorem dX8_begin_50 : decode cX8_begin 50 = .ok (.iload_n 2, 1) := by decide +kernel
theorem dX8_begin_51 : decode cX8_begin 51 = .ok (.invokevirtual 60, 3) := by decide +kernel
theorem dX8_begin_54 : decode cX8_begin 54 = .ok (.aload_n 0, 1) := by decide +kernel
theorem dX8_begin_55 : decode cX8_begin 55 = .ok (.iload_n 1, 1) := by decide +kernel
theorem dX8_begin_56 : decode cX8_begin 56 = .ok (.bipush 11, 2) := by decide +kernel
theorem dX8_begin_58 : decode cX8_begin 58 = .ok (.iload_n 3, 1) := by decide +kernel
theorem dX8_begin_59 : decode cX8_begin 59 = .ok (.invokevirtual 60, 3) := by decide +kernel
theorem dX8_begin_62 : decode cX8_begin 62 = .ok (.aload_n 0, 1) := by decide +kernel
theorem dX8_begin_63 : decode cX8_begin 63 = .ok (.iload_n 1, 1) := by decide +kernel
theorem dX8_begin_64 : decode cX8_begin 64 = .ok (.bipush 17, 2) := by decide +kernel
theorem dX8_begin_66 : decode cX8_begin 66 = .ok (.ldc 63, 2) := by decide +kernel
theorem dX8_begin_68 : decode cX8_begin 68 = .ok (.invokevirtual 60, 3) := by decide +kernel
theorem dX8_begin_71 : decode cX8_begin 71 = .ok (.return_, 1) := by decide +kernel
theorem dX8_isPart_0 : decode cX8_isPart 0 = .ok (.iload_n 1, 1) := by decide +kernel
theorem dX8_isPart_1 : decode cX8_isPart 1 = .ok (.i2l, 1) := by decide +kernel
theorem dX8_isPart_2 : decode cX8_isPart 2 = .ok (.lconst 0, 1) := by decide +kernel
theorem dX8_isPart_3 : decode cX8_isPart 3 = .ok (.aload_n 0, 1) := by decide +kernel
theorem dX8_isPart_4 : decode cX8_isPart 4 = .ok (.getfield 57, 3) := by decide +kernel
theorem dX8_isPart_7 : decode cX8_isPart 7 = .ok (.iconst 1, 1) := by decide +kernel
theorem dX8_isPart_8 : decode cX8_isPart 8 = .ok (.isub, 1) := by decide +kernel
theorem dX8_isPart_9 : decode cX8_isPart 9 = .ok (.i2l, 1) := by decide +kernel
theorem dX8_isPart_10 : decode cX8_isPart 10 = .ok (.invokestatic 64, 3) := by decide +kernel
theorem dX8_isPart_13 : decode cX8_isPart 13 = .ok (.ireturn, 1) := by decide +kernel
theorem dX8_part_0 : decode cX8_part 0 = .ok (.aload_n 0, 1) := by decide +kernel
theorem dX8_part_1 : decode cX8_part 1 = .ok (.iload_n 1, 1) := by decide +kernel
theorem dX8_part_2 : decode cX8_part 2 = .ok (.invokevirtual 68, 3) := by decide +kernel
theorem dX8_part_5 : decode cX8_part 5 = .ok (.ifCond .ne 6, 3) := by decide +kernel
theorem dX8_part_8 : decode cX8_part 8 = .ok (.bipush (-101), 2) := by decide +kernel
theorem dX8_part_10 : decode cX8_part 10 = .ok (.ireturn, 1) := by decide +kernel
theorem dX8_part_11 : decode cX8_part 11 = .ok (.iload_n 2, 1) := by decide +kernel
theorem dX8_part_12 : decode cX8_part 12 = .ok (.i2l, 1) := by decide +kernel
theorem dX8_part_13 : decode cX8_part 13 = .ok (.lconst 0, 1) := by decide +kernel
theorem dX8_part_14 : decode cX8_part 14 = .ok (.ldc2_w 72, 3) := by decide +kernel
theorem dX8_part_17 : decode cX8_part 17 = .ok (.invokestatic 64, 3) := by decide +kernel
theorem dX8_part_20 : decode cX8_part 20 = .ok (.ifCond .ne 6, 3) := by decide +kernel
theorem dX8_part_23 : decode cX8_part 23 = .ok (.bipush (-102), 2) := by decide +kernel
theorem dX8_part_25 : decode cX8_part 25 = .ok (.ireturn, 1) := by decide +kernel
theorem dX8_part_26 : decode cX8_part 26 = .ok (.aload_n 0, 1) := by decide +kernel
theorem dX8_part_27 : decode cX8_part 27 = .ok (.getfield 57, 3) := by decide +kernel
theorem dX8_part_30 : decode cX8_part 30 = .ok (.bipush 24, 2) := by decide +kernel
theorem dX8_part_32 : decode cX8_part 32 = .ok (.if_icmp .ne 6, 3) := by decide +kernel
theorem dX8_part_35 : decode cX8_part 35 = .ok (.bipush (-104), 2) := by decide +kernel
theorem dX8_part_37 : decode cX8_part 37 = .ok (.ireturn, 1) := by decide +kernel
theorem dX8_part_38 : decode cX8_part 38 = .ok (.aload_n 0, 1) := by decide +kernel
theorem dX8_part_39 : decode cX8_part 39 = .ok (.aload_n 0, 1) := by decide +kernel
theorem dX8_part_40 : decode cX8_part 40 = .ok (.getfield 57, 3) := by decide +kernel
theorem dX8_part_43 : decode cX8_part 43 = .ok (.iload_n 2, 1) := by decide +kernel
theorem dX8_part_44 : decode cX8_part 44 = .ok (.iload_n 1, 1) := by decide +kernel
theorem dX8_part_45 : decode cX8_part 45 = .ok (.invokevirtual 53, 3) := by decide +kernel
theorem dX8_part_48 : decode cX8_part 48 = .ok (.aload_n 0, 1) := by decide +kernel
theorem dX8_part_49 : decode cX8_part 49 = .ok (.dup, 1) := by decide +kernel
theorem dX8_part_50 : decode cX8_part 50 = .ok (.getfield 57, 3) := by decide +kernel
theorem dX8_part_53 : decode cX8_part 53 = .ok (.iconst 1, 1) := by decide +kernel
theorem dX8_part_54 : decode cX8_part 54 = .ok (.iadd, 1) := by decide +kernel
theorem dX8_part_55 : decode cX8_part 55 = .ok (.putfield 57, 3) := by decide +kernel
theorem dX8_part_58 : decode cX8_part 58 = .ok (.aload_n 0, 1) := by decide +kernel
theorem dX8_part_59 : decode cX8_part 59 = .ok (.getfield 57, 3) := by decide +kernel
theorem dX8_part_62 : decode cX8_part 62 = .ok (.iconst 1, 1) := by decide +kernel
theorem dX8_part_63 : decode cX8_part 63 = .ok (.isub, 1) := by decide +kernel
theorem dX8_part_64 : decode cX8_part 64 = .ok (.ireturn, 1) := by decide +kernel
theorem dX8_isShown_0 : decode cX8_isShown 0 = .ok (.iload_n 1, 1) := by decide +kernel
theorem dX8_isShown_1 : decode cX8_isShown 1 = .ok (.istore_n 2, 1) := by decide +kernel
theorem dX8_isShown_2 : decode cX8_isShown 2 = .ok (.iload_n 2, 1) := by decide +kernel
theorem dX8_isShown_3 : decode cX8_isShown 3 = .ok (.iconst (-1), 1) := by decide +kernel
theorem dX8_isShown_4 : decode cX8_isShown 4 = .ok (.if_icmp .eq 23, 3) := by decide +kernel
theorem dX8_isShown_7 : decode cX8_isShown 7 = .ok (.aload_n 0, 1) := by decide +kernel
theorem dX8_isShown_8 : decode cX8_isShown 8 = .ok (.iload_n 2, 1) := by decide +kernel
theorem dX8_isShown_9 : decode cX8_isShown 9 = .ok (.iconst 5, 1) := by decide +kernel
theorem dX8_isShown_10 : decode cX8_isShown 10 = .ok (.invokevirtual 74, 3) := by decide +kernel
theorem dX8_isShown_13 : decode cX8_isShown 13 = .ok (.ifCond .ne 14, 3) := by decide +kernel
theorem dX8_isShown_16 : decode cX8_isShown 16 = .ok (.aload_n 0, 1) := by decide +kernel
theorem dX8_isShown_17 : decode cX8_isShown 17 = .ok (.iload_n 2, 1) := by decide +kernel
theorem dX8_isShown_18 : decode cX8_isShown 18 = .ok (.bipush 11, 2) := by decide +kernel
theorem dX8_isShown_20 : decode cX8_isShown 20 = .ok (.invokevirtual 74, 3) := by decide +kernel
theorem dX8_isShown_23 : decode cX8_isShown 23 = .ok (.istore_n 2, 1) := by decide +kernel
theorem dX8_isShown_24 : decode cX8_isShown 24 = .ok (.goto (-22), 3) := by decide +kernel
theorem dX8_isShown_27 : decode cX8_isShown 27 = .ok (.iload_n 2, 1) := by decide +kernel
theorem dX8_isShown_28 : decode cX8_isShown 28 = .ok (.iconst (-1), 1) := by decide +kernel
theorem dX8_isShown_29 : decode cX8_isShown 29 = .ok (.if_icmp .ne 7, 3) := by decide +kernel
theorem dX8_isShown_32 : decode cX8_isShown 32 = .ok (.iconst 1, 1) := by decide +kernel
theorem dX8_isShown_33 : decode cX8_isShown 33 = .ok (.goto 4, 3) := by decide +kernel
theorem dX8_isShown_36 : decode cX8_isShown 36 = .ok (.iconst 0, 1) := by decide +kernel
theorem dX8_isShown_37 : decode cX8_isShown 37 = .ok (.ireturn, 1) := by decide +kernel
theorem dX8_lies_0 : decode cX8_lies 0 = .ok (.aload_n 0, 1) := by decide +kernel
theorem dX8_lies_1 : decode cX8_lies 1 = .ok (.iload_n 1, 1) := by decide +kernel
theorem dX8_lies_2 : decode cX8_lies 2 = .ok (.bipush 11, 2) := by decide +kernel
theorem dX8_lies_4 : decode cX8_lies 4 = .ok (.invokevirtual 74, 3) := by decide +kernel
theorem dX8_lies_7 : decode cX8_lies 7 = .ok (.istore_n 3, 1) := by decide +kernel
theorem dX8_lies_8 : decode cX8_lies 8 = .ok (.iload_n 3, 1) := by decide +kernel
theorem dX8_lies_9 : decode cX8_lies 9 = .ok (.iconst (-1), 1) := by decide +kernel
theorem dX8_lies_10 : decode cX8_lies 10 = .ok (.if_icmp .eq 19, 3) := by decide +kernel
theorem dX8_lies_13 : decode cX8_lies 13 = .ok (.iload_n 3, 1) := by decide +kernel
theorem dX8_lies_14 : decode cX8_lies 14 = .ok (.iload_n 2, 1) := by decide +kernel
theorem dX8_lies_15 : decode cX8_lies 15 = .ok (.if_icmp .eq 14, 3) := by decide +kernel
theorem dX8_lies_18 : decode cX8_lies 18 = .ok (.aload_n 0, 1) := by decide +kernel
theorem dX8_lies_19 : decode cX8_lies 19 = .ok (.iload_n 3, 1) := by decide +kernel
theorem dX8_lies_20 : decode cX8_lies 20 = .ok (.bipush 11, 2) := by decide +kernel
theorem dX8_lies_22 : decode cX8_lies 22 = .ok (.invokevirtual 74, 3) := by decide +kernel
theorem dX8_lies_25 : decode cX8_lies 25 = .ok (.istore_n 3, 1) := by decide +kernel
theorem dX8_lies_26 : decode cX8_lies 26 = .ok (.goto (-18), 3) := by decide +kernel
theorem dX8_lies_29 : decode cX8_lies 29 = .ok (.iload_n 3, 1) := by decide +kernel
theorem dX8_lies_30 : decode cX8_lies 30 = .ok (.iload_n 2, 1) := by decide +kernel
theorem dX8_lies_31 : decode cX8_lies 31 = .ok (.if_icmp .ne 7, 3) := by decide +kernel
theorem dX8_lies_34 : decode cX8_lies 34 = .ok (.iconst 1, 1) := by decide +kernel
theorem dX8_lies_35 : decode cX8_lies 35 = .ok (.goto 4, 3) := by decide +kernel
theorem dX8_lies_38 : decode cX8_lies 38 = .ok (.iconst 0, 1) := by decide +kernel
theorem dX8_lies_39 : decode cX8_lies 39 = .ok (.ireturn, 1) := by decide +kernel
theorem dX8_innermost_0 : decode cX8_innermost 0 = .ok (.aload_n 0, 1) := by decide +kernel
theorem dX8_innermost_1 : decode cX8_innermost 1 = .ok (.iload_n 1, 1) := by decide +kernel
theorem dX8_innermost_2 : decode cX8_innermost 2 = .ok (.bipush 11, 2) := by decide +kernel
theorem dX8_innermost_4 : decode cX8_innermost 4 = .ok (.invokevirtual 74, 3) := by decide +kernel
theorem dX8_innermost_7 : decode cX8_innermost 7 = .ok (.istore_n 3, 1) := by decide +kernel
theorem dX8_innermost_8 : decode cX8_innermost 8 = .ok (.iload_n 3, 1) := by decide +kernel
theorem dX8_innermost_9 : decode cX8_innermost 9 = .ok (.iconst (-1), 1) := by decide +kernel
theorem dX8_innermost_10 : decode cX8_innermost 10 = .ok (.if_icmp .eq 25, 3) := by decide +kernel
theorem dX8_innermost_13 : decode cX8_innermost 13 = .ok (.aload_n 0, 1) := by decide +kernel
theorem dX8_innermost_14 : decode cX8_innermost 14 = .ok (.iload_n 3, 1) := by decide +kernel
theorem dX8_innermost_15 : decode cX8_innermost 15 = .ok (.bipush 10, 2) := by decide +kernel
theorem dX8_innermost_17 : decode cX8_innermost 17 = .ok (.invokevirtual 74, 3) := by decide +kernel
theorem dX8_innermost_20 : decode cX8_innermost 20 = .ok (.iload_n 2, 1) := by decide +kernel
theorem dX8_innermost_21 : decode cX8_innermost 21 = .ok (.if_icmp .eq 14, 3) := by decide +kernel
theorem dX8_innermost_24 : decode cX8_innermost 24 = .ok (.aload_n 0, 1) := by decide +kernel
theorem dX8_innermost_25 : decode cX8_innermost 25 = .ok (.iload_n 3, 1) := by decide +kernel
theorem dX8_innermost_26 : decode cX8_innermost 26 = .ok (.bipush 11, 2) := by decide +kernel
theorem dX8_innermost_28 : decode cX8_innermost 28 = .ok (.invokevirtual 74, 3) := by decide +kernel
theorem dX8_innermost_31 : decode cX8_innermost 31 = .ok (.istore_n 3, 1) := by decide +kernel
theorem dX8_innermost_32 : decode cX8_innermost 32 = .ok (.goto (-24), 3) := by decide +kernel
theorem dX8_innermost_35 : decode cX8_innermost 35 = .ok (.iload_n 3, 1) := by decide +kernel
theorem dX8_innermost_36 : decode cX8_innermost 36 = .ok (.ireturn, 1) := by decide +kernel
theorem dX8_line_0 : decode cX8_line 0 = .ok (.iconst 1, 1) := by decide +kernel
theorem dX8_line_1 : decode cX8_line 1 = .ok (.istore_n 1, 1) := by decide +kernel
theorem dX8_line_2 : decode cX8_line 2 = .ok (.aload_n 0, 1) := by decide +kernel
theorem dX8_line_3 : decode cX8_line 3 = .ok (.getfield 19, 3) := by decide +kernel
theorem dX8_line_6 : decode cX8_line 6 = .ok (.iconst 0, 1) := by decide +kernel
theorem dX8_line_7 : decode cX8_line 7 = .ok (.iconst 0, 1) := by decide +kernel
theorem dX8_line_8 : decode cX8_line 8 = .ok (.iastore, 1) := by decide +kernel
theorem dX8_line_9 : decode cX8_line 9 = .ok (.iconst 0, 1) := by decide +kernel
theorem dX8_line_10 : decode cX8_line 10 = .ok (.istore_n 2, 1) := by decide +kernel
theorem dX8_line_11 : decode cX8_line 11 = .ok (.iload_n 1, 1) := by decide +kernel
theorem dX8_line_12 : decode cX8_line 12 = .ok (.ifCond .le 69, 3) := by decide +kernel
theorem dX8_line_15 : decode cX8_line 15 = .ok (.iinc 1 (-1), 3) := by decide +kernel
theorem dX8_line_18 : decode cX8_line 18 = .ok (.aload_n 0, 1) := by decide +kernel
theorem dX8_line_19 : decode cX8_line 19 = .ok (.getfield 19, 3) := by decide +kernel
theorem dX8_line_22 : decode cX8_line 22 = .ok (.iload_n 1, 1) := by decide +kernel
theorem dX8_line_23 : decode cX8_line 23 = .ok (.iaload, 1) := by decide +kernel
theorem dX8_line_24 : decode cX8_line 24 = .ok (.istore_n 3, 1) := by decide +kernel
theorem dX8_line_25 : decode cX8_line 25 = .ok (.aload_n 0, 1) := by decide +kernel
theorem dX8_line_26 : decode cX8_line 26 = .ok (.getfield 16, 3) := by decide +kernel
theorem dX8_line_29 : decode cX8_line 29 = .ok (.iload_n 2, 1) := by decide +kernel
theorem dX8_line_30 : decode cX8_line 30 = .ok (.iload_n 3, 1) := by decide +kernel
theorem dX8_line_31 : decode cX8_line 31 = .ok (.iastore, 1) := by decide +kernel
theorem dX8_line_32 : decode cX8_line 32 = .ok (.iinc 2 1, 3) := by decide +kernel
theorem dX8_line_35 : decode cX8_line 35 = .ok (.aload_n 0, 1) := by decide +kernel
theorem dX8_line_36 : decode cX8_line 36 = .ok (.getfield 57, 3) := by decide +kernel
theorem dX8_line_39 : decode cX8_line 39 = .ok (.iconst 1, 1) := by decide +kernel
theorem dX8_line_40 : decode cX8_line 40 = .ok (.isub, 1) := by decide +kernel
theorem dX8_line_41 : decode cX8_line 41 = .ok (.istore 4, 2) := by decide +kernel
theorem dX8_line_43 : decode cX8_line 43 = .ok (.iload 4, 2) := by decide +kernel
theorem dX8_line_45 : decode cX8_line 45 = .ok (.iload_n 3, 1) := by decide +kernel
theorem dX8_line_46 : decode cX8_line 46 = .ok (.if_icmp .le 32, 3) := by decide +kernel
theorem dX8_line_49 : decode cX8_line 49 = .ok (.aload_n 0, 1) := by decide +kernel
theorem dX8_line_50 : decode cX8_line 50 = .ok (.iload 4, 2) := by decide +kernel
theorem dX8_line_52 : decode cX8_line 52 = .ok (.bipush 11, 2) := by decide +kernel
theorem dX8_line_54 : decode cX8_line 54 = .ok (.invokevirtual 74, 3) := by decide +kernel
theorem dX8_line_57 : decode cX8_line 57 = .ok (.iload_n 3, 1) := by decide +kernel
theorem dX8_line_58 : decode cX8_line 58 = .ok (.if_icmp .ne 14, 3) := by decide +kernel
theorem dX8_line_61 : decode cX8_line 61 = .ok (.aload_n 0, 1) := by decide +kernel
theorem dX8_line_62 : decode cX8_line 62 = .ok (.getfield 19, 3) := by decide +kernel
theorem dX8_line_65 : decode cX8_line 65 = .ok (.iload_n 1, 1) := by decide +kernel
theorem dX8_line_66 : decode cX8_line 66 = .ok (.iload 4, 2) := by decide +kernel
theorem dX8_line_68 : decode cX8_line 68 = .ok (.iastore, 1) := by decide +kernel
theorem dX8_line_69 : decode cX8_line 69 = .ok (.iinc 1 1, 3) := by decide +kernel
theorem dX8_line_72 : decode cX8_line 72 = .ok (.iinc 4 (-1), 3) := by decide +kernel
theorem dX8_line_75 : decode cX8_line 75 = .ok (.goto (-32), 3) := by decide +kernel
theorem dX8_line_78 : decode cX8_line 78 = .ok (.goto (-67), 3) := by decide +kernel
theorem dX8_line_81 : decode cX8_line 81 = .ok (.return_, 1) := by decide +kernel
theorem dX8_opened_0 : decode cX8_opened 0 = .ok (.iconst 0, 1) := by decide +kernel
theorem dX8_opened_1 : decode cX8_opened 1 = .ok (.istore_n 1, 1) := by decide +kernel
theorem dX8_opened_2 : decode cX8_opened 2 = .ok (.iconst 1, 1) := by decide +kernel
theorem dX8_opened_3 : decode cX8_opened 3 = .ok (.istore_n 2, 1) := by decide +kernel
theorem dX8_opened_4 : decode cX8_opened 4 = .ok (.iload_n 2, 1) := by decide +kernel
theorem dX8_opened_5 : decode cX8_opened 5 = .ok (.aload_n 0, 1) := by decide +kernel
theorem dX8_opened_6 : decode cX8_opened 6 = .ok (.getfield 57, 3) := by decide +kernel
theorem dX8_opened_9 : decode cX8_opened 9 = .ok (.if_icmp .ge 26, 3) := by decide +kernel
theorem dX8_opened_12 : decode cX8_opened 12 = .ok (.iload_n 1, 1) := by decide +kernel
theorem dX8_opened_13 : decode cX8_opened 13 = .ok (.aload_n 0, 1) := by decide +kernel
theorem dX8_opened_14 : decode cX8_opened 14 = .ok (.iload_n 2, 1) := by decide +kernel
theorem dX8_opened_15 : decode cX8_opened 15 = .ok (.iconst (-1), 1) := by decide +kernel
theorem dX8_opened_16 : decode cX8_opened 16 = .ok (.invokevirtual 78, 3) := by decide +kernel
theorem dX8_opened_19 : decode cX8_opened 19 = .ok (.ifCond .eq 7, 3) := by decide +kernel
theorem dX8_opened_22 : decode cX8_opened 22 = .ok (.iconst 1, 1) := by decide +kernel
theorem dX8_opened_23 : decode cX8_opened 23 = .ok (.goto 4, 3) := by decide +kernel
theorem dX8_opened_26 : decode cX8_opened 26 = .ok (.iconst 0, 1) := by decide +kernel
theorem dX8_opened_27 : decode cX8_opened 27 = .ok (.iadd, 1) := by decide +kernel
theorem dX8_opened_28 : decode cX8_opened 28 = .ok (.istore_n 1, 1) := by decide +kernel
theorem dX8_opened_29 : decode cX8_opened 29 = .ok (.iinc 2 1, 3) := by decide +kernel
theorem dX8_opened_32 : decode cX8_opened 32 = .ok (.goto (-28), 3) := by decide +kernel
theorem dX8_opened_35 : decode cX8_opened 35 = .ok (.iload_n 1, 1) := by decide +kernel
theorem dX8_opened_36 : decode cX8_opened 36 = .ok (.ireturn, 1) := by decide +kernel
theorem dX8_isOpenedBy_0 : decode cX8_isOpenedBy 0 = .ok (.iconst 0, 1) := by decide +kernel
theorem dX8_isOpenedBy_1 : decode cX8_isOpenedBy 1 = .ok (.istore_n 3, 1) := by decide +kernel
theorem dX8_isOpenedBy_2 : decode cX8_isOpenedBy 2 = .ok (.iconst 0, 1) := by decide +kernel
theorem dX8_isOpenedBy_3 : decode cX8_isOpenedBy 3 = .ok (.istore 4, 2) := by decide +kernel
theorem dX8_isOpenedBy_5 : decode cX8_isOpenedBy 5 = .ok (.iload 4, 2) := by decide +kernel
theorem dX8_isOpenedBy_7 : decode cX8_isOpenedBy 7 = .ok (.aload_n 0, 1) := by decide +kernel
theorem dX8_isOpenedBy_8 : decode cX8_isOpenedBy 8 = .ok (.getfield 57, 3) := by decide +kernel
theorem dX8_isOpenedBy_11 : decode cX8_isOpenedBy 11 = .ok (.if_icmp .ge 37, 3) := by decide +kernel
theorem dX8_isOpenedBy_14 : decode cX8_isOpenedBy 14 = .ok (.iload_n 3, 1) := by decide +kernel
theorem dX8_isOpenedBy_15 : decode cX8_isOpenedBy 15 = .ok (.ifCond .ne 21, 3) := by decide +kernel
theorem dX8_isOpenedBy_18 : decode cX8_isOpenedBy 18 = .ok (.iload 4, 2) := by decide +kernel
theorem dX8_isOpenedBy_20 : decode cX8_isOpenedBy 20 = .ok (.iload_n 2, 1) := by decide +kernel
theorem dX8_isOpenedBy_21 : decode cX8_isOpenedBy 21 = .ok (.if_icmp .eq 19, 3) := by decide +kernel
theorem dX8_isOpenedBy_24 : decode cX8_isOpenedBy 24 = .ok (.aload_n 0, 1) := by decide +kernel
theorem dX8_isOpenedBy_25 : decode cX8_isOpenedBy 25 = .ok (.iload 4, 2) := by decide +kernel
theorem dX8_isOpenedBy_27 : decode cX8_isOpenedBy 27 = .ok (.bipush 7, 2) := by decide +kernel
theorem dX8_isOpenedBy_29 : decode cX8_isOpenedBy 29 = .ok (.invokevirtual 74, 3) := by decide +kernel
theorem dX8_isOpenedBy_32 : decode cX8_isOpenedBy 32 = .ok (.iload_n 1, 1) := by decide +kernel
theorem dX8_isOpenedBy_33 : decode cX8_isOpenedBy 33 = .ok (.if_icmp .ne 7, 3) := by decide +kernel
theorem dX8_isOpenedBy_36 : decode cX8_isOpenedBy 36 = .ok (.iconst 1, 1) := by decide +kernel
theorem dX8_isOpenedBy_37 : decode cX8_isOpenedBy 37 = .ok (.goto 4, 3) := by decide +kernel
theorem dX8_isOpenedBy_40 : decode cX8_isOpenedBy 40 = .ok (.iconst 0, 1) := by decide +kernel
theorem dX8_isOpenedBy_41 : decode cX8_isOpenedBy 41 = .ok (.istore_n 3, 1) := by decide +kernel
theorem dX8_isOpenedBy_42 : decode cX8_isOpenedBy 42 = .ok (.iinc 4 1, 3) := by decide +kernel
theorem dX8_isOpenedBy_45 : decode cX8_isOpenedBy 45 = .ok (.goto (-40), 3) := by decide +kernel
theorem dX8_isOpenedBy_48 : decode cX8_isOpenedBy 48 = .ok (.iload_n 3, 1) := by decide +kernel
theorem dX8_isOpenedBy_49 : decode cX8_isOpenedBy 49 = .ok (.ireturn, 1) := by decide +kernel
theorem dX8_isFor_0 : decode cX8_isFor 0 = .ok (.iload_n 1, 1) := by decide +kernel
theorem dX8_isFor_1 : decode cX8_isFor 1 = .ok (.tableswitch 117 0 9 #[55, 55, 55, 57, 57, 76, 84, 94, 117, 76], 55) := by decide +kernel
theorem dX8_isFor_56 : decode cX8_isFor 56 = .ok (.iconst 1, 1) := by decide +kernel
theorem dX8_isFor_57 : decode cX8_isFor 57 = .ok (.ireturn, 1) := by decide +kernel
theorem dX8_isFor_58 : decode cX8_isFor 58 = .ok (.iload_n 2, 1) := by decide +kernel
theorem dX8_isFor_59 : decode cX8_isFor 59 = .ok (.iconst (-1), 1) := by decide +kernel
theorem dX8_isFor_60 : decode cX8_isFor 60 = .ok (.if_icmp .eq 11, 3) := by decide +kernel
theorem dX8_isFor_63 : decode cX8_isFor 63 = .ok (.aload_n 0, 1) := by decide +kernel
theorem dX8_isFor_64 : decode cX8_isFor 64 = .ok (.iload_n 2, 1) := by decide +kernel
theorem dX8_isFor_65 : decode cX8_isFor 65 = .ok (.invokevirtual 68, 3) := by decide +kernel
theorem dX8_isFor_68 : decode cX8_isFor 68 = .ok (.ifCond .eq 7, 3) := by decide +kernel
theorem dX8_isFor_71 : decode cX8_isFor 71 = .ok (.iconst 1, 1) := by decide +kernel
theorem dX8_isFor_72 : decode cX8_isFor 72 = .ok (.goto 4, 3) := by decide +kernel
theorem dX8_isFor_75 : decode cX8_isFor 75 = .ok (.iconst 0, 1) := by decide +kernel
theorem dX8_isFor_76 : decode cX8_isFor 76 = .ok (.ireturn, 1) := by decide +kernel
theorem dX8_isFor_77 : decode cX8_isFor 77 = .ok (.iload_n 2, 1) := by decide +kernel
theorem dX8_isFor_78 : decode cX8_isFor 78 = .ok (.i2l, 1) := by decide +kernel
theorem dX8_isFor_79 : decode cX8_isFor 79 = .ok (.lconst 0, 1) := by decide +kernel
theorem dX8_isFor_80 : decode cX8_isFor 80 = .ok (.lconst 1, 1) := by decide +kernel
theorem dX8_isFor_81 : decode cX8_isFor 81 = .ok (.invokestatic 64, 3) := by decide +kernel
theorem dX8_isFor_84 : decode cX8_isFor 84 = .ok (.ireturn, 1) := by decide +kernel
theorem dX8_isFor_85 : decode cX8_isFor 85 = .ok (.iload_n 2, 1) := by decide +kernel
theorem dX8_isFor_86 : decode cX8_isFor 86 = .ok (.i2l, 1) := by decide +kernel
theorem dX8_isFor_87 : decode cX8_isFor 87 = .ok (.lconst 0, 1) := by decide +kernel
theorem dX8_isFor_88 : decode cX8_isFor 88 = .ok (.ldc2_w 82, 3) := by decide +kernel
theorem dX8_isFor_91 : decode cX8_isFor 91 = .ok (.invokestatic 64, 3) := by decide +kernel
theorem dX8_isFor_94 : decode cX8_isFor 94 = .ok (.ireturn, 1) := by decide +kernel
theorem dX8_isFor_95 : decode cX8_isFor 95 = .ok (.iload_n 2, 1) := by decide +kernel
theorem dX8_isFor_96 : decode cX8_isFor 96 = .ok (.iconst (-1), 1) := by decide +kernel
theorem dX8_isFor_97 : decode cX8_isFor 97 = .ok (.if_icmp .eq 15, 3) := by decide +kernel
theorem dX8_isFor_100 : decode cX8_isFor 100 = .ok (.iload_n 2, 1) := by decide +kernel
theorem dX8_isFor_101 : decode cX8_isFor 101 = .ok (.ifCond .eq 15, 3) := by decide +kernel
theorem dX8_isFor_104 : decode cX8_isFor 104 = .ok (.aload_n 0, 1) := by decide +kernel
theorem dX8_isFor_105 : decode cX8_isFor 105 = .ok (.iload_n 2, 1) := by decide +kernel
theorem dX8_isFor_106 : decode cX8_isFor 106 = .ok (.invokevirtual 68, 3) := by decide +kernel
theorem dX8_isFor_109 : decode cX8_isFor 109 = .ok (.ifCond .eq 7, 3) := by decide +kernel
theorem dX8_isFor_112 : decode cX8_isFor 112 = .ok (.iconst 1, 1) := by decide +kernel
theorem dX8_isFor_113 : decode cX8_isFor 113 = .ok (.goto 4, 3) := by decide +kernel
theorem dX8_isFor_116 : decode cX8_isFor 116 = .ok (.iconst 0, 1) := by decide +kernel
theorem dX8_isFor_117 : decode cX8_isFor 117 = .ok (.ireturn, 1) := by decide +kernel
theorem dX8_isFor_118 : decode cX8_isFor 118 = .ok (.iload_n 2, 1) := by decide +kernel
theorem dX8_isFor_119 : decode cX8_isFor 119 = .ok (.i2l, 1) := by decide +kernel
theorem dX8_isFor_120 : decode cX8_isFor 120 = .ok (.lconst 0, 1) := by decide +kernel
theorem dX8_isFor_121 : decode cX8_isFor 121 = .ok (.ldc2_w 84, 3) := by decide +kernel
theorem dX8_isFor_124 : decode cX8_isFor 124 = .ok (.invokestatic 64, 3) := by decide +kernel
theorem dX8_isFor_127 : decode cX8_isFor 127 = .ok (.ireturn, 1) := by decide +kernel
theorem dX8_speak_0 : decode cX8_speak 0 = .ok (.aload_n 0, 1) := by decide +kernel
theorem dX8_speak_1 : decode cX8_speak 1 = .ok (.iload_n 1, 1) := by decide +kernel
theorem dX8_speak_2 : decode cX8_speak 2 = .ok (.bipush 6, 2) := by decide +kernel
theorem dX8_speak_4 : decode cX8_speak 4 = .ok (.invokevirtual 86, 3) := by decide +kernel
theorem dX8_speak_7 : decode cX8_speak 7 = .ok (.istore_n 2, 1) := by decide +kernel
theorem dX8_speak_8 : decode cX8_speak 8 = .ok (.iload_n 2, 1) := by decide +kernel
theorem dX8_speak_9 : decode cX8_speak 9 = .ok (.iconst (-1), 1) := by decide +kernel
theorem dX8_speak_10 : decode cX8_speak 10 = .ok (.if_icmp .eq 15, 3) := by decide +kernel
theorem dX8_speak_13 : decode cX8_speak 13 = .ok (.aload_n 0, 1) := by decide +kernel
theorem dX8_speak_14 : decode cX8_speak 14 = .ok (.iload_n 2, 1) := by decide +kernel
theorem dX8_speak_15 : decode cX8_speak 15 = .ok (.invokevirtual 89, 3) := by decide +kernel
theorem dX8_speak_18 : decode cX8_speak 18 = .ok (.ifCond .eq 7, 3) := by decide +kernel
theorem dX8_speak_21 : decode cX8_speak 21 = .ok (.iconst 1, 1) := by decide +kernel
theorem dX8_speak_22 : decode cX8_speak 22 = .ok (.goto 4, 3) := by decide +kernel
theorem dX8_speak_25 : decode cX8_speak 25 = .ok (.iconst 0, 1) := by decide +kernel
theorem dX8_speak_26 : decode cX8_speak 26 = .ok (.istore_n 3, 1) := by decide +kernel
theorem dX8_speak_27 : decode cX8_speak 27 = .ok (.iconst 0, 1) := by decide +kernel
theorem dX8_speak_28 : decode cX8_speak 28 = .ok (.istore 4, 2) := by decide +kernel
theorem dX8_speak_30 : decode cX8_speak 30 = .ok (.iload 4, 2) := by decide +kernel
theorem dX8_speak_32 : decode cX8_speak 32 = .ok (.aload_n 0, 1) := by decide +kernel
theorem dX8_speak_33 : decode cX8_speak 33 = .ok (.getfield 92, 3) := by decide +kernel
theorem dX8_speak_36 : decode cX8_speak 36 = .ok (.if_icmp .ge 30, 3) := by decide +kernel
theorem dX8_speak_39 : decode cX8_speak 39 = .ok (.iload_n 3, 1) := by decide +kernel
theorem dX8_speak_40 : decode cX8_speak 40 = .ok (.ifCond .eq 18, 3) := by decide +kernel
theorem dX8_speak_43 : decode cX8_speak 43 = .ok (.aload_n 0, 1) := by decide +kernel
theorem dX8_speak_44 : decode cX8_speak 44 = .ok (.getfield 13, 3) := by decide +kernel
theorem dX8_speak_47 : decode cX8_speak 47 = .ok (.iload 4, 2) := by decide +kernel
theorem dX8_speak_49 : decode cX8_speak 49 = .ok (.iaload, 1) := by decide +kernel
theorem dX8_speak_50 : decode cX8_speak 50 = .ok (.iload_n 2, 1) := by decide +kernel
theorem dX8_speak_51 : decode cX8_speak 51 = .ok (.if_icmp .eq 7, 3) := by decide +kernel
theorem dX8_speak_54 : decode cX8_speak 54 = .ok (.iconst 1, 1) := by decide +kernel
theorem dX8_speak_55 : decode cX8_speak 55 = .ok (.goto 4, 3) := by decide +kernel
theorem dX8_speak_58 : decode cX8_speak 58 = .ok (.iconst 0, 1) := by decide +kernel
theorem dX8_speak_59 : decode cX8_speak 59 = .ok (.istore_n 3, 1) := by decide +kernel
theorem dX8_speak_60 : decode cX8_speak 60 = .ok (.iinc 4 1, 3) := by decide +kernel
theorem dX8_speak_63 : decode cX8_speak 63 = .ok (.goto (-33), 3) := by decide +kernel
theorem dX8_speak_66 : decode cX8_speak 66 = .ok (.iload_n 3, 1) := by decide +kernel
theorem dX8_speak_67 : decode cX8_speak 67 = .ok (.ifCond .eq 23, 3) := by decide +kernel
theorem dX8_speak_70 : decode cX8_speak 70 = .ok (.aload_n 0, 1) := by decide +kernel
theorem dX8_speak_71 : decode cX8_speak 71 = .ok (.getfield 13, 3) := by decide +kernel
theorem dX8_speak_74 : decode cX8_speak 74 = .ok (.aload_n 0, 1) := by decide +kernel
theorem dX8_speak_75 : decode cX8_speak 75 = .ok (.getfield 92, 3) := by decide +kernel
theorem dX8_speak_78 : decode cX8_speak 78 = .ok (.iload_n 2, 1) := by decide +kernel
theorem dX8_speak_79 : decode cX8_speak 79 = .ok (.iastore, 1) := by decide +kernel
theorem dX8_speak_80 : decode cX8_speak 80 = .ok (.aload_n 0, 1) := by decide +kernel
theorem dX8_speak_81 : decode cX8_speak 81 = .ok (.dup, 1) := by decide +kernel
theorem dX8_speak_82 : decode cX8_speak 82 = .ok (.getfield 92, 3) := by decide +kernel
theorem dX8_speak_85 : decode cX8_speak 85 = .ok (.iconst 1, 1) := by decide +kernel
theorem dX8_speak_86 : decode cX8_speak 86 = .ok (.iadd, 1) := by decide +kernel
theorem dX8_speak_87 : decode cX8_speak 87 = .ok (.putfield 92, 3) := by decide +kernel
theorem dX8_speak_90 : decode cX8_speak 90 = .ok (.return_, 1) := by decide +kernel
theorem dX8_lookAtFocus_0 : decode cX8_lookAtFocus 0 = .ok (.aload_n 0, 1) := by decide +kernel
theorem dX8_lookAtFocus_1 : decode cX8_lookAtFocus 1 = .ok (.getfield 49, 3) := by decide +kernel
theorem dX8_lookAtFocus_4 : decode cX8_lookAtFocus 4 = .ok (.iconst (-1), 1) := by decide +kernel
theorem dX8_lookAtFocus_5 : decode cX8_lookAtFocus 5 = .ok (.if_icmp .eq 19, 3) := by decide +kernel
theorem dX8_lookAtFocus_8 : decode cX8_lookAtFocus 8 = .ok (.aload_n 0, 1) := by decide +kernel
theorem dX8_lookAtFocus_9 : decode cX8_lookAtFocus 9 = .ok (.aload_n 0, 1) := by decide +kernel
theorem dX8_lookAtFocus_10 : decode cX8_lookAtFocus 10 = .ok (.getfield 49, 3) := by decide +kernel
theorem dX8_lookAtFocus_13 : decode cX8_lookAtFocus 13 = .ok (.invokevirtual 89, 3) := by decide +kernel
theorem dX8_lookAtFocus_16 : decode cX8_lookAtFocus 16 = .ok (.ifCond .ne 8, 3) := by decide +kernel
theorem dX8_lookAtFocus_19 : decode cX8_lookAtFocus 19 = .ok (.aload_n 0, 1) := by decide +kernel
theorem dX8_lookAtFocus_20 : decode cX8_lookAtFocus 20 = .ok (.iconst (-1), 1) := by decide +kernel
theorem dX8_lookAtFocus_21 : decode cX8_lookAtFocus 21 = .ok (.putfield 49, 3) := by decide +kernel
theorem dX8_lookAtFocus_24 : decode cX8_lookAtFocus 24 = .ok (.return_, 1) := by decide +kernel
theorem dX8_set_0 : decode cX8_set 0 = .ok (.aload_n 0, 1) := by decide +kernel
theorem dX8_set_1 : decode cX8_set 1 = .ok (.iload_n 1, 1) := by decide +kernel
theorem dX8_set_2 : decode cX8_set 2 = .ok (.invokevirtual 68, 3) := by decide +kernel
theorem dX8_set_5 : decode cX8_set 5 = .ok (.ifCond .ne 6, 3) := by decide +kernel
theorem dX8_set_8 : decode cX8_set 8 = .ok (.bipush (-101), 2) := by decide +kernel
theorem dX8_set_10 : decode cX8_set 10 = .ok (.ireturn, 1) := by decide +kernel
theorem dX8_set_11 : decode cX8_set 11 = .ok (.iload_n 2, 1) := by decide +kernel
theorem dX8_set_12 : decode cX8_set 12 = .ok (.i2l, 1) := by decide +kernel
theorem dX8_set_13 : decode cX8_set 13 = .ok (.lconst 0, 1) := by decide +kernel
theorem dX8_set_14 : decode cX8_set 14 = .ok (.ldc2_w 95, 3) := by decide +kernel
theorem dX8_set_17 : decode cX8_set 17 = .ok (.invokestatic 64, 3) := by decide +kernel
theorem dX8_set_20 : decode cX8_set 20 = .ok (.ifCond .eq 12, 3) := by decide +kernel
theorem dX8_set_23 : decode cX8_set 23 = .ok (.aload_n 0, 1) := by decide +kernel
theorem dX8_set_24 : decode cX8_set 24 = .ok (.iload_n 2, 1) := by decide +kernel
theorem dX8_set_25 : decode cX8_set 25 = .ok (.iload_n 3, 1) := by decide +kernel
theorem dX8_set_26 : decode cX8_set 26 = .ok (.invokevirtual 97, 3) := by decide +kernel
theorem dX8_set_29 : decode cX8_set 29 = .ok (.ifCond .ne 6, 3) := by decide +kernel
theorem dX8_set_32 : decode cX8_set 32 = .ok (.bipush (-102), 2) := by decide +kernel
theorem dX8_set_34 : decode cX8_set 34 = .ok (.ireturn, 1) := by decide +kernel
theorem dX8_set_35 : decode cX8_set 35 = .ok (.iload_n 1, 1) := by decide +kernel
theorem dX8_set_36 : decode cX8_set 36 = .ok (.ifCond .ne 11, 3) := by decide +kernel
theorem dX8_set_39 : decode cX8_set 39 = .ok (.iload_n 2, 1) := by decide +kernel
theorem dX8_set_40 : decode cX8_set 40 = .ok (.iconst 5, 1) := by decide +kernel
theorem dX8_set_41 : decode cX8_set 41 = .ok (.if_icmp .ne 6, 3) := by decide +kernel
theorem dX8_set_44 : decode cX8_set 44 = .ok (.bipush (-103), 2) := by decide +kernel
theorem dX8_set_46 : decode cX8_set 46 = .ok (.ireturn, 1) := by decide +kernel
theorem dX8_set_47 : decode cX8_set 47 = .ok (.iload_n 2, 1) := by decide +kernel
theorem dX8_set_48 : decode cX8_set 48 = .ok (.bipush 7, 2) := by decide +kernel
theorem dX8_set_50 : decode cX8_set 50 = .ok (.if_icmp .ne 68, 3) := by decide +kernel
theorem dX8_set_53 : decode cX8_set 53 = .ok (.iload_n 3, 1) := by decide +kernel
theorem dX8_set_54 : decode cX8_set 54 = .ok (.iconst (-1), 1) := by decide +kernel
theorem dX8_set_55 : decode cX8_set 55 = .ok (.if_icmp .eq 63, 3) := by decide +kernel
theorem dX8_set_58 : decode cX8_set 58 = .ok (.aload_n 0, 1) := by decide +kernel
theorem dX8_set_59 : decode cX8_set 59 = .ok (.iload_n 3, 1) := by decide +kernel
theorem dX8_set_60 : decode cX8_set 60 = .ok (.iload_n 1, 1) := by decide +kernel
theorem dX8_set_61 : decode cX8_set 61 = .ok (.invokevirtual 78, 3) := by decide +kernel
theorem dX8_set_64 : decode cX8_set 64 = .ok (.ifCond .ne 54, 3) := by decide +kernel
theorem dX8_set_67 : decode cX8_set 67 = .ok (.iconst 0, 1) := by decide +kernel
theorem dX8_set_68 : decode cX8_set 68 = .ok (.istore 4, 2) := by decide +kernel
theorem dX8_set_70 : decode cX8_set 70 = .ok (.iconst 1, 1) := by decide +kernel
theorem dX8_set_71 : decode cX8_set 71 = .ok (.istore 5, 2) := by decide +kernel
theorem dX8_set_73 : decode cX8_set 73 = .ok (.iload 5, 2) := by decide +kernel
theorem dX8_set_75 : decode cX8_set 75 = .ok (.aload_n 0, 1) := by decide +kernel
theorem dX8_set_76 : decode cX8_set 76 = .ok (.getfield 57, 3) := by decide +kernel
theorem dX8_set_79 : decode cX8_set 79 = .ok (.if_icmp .ge 29, 3) := by decide +kernel
theorem dX8_set_82 : decode cX8_set 82 = .ok (.iload 4, 2) := by decide +kernel
theorem dX8_set_84 : decode cX8_set 84 = .ok (.aload_n 0, 1) := by decide +kernel
theorem dX8_set_85 : decode cX8_set 85 = .ok (.iload 5, 2) := by decide +kernel
theorem dX8_set_87 : decode cX8_set 87 = .ok (.iload_n 1, 1) := by decide +kernel
theorem dX8_set_88 : decode cX8_set 88 = .ok (.invokevirtual 78, 3) := by decide +kernel
theorem dX8_set_91 : decode cX8_set 91 = .ok (.ifCond .eq 7, 3) := by decide +kernel
theorem dX8_set_94 : decode cX8_set 94 = .ok (.iconst 1, 1) := by decide +kernel
theorem dX8_set_95 : decode cX8_set 95 = .ok (.goto 4, 3) := by decide +kernel
theorem dX8_set_98 : decode cX8_set 98 = .ok (.iconst 0, 1) := by decide +kernel
theorem dX8_set_99 : decode cX8_set 99 = .ok (.iadd, 1) := by decide +kernel
theorem dX8_set_100 : decode cX8_set 100 = .ok (.istore 4, 2) := by decide +kernel
theorem dX8_set_102 : decode cX8_set 102 = .ok (.iinc 5 1, 3) := by decide +kernel
theorem dX8_set_105 : decode cX8_set 105 = .ok (.goto (-32), 3) := by decide +kernel
theorem dX8_set_108 : decode cX8_set 108 = .ok (.iload 4, 2) := by decide +kernel
theorem dX8_set_110 : decode cX8_set 110 = .ok (.bipush 6, 2) := by decide +kernel
theorem dX8_set_112 : decode cX8_set 112 = .ok (.if_icmp .ne 6, 3) := by decide +kernel
theorem dX8_set_115 : decode cX8_set 115 = .ok (.bipush (-104), 2) := by decide +kernel
theorem dX8_set_117 : decode cX8_set 117 = .ok (.ireturn, 1) := by decide +kernel
theorem dX8_set_118 : decode cX8_set 118 = .ok (.aload_n 0, 1) := by decide +kernel
theorem dX8_set_119 : decode cX8_set 119 = .ok (.iload_n 1, 1) := by decide +kernel
theorem dX8_set_120 : decode cX8_set 120 = .ok (.iload_n 2, 1) := by decide +kernel
theorem dX8_set_121 : decode cX8_set 121 = .ok (.invokevirtual 74, 3) := by decide +kernel
theorem dX8_set_124 : decode cX8_set 124 = .ok (.istore 4, 2) := by decide +kernel
theorem dX8_set_126 : decode cX8_set 126 = .ok (.aload_n 0, 1) := by decide +kernel
theorem dX8_set_127 : decode cX8_set 127 = .ok (.iload_n 1, 1) := by decide +kernel
theorem dX8_set_128 : decode cX8_set 128 = .ok (.iload_n 2, 1) := by decide +kernel
theorem dX8_set_129 : decode cX8_set 129 = .ok (.iload_n 3, 1) := by decide +kernel
theorem dX8_set_130 : decode cX8_set 130 = .ok (.invokevirtual 60, 3) := by decide +kernel
theorem dX8_set_133 : decode cX8_set 133 = .ok (.iload 4, 2) := by decide +kernel
theorem dX8_set_135 : decode cX8_set 135 = .ok (.iload_n 3, 1) := by decide +kernel
theorem dX8_set_136 : decode cX8_set 136 = .ok (.if_icmp .eq 17, 3) := by decide +kernel
theorem dX8_set_139 : decode cX8_set 139 = .ok (.iload_n 2, 1) := by decide +kernel
theorem dX8_set_140 : decode cX8_set 140 = .ok (.ifCond .eq 8, 3) := by decide +kernel
theorem dX8_set_143 : decode cX8_set 143 = .ok (.iload_n 2, 1) := by decide +kernel
theorem dX8_set_144 : decode cX8_set 144 = .ok (.iconst 5, 1) := by decide +kernel
theorem dX8_set_145 : decode cX8_set 145 = .ok (.if_icmp .ne 8, 3) := by decide +kernel
theorem dX8_set_148 : decode cX8_set 148 = .ok (.aload_n 0, 1) := by decide +kernel
theorem dX8_set_149 : decode cX8_set 149 = .ok (.iload_n 1, 1) := by decide +kernel
theorem dX8_set_150 : decode cX8_set 150 = .ok (.invokevirtual 100, 3) := by decide +kernel
theorem dX8_set_153 : decode cX8_set 153 = .ok (.aload_n 0, 1) := by decide +kernel
theorem dX8_set_154 : decode cX8_set 154 = .ok (.invokevirtual 104, 3) := by decide +kernel
theorem dX8_set_157 : decode cX8_set 157 = .ok (.iload 4, 2) := by decide +kernel
theorem dX8_set_159 : decode cX8_set 159 = .ok (.ireturn, 1) := by decide +kernel
theorem dX8_told_0 : decode cX8_told 0 = .ok (.aload_n 0, 1) := by decide +kernel
theorem dX8_told_1 : decode cX8_told 1 = .ok (.iload_n 1, 1) := by decide +kernel
theorem dX8_told_2 : decode cX8_told 2 = .ok (.invokevirtual 68, 3) := by decide +kernel
theorem dX8_told_5 : decode cX8_told 5 = .ok (.ifCond .ne 6, 3) := by decide +kernel
theorem dX8_told_8 : decode cX8_told 8 = .ok (.bipush (-101), 2) := by decide +kernel
theorem dX8_told_10 : decode cX8_told 10 = .ok (.ireturn, 1) := by decide +kernel
theorem dX8_told_11 : decode cX8_told 11 = .ok (.iload_n 2, 1) := by decide +kernel
theorem dX8_told_12 : decode cX8_told 12 = .ok (.i2l, 1) := by decide +kernel
theorem dX8_told_13 : decode cX8_told 13 = .ok (.lconst 0, 1) := by decide +kernel
theorem dX8_told_14 : decode cX8_told 14 = .ok (.ldc2_w 107, 3) := by decide +kernel
theorem dX8_told_17 : decode cX8_told 17 = .ok (.invokestatic 64, 3) := by decide +kernel
theorem dX8_told_20 : decode cX8_told 20 = .ok (.ifCond .eq 12, 3) := by decide +kernel
theorem dX8_told_23 : decode cX8_told 23 = .ok (.aload_n 0, 1) := by decide +kernel
theorem dX8_told_24 : decode cX8_told 24 = .ok (.iload_n 1, 1) := by decide +kernel
theorem dX8_told_25 : decode cX8_told 25 = .ok (.iload_n 2, 1) := by decide +kernel
theorem dX8_told_26 : decode cX8_told 26 = .ok (.invokevirtual 74, 3) := by decide +kernel
theorem dX8_told_29 : decode cX8_told 29 = .ok (.goto 27, 3) := by decide +kernel
theorem dX8_told_32 : decode cX8_told 32 = .ok (.iload_n 2, 1) := by decide +kernel
theorem dX8_told_33 : decode cX8_told 33 = .ok (.bipush 18, 2) := by decide +kernel
theorem dX8_told_35 : decode cX8_told 35 = .ok (.if_icmp .ne 19, 3) := by decide +kernel
theorem dX8_told_38 : decode cX8_told 38 = .ok (.aload_n 0, 1) := by decide +kernel
theorem dX8_told_39 : decode cX8_told 39 = .ok (.iload_n 1, 1) := by decide +kernel
theorem dX8_told_40 : decode cX8_told 40 = .ok (.invokevirtual 89, 3) := by decide +kernel
theorem dX8_told_43 : decode cX8_told 43 = .ok (.ifCond .eq 7, 3) := by decide +kernel
theorem dX8_told_46 : decode cX8_told 46 = .ok (.iconst 1, 1) := by decide +kernel
theorem dX8_told_47 : decode cX8_told 47 = .ok (.goto 9, 3) := by decide +kernel
theorem dX8_told_50 : decode cX8_told 50 = .ok (.iconst 0, 1) := by decide +kernel
theorem dX8_told_51 : decode cX8_told 51 = .ok (.goto 5, 3) := by decide +kernel
theorem dX8_told_54 : decode cX8_told 54 = .ok (.bipush (-102), 2) := by decide +kernel
theorem dX8_told_56 : decode cX8_told 56 = .ok (.ireturn, 1) := by decide +kernel
theorem dX8_box_0 : decode cX8_box 0 = .ok (.aload_n 0, 1) := by decide +kernel
theorem dX8_box_1 : decode cX8_box 1 = .ok (.iload_n 1, 1) := by decide +kernel
theorem dX8_box_2 : decode cX8_box 2 = .ok (.invokevirtual 68, 3) := by decide +kernel
theorem dX8_box_5 : decode cX8_box 5 = .ok (.ifCond .ne 6, 3) := by decide +kernel
theorem dX8_box_8 : decode cX8_box 8 = .ok (.bipush (-101), 2) := by decide +kernel
theorem dX8_box_10 : decode cX8_box 10 = .ok (.ireturn, 1) := by decide +kernel
theorem dX8_box_11 : decode cX8_box 11 = .ok (.iload_n 2, 1) := by decide +kernel
theorem dX8_box_12 : decode cX8_box 12 = .ok (.i2l, 1) := by decide +kernel
theorem dX8_box_13 : decode cX8_box 13 = .ok (.lconst 0, 1) := by decide +kernel
theorem dX8_box_14 : decode cX8_box 14 = .ok (.ldc2_w 109, 3) := by decide +kernel
theorem dX8_box_17 : decode cX8_box 17 = .ok (.invokestatic 64, 3) := by decide +kernel
theorem dX8_box_20 : decode cX8_box 20 = .ok (.ifCond .eq 41, 3) := by decide +kernel
theorem dX8_box_23 : decode cX8_box 23 = .ok (.iload_n 3, 1) := by decide +kernel
theorem dX8_box_24 : decode cX8_box 24 = .ok (.i2l, 1) := by decide +kernel
theorem dX8_box_25 : decode cX8_box 25 = .ok (.lconst 0, 1) := by decide +kernel
theorem dX8_box_26 : decode cX8_box 26 = .ok (.ldc2_w 109, 3) := by decide +kernel
theorem dX8_box_29 : decode cX8_box 29 = .ok (.invokestatic 64, 3) := by decide +kernel
theorem dX8_box_32 : decode cX8_box 32 = .ok (.ifCond .eq 29, 3) := by decide +kernel
theorem dX8_box_35 : decode cX8_box 35 = .ok (.iload 4, 2) := by decide +kernel
theorem dX8_box_37 : decode cX8_box 37 = .ok (.i2l, 1) := by decide +kernel
theorem dX8_box_38 : decode cX8_box 38 = .ok (.lconst 0, 1) := by decide +kernel
theorem dX8_box_39 : decode cX8_box 39 = .ok (.ldc2_w 109, 3) := by decide +kernel
theorem dX8_box_42 : decode cX8_box 42 = .ok (.invokestatic 64, 3) := by decide +kernel
theorem dX8_box_45 : decode cX8_box 45 = .ok (.ifCond .eq 16, 3) := by decide +kernel
theorem dX8_box_48 : decode cX8_box 48 = .ok (.iload 5, 2) := by decide +kernel
theorem dX8_box_50 : decode cX8_box 50 = .ok (.i2l, 1) := by decide +kernel
theorem dX8_box_51 : decode cX8_box 51 = .ok (.lconst 0, 1) := by decide +kernel
theorem dX8_box_52 : decode cX8_box 52 = .ok (.ldc2_w 109, 3) := by decide +kernel
theorem dX8_box_55 : decode cX8_box 55 = .ok (.invokestatic 64, 3) := by decide +kernel
theorem dX8_box_58 : decode cX8_box 58 = .ok (.ifCond .ne 6, 3) := by decide +kernel
theorem dX8_box_61 : decode cX8_box 61 = .ok (.bipush (-102), 2) := by decide +kernel
theorem dX8_box_63 : decode cX8_box 63 = .ok (.ireturn, 1) := by decide +kernel
theorem dX8_box_64 : decode cX8_box 64 = .ok (.aload_n 0, 1) := by decide +kernel
theorem dX8_box_65 : decode cX8_box 65 = .ok (.iload_n 1, 1) := by decide +kernel
theorem dX8_box_66 : decode cX8_box 66 = .ok (.bipush 12, 2) := by decide +kernel
theorem dX8_box_68 : decode cX8_box 68 = .ok (.iload_n 2, 1) := by decide +kernel
theorem dX8_box_69 : decode cX8_box 69 = .ok (.invokevirtual 60, 3) := by decide +kernel
theorem dX8_box_72 : decode cX8_box 72 = .ok (.aload_n 0, 1) := by decide +kernel
theorem dX8_box_73 : decode cX8_box 73 = .ok (.iload_n 1, 1) := by decide +kernel
theorem dX8_box_74 : decode cX8_box 74 = .ok (.bipush 13, 2) := by decide +kernel
theorem dX8_box_76 : decode cX8_box 76 = .ok (.iload_n 3, 1) := by decide +kernel
theorem dX8_box_77 : decode cX8_box 77 = .ok (.invokevirtual 60, 3) := by decide +kernel
theorem dX8_box_80 : decode cX8_box 80 = .ok (.aload_n 0, 1) := by decide +kernel
theorem dX8_box_81 : decode cX8_box 81 = .ok (.iload_n 1, 1) := by decide +kernel
theorem dX8_box_82 : decode cX8_box 82 = .ok (.bipush 14, 2) := by decide +kernel
theorem dX8_box_84 : decode cX8_box 84 = .ok (.iload 4, 2) := by decide +kernel
theorem dX8_box_86 : decode cX8_box 86 = .ok (.invokevirtual 60, 3) := by decide +kernel
theorem dX8_box_89 : decode cX8_box 89 = .ok (.aload_n 0, 1) := by decide +kernel
theorem dX8_box_90 : decode cX8_box 90 = .ok (.iload_n 1, 1) := by decide +kernel
theorem dX8_box_91 : decode cX8_box 91 = .ok (.bipush 15, 2) := by decide +kernel
theorem dX8_box_93 : decode cX8_box 93 = .ok (.iload 5, 2) := by decide +kernel
theorem dX8_box_95 : decode cX8_box 95 = .ok (.invokevirtual 60, 3) := by decide +kernel
theorem dX8_box_98 : decode cX8_box 98 = .ok (.iconst 1, 1) := by decide +kernel
theorem dX8_box_99 : decode cX8_box 99 = .ok (.ireturn, 1) := by decide +kernel
theorem dX8_light_0 : decode cX8_light 0 = .ok (.ldc2_w 111, 3) := by decide +kernel
theorem dX8_light_3 : decode cX8_light 3 = .ok (.iload_n 0, 1) := by decide +kernel
theorem dX8_light_4 : decode cX8_light 4 = .ok (.bipush 16, 2) := by decide +kernel
theorem dX8_light_6 : decode cX8_light 6 = .ok (.ishr, 1) := by decide +kernel
theorem dX8_light_7 : decode cX8_light 7 = .ok (.i2l, 1) := by decide +kernel
theorem dX8_light_8 : decode cX8_light 8 = .ok (.lmul, 1) := by decide +kernel
theorem dX8_light_9 : decode cX8_light 9 = .ok (.ldc2_w 113, 3) := by decide +kernel
theorem dX8_light_12 : decode cX8_light 12 = .ok (.iload_n 0, 1) := by decide +kernel
theorem dX8_light_13 : decode cX8_light 13 = .ok (.bipush 8, 2) := by decide +kernel
theorem dX8_light_15 : decode cX8_light 15 = .ok (.ishr, 1) := by decide +kernel
theorem dX8_light_16 : decode cX8_light 16 = .ok (.sipush 255, 3) := by decide +kernel
theorem dX8_light_19 : decode cX8_light 19 = .ok (.iand, 1) := by decide +kernel
theorem dX8_light_20 : decode cX8_light 20 = .ok (.i2l, 1) := by decide +kernel
theorem dX8_light_21 : decode cX8_light 21 = .ok (.lmul, 1) := by decide +kernel
theorem dX8_light_22 : decode cX8_light 22 = .ok (.ladd, 1) := by decide +kernel
theorem dX8_light_23 : decode cX8_light 23 = .ok (.ldc2_w 115, 3) := by decide +kernel
theorem dX8_light_26 : decode cX8_light 26 = .ok (.iload_n 0, 1) := by decide +kernel
theorem dX8_light_27 : decode cX8_light 27 = .ok (.sipush 255, 3) := by decide +kernel
theorem dX8_light_30 : decode cX8_light 30 = .ok (.iand, 1) := by decide +kernel
theorem dX8_light_31 : decode cX8_light 31 = .ok (.i2l, 1) := by decide +kernel
theorem dX8_light_32 : decode cX8_light 32 = .ok (.lmul, 1) := by decide +kernel
theorem dX8_light_33 : decode cX8_light 33 = .ok (.ladd, 1) := by decide +kernel
theorem dX8_light_34 : decode cX8_light 34 = .ok (.lreturn, 1) := by decide +kernel
theorem dX8_contrastOf_0 : decode cX8_contrastOf 0 = .ok (.iload_n 0, 1) := by decide +kernel
theorem dX8_contrastOf_1 : decode cX8_contrastOf 1 = .ok (.invokestatic 117, 3) := by decide +kernel
theorem dX8_contrastOf_4 : decode cX8_contrastOf 4 = .ok (.ldc2_w 121, 3) := by decide +kernel
theorem dX8_contrastOf_7 : decode cX8_contrastOf 7 = .ok (.ladd, 1) := by decide +kernel
theorem dX8_contrastOf_8 : decode cX8_contrastOf 8 = .ok (.lstore_n 2, 1) := by decide +kernel
theorem dX8_contrastOf_9 : decode cX8_contrastOf 9 = .ok (.iload_n 1, 1) := by decide +kernel
theorem dX8_contrastOf_10 : decode cX8_contrastOf 10 = .ok (.invokestatic 117, 3) := by decide +kernel
theorem dX8_contrastOf_13 : decode cX8_contrastOf 13 = .ok (.ldc2_w 121, 3) := by decide +kernel
theorem dX8_contrastOf_16 : decode cX8_contrastOf 16 = .ok (.ladd, 1) := by decide +kernel
theorem dX8_contrastOf_17 : decode cX8_contrastOf 17 = .ok (.lstore 4, 2) := by decide +kernel
theorem dX8_contrastOf_19 : decode cX8_contrastOf 19 = .ok (.lload_n 2, 1) := by decide +kernel
theorem dX8_contrastOf_20 : decode cX8_contrastOf 20 = .ok (.lload 4, 2) := by decide +kernel
theorem dX8_contrastOf_22 : decode cX8_contrastOf 22 = .ok (.lcmp, 1) := by decide +kernel
theorem dX8_contrastOf_23 : decode cX8_contrastOf 23 = .ok (.ifCond .le 14, 3) := by decide +kernel
theorem dX8_contrastOf_26 : decode cX8_contrastOf 26 = .ok (.ldc2_w 84, 3) := by decide +kernel
theorem dX8_contrastOf_29 : decode cX8_contrastOf 29 = .ok (.lload_n 2, 1) := by decide +kernel
theorem dX8_contrastOf_30 : decode cX8_contrastOf 30 = .ok (.lmul, 1) := by decide +kernel
theorem dX8_contrastOf_31 : decode cX8_contrastOf 31 = .ok (.lload 4, 2) := by decide +kernel
theorem dX8_contrastOf_33 : decode cX8_contrastOf 33 = .ok (.ldiv, 1) := by decide +kernel
theorem dX8_contrastOf_34 : decode cX8_contrastOf 34 = .ok (.goto 11, 3) := by decide +kernel
theorem dX8_contrastOf_37 : decode cX8_contrastOf 37 = .ok (.ldc2_w 84, 3) := by decide +kernel
theorem dX8_contrastOf_40 : decode cX8_contrastOf 40 = .ok (.lload 4, 2) := by decide +kernel
theorem dX8_contrastOf_42 : decode cX8_contrastOf 42 = .ok (.lmul, 1) := by decide +kernel
theorem dX8_contrastOf_43 : decode cX8_contrastOf 43 = .ok (.lload_n 2, 1) := by decide +kernel
theorem dX8_contrastOf_44 : decode cX8_contrastOf 44 = .ok (.ldiv, 1) := by decide +kernel
theorem dX8_contrastOf_45 : decode cX8_contrastOf 45 = .ok (.l2i, 1) := by decide +kernel
theorem dX8_contrastOf_46 : decode cX8_contrastOf 46 = .ok (.ireturn, 1) := by decide +kernel
theorem dX8_colours_0 : decode cX8_colours 0 = .ok (.aload_n 0, 1) := by decide +kernel
theorem dX8_colours_1 : decode cX8_colours 1 = .ok (.iload_n 1, 1) := by decide +kernel
theorem dX8_colours_2 : decode cX8_colours 2 = .ok (.invokevirtual 68, 3) := by decide +kernel
theorem dX8_colours_5 : decode cX8_colours 5 = .ok (.ifCond .ne 6, 3) := by decide +kernel
theorem dX8_colours_8 : decode cX8_colours 8 = .ok (.bipush (-101), 2) := by decide +kernel
theorem dX8_colours_10 : decode cX8_colours 10 = .ok (.ireturn, 1) := by decide +kernel
theorem dX8_colours_11 : decode cX8_colours 11 = .ok (.iload_n 2, 1) := by decide +kernel
theorem dX8_colours_12 : decode cX8_colours 12 = .ok (.i2l, 1) := by decide +kernel
theorem dX8_colours_13 : decode cX8_colours 13 = .ok (.lconst 0, 1) := by decide +kernel
theorem dX8_colours_14 : decode cX8_colours 14 = .ok (.ldc2_w 123, 3) := by decide +kernel
theorem dX8_colours_17 : decode cX8_colours 17 = .ok (.invokestatic 64, 3) := by decide +kernel
theorem dX8_colours_20 : decode cX8_colours 20 = .ok (.ifCond .eq 15, 3) := by decide +kernel
theorem dX8_colours_23 : decode cX8_colours 23 = .ok (.iload_n 3, 1) := by decide +kernel
theorem dX8_colours_24 : decode cX8_colours 24 = .ok (.i2l, 1) := by decide +kernel
theorem dX8_colours_25 : decode cX8_colours 25 = .ok (.lconst 0, 1) := by decide +kernel
theorem dX8_colours_26 : decode cX8_colours 26 = .ok (.ldc2_w 123, 3) := by decide +kernel
theorem dX8_colours_29 : decode cX8_colours 29 = .ok (.invokestatic 64, 3) := by decide +kernel
theorem dX8_colours_32 : decode cX8_colours 32 = .ok (.ifCond .ne 6, 3) := by decide +kernel
theorem dX8_colours_35 : decode cX8_colours 35 = .ok (.bipush (-102), 2) := by decide +kernel
theorem dX8_colours_37 : decode cX8_colours 37 = .ok (.ireturn, 1) := by decide +kernel
theorem dX8_colours_38 : decode cX8_colours 38 = .ok (.aload_n 0, 1) := by decide +kernel
theorem dX8_colours_39 : decode cX8_colours 39 = .ok (.iload_n 1, 1) := by decide +kernel
theorem dX8_colours_40 : decode cX8_colours 40 = .ok (.bipush 16, 2) := by decide +kernel
theorem dX8_colours_42 : decode cX8_colours 42 = .ok (.iload_n 2, 1) := by decide +kernel
theorem dX8_colours_43 : decode cX8_colours 43 = .ok (.invokevirtual 60, 3) := by decide +kernel
theorem dX8_colours_46 : decode cX8_colours 46 = .ok (.aload_n 0, 1) := by decide +kernel
theorem dX8_colours_47 : decode cX8_colours 47 = .ok (.iload_n 1, 1) := by decide +kernel
theorem dX8_colours_48 : decode cX8_colours 48 = .ok (.bipush 17, 2) := by decide +kernel
theorem dX8_colours_50 : decode cX8_colours 50 = .ok (.iload_n 3, 1) := by decide +kernel
theorem dX8_colours_51 : decode cX8_colours 51 = .ok (.invokevirtual 60, 3) := by decide +kernel
theorem dX8_colours_54 : decode cX8_colours 54 = .ok (.iload_n 2, 1) := by decide +kernel
theorem dX8_colours_55 : decode cX8_colours 55 = .ok (.iload_n 3, 1) := by decide +kernel
theorem dX8_colours_56 : decode cX8_colours 56 = .ok (.invokestatic 125, 3) := by decide +kernel
theorem dX8_colours_59 : decode cX8_colours 59 = .ok (.ireturn, 1) := by decide +kernel
theorem dX8_contrast_0 : decode cX8_contrast 0 = .ok (.aload_n 0, 1) := by decide +kernel
theorem dX8_contrast_1 : decode cX8_contrast 1 = .ok (.iload_n 1, 1) := by decide +kernel
theorem dX8_contrast_2 : decode cX8_contrast 2 = .ok (.invokevirtual 68, 3) := by decide +kernel
theorem dX8_contrast_5 : decode cX8_contrast 5 = .ok (.ifCond .eq 23, 3) := by decide +kernel
theorem dX8_contrast_8 : decode cX8_contrast 8 = .ok (.aload_n 0, 1) := by decide +kernel
theorem dX8_contrast_9 : decode cX8_contrast 9 = .ok (.iload_n 1, 1) := by decide +kernel
theorem dX8_contrast_10 : decode cX8_contrast 10 = .ok (.bipush 16, 2) := by decide +kernel
theorem dX8_contrast_12 : decode cX8_contrast 12 = .ok (.invokevirtual 74, 3) := by decide +kernel
theorem dX8_contrast_15 : decode cX8_contrast 15 = .ok (.aload_n 0, 1) := by decide +kernel
theorem dX8_contrast_16 : decode cX8_contrast 16 = .ok (.iload_n 1, 1) := by decide +kernel
theorem dX8_contrast_17 : decode cX8_contrast 17 = .ok (.bipush 17, 2) := by decide +kernel
theorem dX8_contrast_19 : decode cX8_contrast 19 = .ok (.invokevirtual 74, 3) := by decide +kernel
theorem dX8_contrast_22 : decode cX8_contrast 22 = .ok (.invokestatic 125, 3) := by decide +kernel
theorem dX8_contrast_25 : decode cX8_contrast 25 = .ok (.goto 5, 3) := by decide +kernel
theorem dX8_contrast_28 : decode cX8_contrast 28 = .ok (.bipush (-101), 2) := by decide +kernel
theorem dX8_contrast_30 : decode cX8_contrast 30 = .ok (.ireturn, 1) := by decide +kernel
theorem dX8_addWord_0 : decode cX8_addWord 0 = .ok (.iload_n 2, 1) := by decide +kernel
theorem dX8_addWord_1 : decode cX8_addWord 1 = .ok (.ifCond .eq 41, 3) := by decide +kernel
theorem dX8_addWord_4 : decode cX8_addWord 4 = .ok (.aload_n 0, 1) := by decide +kernel
theorem dX8_addWord_5 : decode cX8_addWord 5 = .ok (.getfield 25, 3) := by decide +kernel
theorem dX8_addWord_8 : decode cX8_addWord 8 = .ok (.iload_n 1, 1) := by decide +kernel
theorem dX8_addWord_9 : decode cX8_addWord 9 = .ok (.iaload, 1) := by decide +kernel
theorem dX8_addWord_10 : decode cX8_addWord 10 = .ok (.bipush 8, 2) := by decide +kernel
theorem dX8_addWord_12 : decode cX8_addWord 12 = .ok (.if_icmp .ge 30, 3) := by decide +kernel
theorem dX8_addWord_15 : decode cX8_addWord 15 = .ok (.aload_n 0, 1) := by decide +kernel
theorem dX8_addWord_16 : decode cX8_addWord 16 = .ok (.getfield 22, 3) := by decide +kernel
theorem dX8_addWord_19 : decode cX8_addWord 19 = .ok (.bipush 8, 2) := by decide +kernel
theorem dX8_addWord_21 : decode cX8_addWord 21 = .ok (.iload_n 1, 1) := by decide +kernel
theorem dX8_addWord_22 : decode cX8_addWord 22 = .ok (.imul, 1) := by decide +kernel
theorem dX8_addWord_23 : decode cX8_addWord 23 = .ok (.aload_n 0, 1) := by decide +kernel
theorem dX8_addWord_24 : decode cX8_addWord 24 = .ok (.getfield 25, 3) := by decide +kernel
theorem dX8_addWord_27 : decode cX8_addWord 27 = .ok (.iload_n 1, 1) := by decide +kernel
theorem dX8_addWord_28 : decode cX8_addWord 28 = .ok (.iaload, 1) := by decide +kernel
theorem dX8_addWord_29 : decode cX8_addWord 29 = .ok (.iadd, 1) := by decide +kernel
theorem dX8_addWord_30 : decode cX8_addWord 30 = .ok (.iload_n 2, 1) := by decide +kernel
theorem dX8_addWord_31 : decode cX8_addWord 31 = .ok (.iastore, 1) := by decide +kernel
theorem dX8_addWord_32 : decode cX8_addWord 32 = .ok (.aload_n 0, 1) := by decide +kernel
theorem dX8_addWord_33 : decode cX8_addWord 33 = .ok (.getfield 25, 3) := by decide +kernel
theorem dX8_addWord_36 : decode cX8_addWord 36 = .ok (.iload_n 1, 1) := by decide +kernel
theorem dX8_addWord_37 : decode cX8_addWord 37 = .ok (.dup2, 1) := by decide +kernel
theorem dX8_addWord_38 : decode cX8_addWord 38 = .ok (.iaload, 1) := by decide +kernel
theorem dX8_addWord_39 : decode cX8_addWord 39 = .ok (.iconst 1, 1) := by decide +kernel
theorem dX8_addWord_40 : decode cX8_addWord 40 = .ok (.iadd, 1) := by decide +kernel
theorem dX8_addWord_41 : decode cX8_addWord 41 = .ok (.iastore, 1) := by decide +kernel
theorem dX8_addWord_42 : decode cX8_addWord 42 = .ok (.return_, 1) := by decide +kernel
theorem dX8_findName_0 : decode cX8_findName 0 = .ok (.aload_n 0, 1) := by decide +kernel
theorem dX8_findName_1 : decode cX8_findName 1 = .ok (.getfield 25, 3) := by decide +kernel
theorem dX8_findName_4 : decode cX8_findName 4 = .ok (.iload_n 1, 1) := by decide +kernel
theorem dX8_findName_5 : decode cX8_findName 5 = .ok (.iconst 0, 1) := by decide +kernel
theorem dX8_findName_6 : decode cX8_findName 6 = .ok (.iastore, 1) := by decide +kernel
theorem dX8_findName_7 : decode cX8_findName 7 = .ok (.iconst 3, 1) := by decide +kernel
theorem dX8_findName_8 : decode cX8_findName 8 = .ok (.istore_n 2, 1) := by decide +kernel
theorem dX8_findName_9 : decode cX8_findName 9 = .ok (.iload_n 2, 1) := by decide +kernel
theorem dX8_findName_10 : decode cX8_findName 10 = .ok (.iconst 5, 1) := by decide +kernel
theorem dX8_findName_11 : decode cX8_findName 11 = .ok (.if_icmp .ge 35, 3) := by decide +kernel
theorem dX8_findName_14 : decode cX8_findName 14 = .ok (.aload_n 0, 1) := by decide +kernel
theorem dX8_findName_15 : decode cX8_findName 15 = .ok (.iload_n 1, 1) := by decide +kernel
theorem dX8_findName_16 : decode cX8_findName 16 = .ok (.iload_n 2, 1) := by decide +kernel
theorem dX8_findName_17 : decode cX8_findName 17 = .ok (.invokevirtual 74, 3) := by decide +kernel
theorem dX8_findName_20 : decode cX8_findName 20 = .ok (.iconst (-1), 1) := by decide +kernel
theorem dX8_findName_21 : decode cX8_findName 21 = .ok (.if_icmp .eq 19, 3) := by decide +kernel
theorem dX8_findName_24 : decode cX8_findName 24 = .ok (.aload_n 0, 1) := by decide +kernel
theorem dX8_findName_25 : decode cX8_findName 25 = .ok (.iload_n 1, 1) := by decide +kernel
theorem dX8_findName_26 : decode cX8_findName 26 = .ok (.aload_n 0, 1) := by decide +kernel
theorem dX8_findName_27 : decode cX8_findName 27 = .ok (.aload_n 0, 1) := by decide +kernel
theorem dX8_findName_28 : decode cX8_findName 28 = .ok (.iload_n 1, 1) := by decide +kernel
theorem dX8_findName_29 : decode cX8_findName 29 = .ok (.iload_n 2, 1) := by decide +kernel
theorem dX8_findName_30 : decode cX8_findName 30 = .ok (.invokevirtual 74, 3) := by decide +kernel
theorem dX8_findName_33 : decode cX8_findName 33 = .ok (.iconst 0, 1) := by decide +kernel
theorem dX8_findName_34 : decode cX8_findName 34 = .ok (.invokevirtual 74, 3) := by decide +kernel
theorem dX8_findName_37 : decode cX8_findName 37 = .ok (.invokevirtual 128, 3) := by decide +kernel
theorem dX8_findName_40 : decode cX8_findName 40 = .ok (.iinc 2 1, 3) := by decide +kernel
theorem dX8_findName_43 : decode cX8_findName 43 = .ok (.goto (-34), 3) := by decide +kernel
theorem dX8_findName_46 : decode cX8_findName 46 = .ok (.aload_n 0, 1) := by decide +kernel
theorem dX8_findName_47 : decode cX8_findName 47 = .ok (.getfield 25, 3) := by decide +kernel
theorem dX8_findName_50 : decode cX8_findName 50 = .ok (.iload_n 1, 1) := by decide +kernel
theorem dX8_findName_51 : decode cX8_findName 51 = .ok (.iaload, 1) := by decide +kernel
theorem dX8_findName_52 : decode cX8_findName 52 = .ok (.ifCond .ne 14, 3) := by decide +kernel
theorem dX8_findName_55 : decode cX8_findName 55 = .ok (.aload_n 0, 1) := by decide +kernel
theorem dX8_findName_56 : decode cX8_findName 56 = .ok (.iload_n 1, 1) := by decide +kernel
theorem dX8_findName_57 : decode cX8_findName 57 = .ok (.aload_n 0, 1) := by decide +kernel
theorem dX8_findName_58 : decode cX8_findName 58 = .ok (.iload_n 1, 1) := by decide +kernel
theorem dX8_findName_59 : decode cX8_findName 59 = .ok (.iconst 1, 1) := by decide +kernel
theorem dX8_findName_60 : decode cX8_findName 60 = .ok (.invokevirtual 74, 3) := by decide +kernel
theorem dX8_findName_63 : decode cX8_findName 63 = .ok (.invokevirtual 128, 3) := by decide +kernel
theorem dX8_findName_66 : decode cX8_findName 66 = .ok (.aload_n 0, 1) := by decide +kernel
theorem dX8_findName_67 : decode cX8_findName 67 = .ok (.getfield 25, 3) := by decide +kernel
theorem dX8_findName_70 : decode cX8_findName 70 = .ok (.iload_n 1, 1) := by decide +kernel
theorem dX8_findName_71 : decode cX8_findName 71 = .ok (.iaload, 1) := by decide +kernel
theorem dX8_findName_72 : decode cX8_findName 72 = .ok (.ifCond .ne 14, 3) := by decide +kernel
theorem dX8_findName_75 : decode cX8_findName 75 = .ok (.aload_n 0, 1) := by decide +kernel
theorem dX8_findName_76 : decode cX8_findName 76 = .ok (.iload_n 1, 1) := by decide +kernel
theorem dX8_findName_77 : decode cX8_findName 77 = .ok (.aload_n 0, 1) := by decide +kernel
theorem dX8_findName_78 : decode cX8_findName 78 = .ok (.iload_n 1, 1) := by decide +kernel
theorem dX8_findName_79 : decode cX8_findName 79 = .ok (.iconst 0, 1) := by decide +kernel
theorem dX8_findName_80 : decode cX8_findName 80 = .ok (.invokevirtual 74, 3) := by decide +kernel
theorem dX8_findName_83 : decode cX8_findName 83 = .ok (.invokevirtual 128, 3) := by decide +kernel
theorem dX8_findName_86 : decode cX8_findName 86 = .ok (.aload_n 0, 1) := by decide +kernel
theorem dX8_findName_87 : decode cX8_findName 87 = .ok (.getfield 25, 3) := by decide +kernel
theorem dX8_findName_90 : decode cX8_findName 90 = .ok (.iload_n 1, 1) := by decide +kernel
theorem dX8_findName_91 : decode cX8_findName 91 = .ok (.iaload, 1) := by decide +kernel
theorem dX8_findName_92 : decode cX8_findName 92 = .ok (.ifCond .ne 80, 3) := by decide +kernel
theorem dX8_findName_95 : decode cX8_findName 95 = .ok (.aload_n 0, 1) := by decide +kernel
theorem dX8_findName_96 : decode cX8_findName 96 = .ok (.iload_n 1, 1) := by decide +kernel
theorem dX8_findName_97 : decode cX8_findName 97 = .ok (.bipush 10, 2) := by decide +kernel
theorem dX8_findName_99 : decode cX8_findName 99 = .ok (.invokevirtual 74, 3) := by decide +kernel
theorem dX8_findName_102 : decode cX8_findName 102 = .ok (.iconst 2, 1) := by decide +kernel
theorem dX8_findName_103 : decode cX8_findName 103 = .ok (.if_icmp .ne 69, 3) := by decide +kernel
theorem dX8_findName_106 : decode cX8_findName 106 = .ok (.aload_n 0, 1) := by decide +kernel
theorem dX8_findName_107 : decode cX8_findName 107 = .ok (.invokevirtual 132, 3) := by decide +kernel
theorem dX8_findName_110 : decode cX8_findName 110 = .ok (.iconst 0, 1) := by decide +kernel
theorem dX8_findName_111 : decode cX8_findName 111 = .ok (.istore_n 2, 1) := by decide +kernel
theorem dX8_findName_112 : decode cX8_findName 112 = .ok (.iload_n 2, 1) := by decide +kernel
theorem dX8_findName_113 : decode cX8_findName 113 = .ok (.aload_n 0, 1) := by decide +kernel
theorem dX8_findName_114 : decode cX8_findName 114 = .ok (.getfield 57, 3) := by decide +kernel
theorem dX8_findName_117 : decode cX8_findName 117 = .ok (.if_icmp .ge 55, 3) := by decide +kernel
theorem dX8_findName_120 : decode cX8_findName 120 = .ok (.aload_n 0, 1) := by decide +kernel
theorem dX8_findName_121 : decode cX8_findName 121 = .ok (.getfield 16, 3) := by decide +kernel
theorem dX8_findName_124 : decode cX8_findName 124 = .ok (.iload_n 2, 1) := by decide +kernel
theorem dX8_findName_125 : decode cX8_findName 125 = .ok (.iaload, 1) := by decide +kernel
theorem dX8_findName_126 : decode cX8_findName 126 = .ok (.istore_n 3, 1) := by decide +kernel
theorem dX8_findName_127 : decode cX8_findName 127 = .ok (.aload_n 0, 1) := by decide +kernel
theorem dX8_findName_128 : decode cX8_findName 128 = .ok (.iload_n 3, 1) := by decide +kernel
theorem dX8_findName_129 : decode cX8_findName 129 = .ok (.bipush 10, 2) := by decide +kernel
theorem dX8_findName_131 : decode cX8_findName 131 = .ok (.invokevirtual 74, 3) := by decide +kernel
theorem dX8_findName_134 : decode cX8_findName 134 = .ok (.iconst 1, 1) := by decide +kernel
theorem dX8_findName_135 : decode cX8_findName 135 = .ok (.if_icmp .ne 31, 3) := by decide +kernel
theorem dX8_findName_138 : decode cX8_findName 138 = .ok (.aload_n 0, 1) := by decide +kernel
theorem dX8_findName_139 : decode cX8_findName 139 = .ok (.iload_n 3, 1) := by decide +kernel
theorem dX8_findName_140 : decode cX8_findName 140 = .ok (.iload_n 1, 1) := by decide +kernel
theorem dX8_findName_141 : decode cX8_findName 141 = .ok (.invokevirtual 135, 3) := by decide +kernel
theorem dX8_findName_144 : decode cX8_findName 144 = .ok (.ifCond .eq 22, 3) := by decide +kernel
theorem dX8_findName_147 : decode cX8_findName 147 = .ok (.aload_n 0, 1) := by decide +kernel
theorem dX8_findName_148 : decode cX8_findName 148 = .ok (.iload_n 3, 1) := by decide +kernel
theorem dX8_findName_149 : decode cX8_findName 149 = .ok (.invokevirtual 89, 3) := by decide +kernel
theorem dX8_findName_152 : decode cX8_findName 152 = .ok (.ifCond .eq 14, 3) := by decide +kernel
theorem dX8_findName_155 : decode cX8_findName 155 = .ok (.aload_n 0, 1) := by decide +kernel
theorem dX8_findName_156 : decode cX8_findName 156 = .ok (.iload_n 1, 1) := by decide +kernel
theorem dX8_findName_157 : decode cX8_findName 157 = .ok (.aload_n 0, 1) := by decide +kernel
theorem dX8_findName_158 : decode cX8_findName 158 = .ok (.iload_n 3, 1) := by decide +kernel
theorem dX8_findName_159 : decode cX8_findName 159 = .ok (.iconst 0, 1) := by decide +kernel
theorem dX8_findName_160 : decode cX8_findName 160 = .ok (.invokevirtual 74, 3) := by decide +kernel
theorem dX8_findName_163 : decode cX8_findName 163 = .ok (.invokevirtual 128, 3) := by decide +kernel
theorem dX8_findName_166 : decode cX8_findName 166 = .ok (.iinc 2 1, 3) := by decide +kernel
theorem dX8_findName_169 : decode cX8_findName 169 = .ok (.goto (-57), 3) := by decide +kernel
theorem dX8_findName_172 : decode cX8_findName 172 = .ok (.aload_n 0, 1) := by decide +kernel
theorem dX8_findName_173 : decode cX8_findName 173 = .ok (.getfield 25, 3) := by decide +kernel
theorem dX8_findName_176 : decode cX8_findName 176 = .ok (.iload_n 1, 1) := by decide +kernel
theorem dX8_findName_177 : decode cX8_findName 177 = .ok (.iaload, 1) := by decide +kernel
theorem dX8_findName_178 : decode cX8_findName 178 = .ok (.ifCond .ne 14, 3) := by decide +kernel
theorem dX8_findName_181 : decode cX8_findName 181 = .ok (.aload_n 0, 1) := by decide +kernel
theorem dX8_findName_182 : decode cX8_findName 182 = .ok (.iload_n 1, 1) := by decide +kernel
theorem dX8_findName_183 : decode cX8_findName 183 = .ok (.aload_n 0, 1) := by decide +kernel
theorem dX8_findName_184 : decode cX8_findName 184 = .ok (.iload_n 1, 1) := by decide +kernel
theorem dX8_findName_185 : decode cX8_findName 185 = .ok (.iconst 2, 1) := by decide +kernel
theorem dX8_findName_186 : decode cX8_findName 186 = .ok (.invokevirtual 74, 3) := by decide +kernel
theorem dX8_findName_189 : decode cX8_findName 189 = .ok (.invokevirtual 128, 3) := by decide +kernel
theorem dX8_findName_192 : decode cX8_findName 192 = .ok (.return_, 1) := by decide +kernel
theorem dX8_name_0 : decode cX8_name 0 = .ok (.aload_n 0, 1) := by decide +kernel
theorem dX8_name_1 : decode cX8_name 1 = .ok (.iload_n 1, 1) := by decide +kernel
theorem dX8_name_2 : decode cX8_name 2 = .ok (.invokevirtual 68, 3) := by decide +kernel
theorem dX8_name_5 : decode cX8_name 5 = .ok (.ifCond .ne 6, 3) := by decide +kernel
theorem dX8_name_8 : decode cX8_name 8 = .ok (.bipush (-101), 2) := by decide +kernel
theorem dX8_name_10 : decode cX8_name 10 = .ok (.ireturn, 1) := by decide +kernel
theorem dX8_name_11 : decode cX8_name 11 = .ok (.aload_n 0, 1) := by decide +kernel
theorem dX8_name_12 : decode cX8_name 12 = .ok (.iload_n 1, 1) := by decide +kernel
theorem dX8_name_13 : decode cX8_name 13 = .ok (.invokevirtual 138, 3) := by decide +kernel
theorem dX8_name_16 : decode cX8_name 16 = .ok (.aload_n 0, 1) := by decide +kernel
theorem dX8_name_17 : decode cX8_name 17 = .ok (.getfield 25, 3) := by decide +kernel
theorem dX8_name_20 : decode cX8_name 20 = .ok (.iload_n 1, 1) := by decide +kernel
theorem dX8_name_21 : decode cX8_name 21 = .ok (.iaload, 1) := by decide +kernel
theorem dX8_name_22 : decode cX8_name 22 = .ok (.ireturn, 1) := by decide +kernel
theorem dX8_word_0 : decode cX8_word 0 = .ok (.aload_n 0, 1) := by decide +kernel
theorem dX8_word_1 : decode cX8_word 1 = .ok (.iload_n 1, 1) := by decide +kernel
theorem dX8_word_2 : decode cX8_word 2 = .ok (.invokevirtual 68, 3) := by decide +kernel
theorem dX8_word_5 : decode cX8_word 5 = .ok (.ifCond .ne 5, 3) := by decide +kernel
theorem dX8_word_8 : decode cX8_word 8 = .ok (.iconst 0, 1) := by decide +kernel
theorem dX8_word_9 : decode cX8_word 9 = .ok (.ireturn, 1) := by decide +kernel
theorem dX8_word_10 : decode cX8_word 10 = .ok (.aload_n 0, 1) := by decide +kernel
theorem dX8_word_11 : decode cX8_word 11 = .ok (.iload_n 1, 1) := by decide +kernel
theorem dX8_word_12 : decode cX8_word 12 = .ok (.invokevirtual 138, 3) := by decide +kernel
theorem dX8_word_15 : decode cX8_word 15 = .ok (.iload_n 2, 1) := by decide +kernel
theorem dX8_word_16 : decode cX8_word 16 = .ok (.i2l, 1) := by decide +kernel
theorem dX8_word_17 : decode cX8_word 17 = .ok (.lconst 0, 1) := by decide +kernel
theorem dX8_word_18 : decode cX8_word 18 = .ok (.aload_n 0, 1) := by decide +kernel
theorem dX8_word_19 : decode cX8_word 19 = .ok (.getfield 25, 3) := by decide +kernel
theorem dX8_word_22 : decode cX8_word 22 = .ok (.iload_n 1, 1) := by decide +kernel
theorem dX8_word_23 : decode cX8_word 23 = .ok (.iaload, 1) := by decide +kernel
theorem dX8_word_24 : decode cX8_word 24 = .ok (.iconst 1, 1) := by decide +kernel
theorem dX8_word_25 : decode cX8_word 25 = .ok (.isub, 1) := by decide +kernel
theorem dX8_word_26 : decode cX8_word 26 = .ok (.i2l, 1) := by decide +kernel
theorem dX8_word_27 : decode cX8_word 27 = .ok (.invokestatic 64, 3) := by decide +kernel
theorem dX8_word_30 : decode cX8_word 30 = .ok (.ifCond .eq 17, 3) := by decide +kernel
theorem dX8_word_33 : decode cX8_word 33 = .ok (.aload_n 0, 1) := by decide +kernel
theorem dX8_word_34 : decode cX8_word 34 = .ok (.getfield 22, 3) := by decide +kernel
theorem dX8_word_37 : decode cX8_word 37 = .ok (.bipush 8, 2) := by decide +kernel
theorem dX8_word_39 : decode cX8_word 39 = .ok (.iload_n 1, 1) := by decide +kernel
theorem dX8_word_40 : decode cX8_word 40 = .ok (.imul, 1) := by decide +kernel
theorem dX8_word_41 : decode cX8_word 41 = .ok (.iload_n 2, 1) := by decide +kernel
theorem dX8_word_42 : decode cX8_word 42 = .ok (.iadd, 1) := by decide +kernel
theorem dX8_word_43 : decode cX8_word 43 = .ok (.iaload, 1) := by decide +kernel
theorem dX8_word_44 : decode cX8_word 44 = .ok (.goto 4, 3) := by decide +kernel
theorem dX8_word_47 : decode cX8_word 47 = .ok (.iconst 0, 1) := by decide +kernel
theorem dX8_word_48 : decode cX8_word 48 = .ok (.ireturn, 1) := by decide +kernel
theorem dX8_findSaid_0 : decode cX8_findSaid 0 = .ok (.aload_n 0, 1) := by decide +kernel
theorem dX8_findSaid_1 : decode cX8_findSaid 1 = .ok (.invokevirtual 132, 3) := by decide +kernel
theorem dX8_findSaid_4 : decode cX8_findSaid 4 = .ok (.aload_n 0, 1) := by decide +kernel
theorem dX8_findSaid_5 : decode cX8_findSaid 5 = .ok (.iconst 0, 1) := by decide +kernel
theorem dX8_findSaid_6 : decode cX8_findSaid 6 = .ok (.putfield 141, 3) := by decide +kernel
theorem dX8_findSaid_9 : decode cX8_findSaid 9 = .ok (.iconst 0, 1) := by decide +kernel
theorem dX8_findSaid_10 : decode cX8_findSaid 10 = .ok (.istore_n 1, 1) := by decide +kernel
theorem dX8_findSaid_11 : decode cX8_findSaid 11 = .ok (.iload_n 1, 1) := by decide +kernel
theorem dX8_findSaid_12 : decode cX8_findSaid 12 = .ok (.aload_n 0, 1) := by decide +kernel
theorem dX8_findSaid_13 : decode cX8_findSaid 13 = .ok (.getfield 57, 3) := by decide +kernel
theorem dX8_findSaid_16 : decode cX8_findSaid 16 = .ok (.if_icmp .ge 103, 3) := by decide +kernel
theorem dX8_findSaid_19 : decode cX8_findSaid 19 = .ok (.aload_n 0, 1) := by decide +kernel
theorem dX8_findSaid_20 : decode cX8_findSaid 20 = .ok (.getfield 16, 3) := by decide +kernel
theorem dX8_findSaid_23 : decode cX8_findSaid 23 = .ok (.iload_n 1, 1) := by decide +kernel
theorem dX8_findSaid_24 : decode cX8_findSaid 24 = .ok (.iaload, 1) := by decide +kernel
theorem dX8_findSaid_25 : decode cX8_findSaid 25 = .ok (.istore_n 2, 1) := by decide +kernel
theorem dX8_findSaid_26 : decode cX8_findSaid 26 = .ok (.aload_n 0, 1) := by decide +kernel
theorem dX8_findSaid_27 : decode cX8_findSaid 27 = .ok (.iload_n 2, 1) := by decide +kernel
theorem dX8_findSaid_28 : decode cX8_findSaid 28 = .ok (.bipush 10, 2) := by decide +kernel
theorem dX8_findSaid_30 : decode cX8_findSaid 30 = .ok (.invokevirtual 74, 3) := by decide +kernel
theorem dX8_findSaid_33 : decode cX8_findSaid 33 = .ok (.istore_n 3, 1) := by decide +kernel
theorem dX8_findSaid_34 : decode cX8_findSaid 34 = .ok (.iload_n 3, 1) := by decide +kernel
theorem dX8_findSaid_35 : decode cX8_findSaid 35 = .ok (.iconst 1, 1) := by decide +kernel
theorem dX8_findSaid_36 : decode cX8_findSaid 36 = .ok (.if_icmp .ne 22, 3) := by decide +kernel
theorem dX8_findSaid_39 : decode cX8_findSaid 39 = .ok (.aload_n 0, 1) := by decide +kernel
theorem dX8_findSaid_40 : decode cX8_findSaid 40 = .ok (.iload_n 2, 1) := by decide +kernel
theorem dX8_findSaid_41 : decode cX8_findSaid 41 = .ok (.iconst 0, 1) := by decide +kernel
theorem dX8_findSaid_42 : decode cX8_findSaid 42 = .ok (.invokevirtual 74, 3) := by decide +kernel
theorem dX8_findSaid_45 : decode cX8_findSaid 45 = .ok (.ifCond .eq 13, 3) := by decide +kernel
theorem dX8_findSaid_48 : decode cX8_findSaid 48 = .ok (.aload_n 0, 1) := by decide +kernel
theorem dX8_findSaid_49 : decode cX8_findSaid 49 = .ok (.iload_n 2, 1) := by decide +kernel
theorem dX8_findSaid_50 : decode cX8_findSaid 50 = .ok (.iconst 2, 1) := by decide +kernel
theorem dX8_findSaid_51 : decode cX8_findSaid 51 = .ok (.invokevirtual 86, 3) := by decide +kernel
theorem dX8_findSaid_54 : decode cX8_findSaid 54 = .ok (.iconst (-1), 1) := by decide +kernel
theorem dX8_findSaid_55 : decode cX8_findSaid 55 = .ok (.if_icmp .eq 18, 3) := by decide +kernel
theorem dX8_findSaid_58 : decode cX8_findSaid 58 = .ok (.iload_n 3, 1) := by decide +kernel
theorem dX8_findSaid_59 : decode cX8_findSaid 59 = .ok (.iconst 2, 1) := by decide +kernel
theorem dX8_findSaid_60 : decode cX8_findSaid 60 = .ok (.if_icmp .eq 13, 3) := by decide +kernel
theorem dX8_findSaid_63 : decode cX8_findSaid 63 = .ok (.iload_n 3, 1) := by decide +kernel
theorem dX8_findSaid_64 : decode cX8_findSaid 64 = .ok (.iconst 3, 1) := by decide +kernel
theorem dX8_findSaid_65 : decode cX8_findSaid 65 = .ok (.if_icmp .eq 8, 3) := by decide +kernel
theorem dX8_findSaid_68 : decode cX8_findSaid 68 = .ok (.iload_n 3, 1) := by decide +kernel
theorem dX8_findSaid_69 : decode cX8_findSaid 69 = .ok (.iconst 4, 1) := by decide +kernel
theorem dX8_findSaid_70 : decode cX8_findSaid 70 = .ok (.if_icmp .ne 7, 3) := by decide +kernel
theorem dX8_findSaid_73 : decode cX8_findSaid 73 = .ok (.iconst 1, 1) := by decide +kernel
theorem dX8_findSaid_74 : decode cX8_findSaid 74 = .ok (.goto 4, 3) := by decide +kernel
theorem dX8_findSaid_77 : decode cX8_findSaid 77 = .ok (.iconst 0, 1) := by decide +kernel
theorem dX8_findSaid_78 : decode cX8_findSaid 78 = .ok (.istore 4, 2) := by decide +kernel
theorem dX8_findSaid_80 : decode cX8_findSaid 80 = .ok (.iload 4, 2) := by decide +kernel
theorem dX8_findSaid_82 : decode cX8_findSaid 82 = .ok (.ifCond .eq 31, 3) := by decide +kernel
theorem dX8_findSaid_85 : decode cX8_findSaid 85 = .ok (.aload_n 0, 1) := by decide +kernel
theorem dX8_findSaid_86 : decode cX8_findSaid 86 = .ok (.iload_n 2, 1) := by decide +kernel
theorem dX8_findSaid_87 : decode cX8_findSaid 87 = .ok (.invokevirtual 89, 3) := by decide +kernel
theorem dX8_findSaid_90 : decode cX8_findSaid 90 = .ok (.ifCond .eq 23, 3) := by decide +kernel
theorem dX8_findSaid_93 : decode cX8_findSaid 93 = .ok (.aload_n 0, 1) := by decide +kernel
theorem dX8_findSaid_94 : decode cX8_findSaid 94 = .ok (.getfield 28, 3) := by decide +kernel
theorem dX8_findSaid_97 : decode cX8_findSaid 97 = .ok (.aload_n 0, 1) := by decide +kernel
theorem dX8_findSaid_98 : decode cX8_findSaid 98 = .ok (.getfield 141, 3) := by decide +kernel
theorem dX8_findSaid_101 : decode cX8_findSaid 101 = .ok (.iload_n 2, 1) := by decide +kernel
theorem dX8_findSaid_102 : decode cX8_findSaid 102 = .ok (.iastore, 1) := by decide +kernel
theorem dX8_findSaid_103 : decode cX8_findSaid 103 = .ok (.aload_n 0, 1) := by decide +kernel
theorem dX8_findSaid_104 : decode cX8_findSaid 104 = .ok (.dup, 1) := by decide +kernel
theorem dX8_findSaid_105 : decode cX8_findSaid 105 = .ok (.getfield 141, 3) := by decide +kernel
theorem dX8_findSaid_108 : decode cX8_findSaid 108 = .ok (.iconst 1, 1) := by decide +kernel
theorem dX8_findSaid_109 : decode cX8_findSaid 109 = .ok (.iadd, 1) := by decide +kernel
theorem dX8_findSaid_110 : decode cX8_findSaid 110 = .ok (.putfield 141, 3) := by decide +kernel
theorem dX8_findSaid_113 : decode cX8_findSaid 113 = .ok (.iinc 1 1, 3) := by decide +kernel
theorem dX8_findSaid_116 : decode cX8_findSaid 116 = .ok (.goto (-105), 3) := by decide +kernel
theorem dX8_findSaid_119 : decode cX8_findSaid 119 = .ok (.return_, 1) := by decide +kernel
theorem dX8_said_0 : decode cX8_said 0 = .ok (.aload_n 0, 1) := by decide +kernel
theorem dX8_said_1 : decode cX8_said 1 = .ok (.invokevirtual 144, 3) := by decide +kernel
theorem dX8_said_4 : decode cX8_said 4 = .ok (.iload_n 1, 1) := by decide +kernel
theorem dX8_said_5 : decode cX8_said 5 = .ok (.i2l, 1) := by decide +kernel
theorem dX8_said_6 : decode cX8_said 6 = .ok (.lconst 0, 1) := by decide +kernel
theorem dX8_said_7 : decode cX8_said 7 = .ok (.aload_n 0, 1) := by decide +kernel
theorem dX8_said_8 : decode cX8_said 8 = .ok (.getfield 141, 3) := by decide +kernel
theorem dX8_said_11 : decode cX8_said 11 = .ok (.iconst 1, 1) := by decide +kernel
theorem dX8_said_12 : decode cX8_said 12 = .ok (.isub, 1) := by decide +kernel
theorem dX8_said_13 : decode cX8_said 13 = .ok (.i2l, 1) := by decide +kernel
theorem dX8_said_14 : decode cX8_said 14 = .ok (.invokestatic 64, 3) := by decide +kernel
theorem dX8_said_17 : decode cX8_said 17 = .ok (.ifCond .eq 12, 3) := by decide +kernel
theorem dX8_said_20 : decode cX8_said 20 = .ok (.aload_n 0, 1) := by decide +kernel
theorem dX8_said_21 : decode cX8_said 21 = .ok (.getfield 28, 3) := by decide +kernel
theorem dX8_said_24 : decode cX8_said 24 = .ok (.iload_n 1, 1) := by decide +kernel
theorem dX8_said_25 : decode cX8_said 25 = .ok (.iaload, 1) := by decide +kernel
theorem dX8_said_26 : decode cX8_said 26 = .ok (.goto 4, 3) := by decide +kernel
theorem dX8_said_29 : decode cX8_said 29 = .ok (.iconst (-1), 1) := by decide +kernel
theorem dX8_said_30 : decode cX8_said 30 = .ok (.ireturn, 1) := by decide +kernel
theorem dX8_hasBox_0 : decode cX8_hasBox 0 = .ok (.aload_n 0, 1) := by decide +kernel
theorem dX8_hasBox_1 : decode cX8_hasBox 1 = .ok (.iload_n 1, 1) := by decide +kernel
theorem dX8_hasBox_2 : decode cX8_hasBox 2 = .ok (.bipush 14, 2) := by decide +kernel
theorem dX8_hasBox_4 : decode cX8_hasBox 4 = .ok (.invokevirtual 74, 3) := by decide +kernel
theorem dX8_hasBox_7 : decode cX8_hasBox 7 = .ok (.ifCond .le 17, 3) := by decide +kernel
theorem dX8_hasBox_10 : decode cX8_hasBox 10 = .ok (.aload_n 0, 1) := by decide +kernel
theorem dX8_hasBox_11 : decode cX8_hasBox 11 = .ok (.iload_n 1, 1) := by decide +kernel
theorem dX8_hasBox_12 : decode cX8_hasBox 12 = .ok (.bipush 15, 2) := by decide +kernel
theorem dX8_hasBox_14 : decode cX8_hasBox 14 = .ok (.invokevirtual 74, 3) := by decide +kernel
theorem dX8_hasBox_17 : decode cX8_hasBox 17 = .ok (.ifCond .le 7, 3) := by decide +kernel
theorem dX8_hasBox_20 : decode cX8_hasBox 20 = .ok (.iconst 1, 1) := by decide +kernel
theorem dX8_hasBox_21 : decode cX8_hasBox 21 = .ok (.goto 4, 3) := by decide +kernel
theorem dX8_hasBox_24 : decode cX8_hasBox 24 = .ok (.iconst 0, 1) := by decide +kernel
theorem dX8_hasBox_25 : decode cX8_hasBox 25 = .ok (.ireturn, 1) := by decide +kernel
theorem dX8_isAbove_0 : decode cX8_isAbove 0 = .ok (.aload_n 0, 1) := by decide +kernel
theorem dX8_isAbove_1 : decode cX8_isAbove 1 = .ok (.iload_n 1, 1) := by decide +kernel
theorem dX8_isAbove_2 : decode cX8_isAbove 2 = .ok (.bipush 13, 2) := by decide +kernel
theorem dX8_isAbove_4 : decode cX8_isAbove 4 = .ok (.invokevirtual 74, 3) := by decide +kernel
theorem dX8_isAbove_7 : decode cX8_isAbove 7 = .ok (.aload_n 0, 1) := by decide +kernel
theorem dX8_isAbove_8 : decode cX8_isAbove 8 = .ok (.iload_n 1, 1) := by decide +kernel
theorem dX8_isAbove_9 : decode cX8_isAbove 9 = .ok (.bipush 15, 2) := by decide +kernel
theorem dX8_isAbove_11 : decode cX8_isAbove 11 = .ok (.invokevirtual 74, 3) := by decide +kernel
theorem dX8_isAbove_14 : decode cX8_isAbove 14 = .ok (.iadd, 1) := by decide +kernel
theorem dX8_isAbove_15 : decode cX8_isAbove 15 = .ok (.aload_n 0, 1) := by decide +kernel
theorem dX8_isAbove_16 : decode cX8_isAbove 16 = .ok (.iload_n 2, 1) := by decide +kernel
theorem dX8_isAbove_17 : decode cX8_isAbove 17 = .ok (.bipush 13, 2) := by decide +kernel
theorem dX8_isAbove_19 : decode cX8_isAbove 19 = .ok (.invokevirtual 74, 3) := by decide +kernel
theorem dX8_isAbove_22 : decode cX8_isAbove 22 = .ok (.if_icmp .gt 7, 3) := by decide +kernel
theorem dX8_isAbove_25 : decode cX8_isAbove 25 = .ok (.iconst 1, 1) := by decide +kernel
theorem dX8_isAbove_26 : decode cX8_isAbove 26 = .ok (.goto 4, 3) := by decide +kernel
theorem dX8_isAbove_29 : decode cX8_isAbove 29 = .ok (.iconst 0, 1) := by decide +kernel
theorem dX8_isAbove_30 : decode cX8_isAbove 30 = .ok (.ireturn, 1) := by decide +kernel
theorem dX8_isAstray_0 : decode cX8_isAstray 0 = .ok (.aload_n 0, 1) := by decide +kernel
theorem dX8_isAstray_1 : decode cX8_isAstray 1 = .ok (.iload_n 1, 1) := by decide +kernel
theorem dX8_isAstray_2 : decode cX8_isAstray 2 = .ok (.invokevirtual 147, 3) := by decide +kernel
theorem dX8_isAstray_5 : decode cX8_isAstray 5 = .ok (.ifCond .eq 11, 3) := by decide +kernel
theorem dX8_isAstray_8 : decode cX8_isAstray 8 = .ok (.aload_n 0, 1) := by decide +kernel
theorem dX8_isAstray_9 : decode cX8_isAstray 9 = .ok (.iload_n 2, 1) := by decide +kernel
theorem dX8_isAstray_10 : decode cX8_isAstray 10 = .ok (.invokevirtual 147, 3) := by decide +kernel
theorem dX8_isAstray_13 : decode cX8_isAstray 13 = .ok (.ifCond .ne 5, 3) := by decide +kernel
theorem dX8_isAstray_16 : decode cX8_isAstray 16 = .ok (.iconst 0, 1) := by decide +kernel
theorem dX8_isAstray_17 : decode cX8_isAstray 17 = .ok (.ireturn, 1) := by decide +kernel
theorem dX8_isAstray_18 : decode cX8_isAstray 18 = .ok (.aload_n 0, 1) := by decide +kernel
theorem dX8_isAstray_19 : decode cX8_isAstray 19 = .ok (.iload_n 2, 1) := by decide +kernel
theorem dX8_isAstray_20 : decode cX8_isAstray 20 = .ok (.iload_n 1, 1) := by decide +kernel
theorem dX8_isAstray_21 : decode cX8_isAstray 21 = .ok (.invokevirtual 150, 3) := by decide +kernel
theorem dX8_isAstray_24 : decode cX8_isAstray 24 = .ok (.ifCond .ne 37, 3) := by decide +kernel
theorem dX8_isAstray_27 : decode cX8_isAstray 27 = .ok (.aload_n 0, 1) := by decide +kernel
theorem dX8_isAstray_28 : decode cX8_isAstray 28 = .ok (.iload_n 1, 1) := by decide +kernel
theorem dX8_isAstray_29 : decode cX8_isAstray 29 = .ok (.iload_n 2, 1) := by decide +kernel
theorem dX8_isAstray_30 : decode cX8_isAstray 30 = .ok (.invokevirtual 150, 3) := by decide +kernel
theorem dX8_isAstray_33 : decode cX8_isAstray 33 = .ok (.ifCond .ne 32, 3) := by decide +kernel
theorem dX8_isAstray_36 : decode cX8_isAstray 36 = .ok (.aload_n 0, 1) := by decide +kernel
theorem dX8_isAstray_37 : decode cX8_isAstray 37 = .ok (.iload_n 2, 1) := by decide +kernel
theorem dX8_isAstray_38 : decode cX8_isAstray 38 = .ok (.bipush 12, 2) := by decide +kernel
theorem dX8_isAstray_40 : decode cX8_isAstray 40 = .ok (.invokevirtual 74, 3) := by decide +kernel
theorem dX8_isAstray_43 : decode cX8_isAstray 43 = .ok (.aload_n 0, 1) := by decide +kernel
theorem dX8_isAstray_44 : decode cX8_isAstray 44 = .ok (.iload_n 2, 1) := by decide +kernel
theorem dX8_isAstray_45 : decode cX8_isAstray 45 = .ok (.bipush 14, 2) := by decide +kernel
theorem dX8_isAstray_47 : decode cX8_isAstray 47 = .ok (.invokevirtual 74, 3) := by decide +kernel
theorem dX8_isAstray_50 : decode cX8_isAstray 50 = .ok (.iadd, 1) := by decide +kernel
theorem dX8_isAstray_51 : decode cX8_isAstray 51 = .ok (.aload_n 0, 1) := by decide +kernel
theorem dX8_isAstray_52 : decode cX8_isAstray 52 = .ok (.iload_n 1, 1) := by decide +kernel
theorem dX8_isAstray_53 : decode cX8_isAstray 53 = .ok (.bipush 12, 2) := by decide +kernel
theorem dX8_isAstray_55 : decode cX8_isAstray 55 = .ok (.invokevirtual 74, 3) := by decide +kernel
theorem dX8_isAstray_58 : decode cX8_isAstray 58 = .ok (.if_icmp .gt 7, 3) := by decide +kernel
theorem dX8_isAstray_61 : decode cX8_isAstray 61 = .ok (.iconst 1, 1) := by decide +kernel
theorem dX8_isAstray_62 : decode cX8_isAstray 62 = .ok (.goto 4, 3) := by decide +kernel
theorem dX8_isAstray_65 : decode cX8_isAstray 65 = .ok (.iconst 0, 1) := by decide +kernel
theorem dX8_isAstray_66 : decode cX8_isAstray 66 = .ok (.ireturn, 1) := by decide +kernel
theorem dX8_pairs_0 : decode cX8_pairs 0 = .ok (.aload_n 0, 1) := by decide +kernel
theorem dX8_pairs_1 : decode cX8_pairs 1 = .ok (.invokevirtual 144, 3) := by decide +kernel
theorem dX8_pairs_4 : decode cX8_pairs 4 = .ok (.iconst 0, 1) := by decide +kernel
theorem dX8_pairs_5 : decode cX8_pairs 5 = .ok (.istore_n 1, 1) := by decide +kernel
theorem dX8_pairs_6 : decode cX8_pairs 6 = .ok (.iconst 0, 1) := by decide +kernel
theorem dX8_pairs_7 : decode cX8_pairs 7 = .ok (.istore_n 2, 1) := by decide +kernel
theorem dX8_pairs_8 : decode cX8_pairs 8 = .ok (.iload_n 2, 1) := by decide +kernel
theorem dX8_pairs_9 : decode cX8_pairs 9 = .ok (.aload_n 0, 1) := by decide +kernel
theorem dX8_pairs_10 : decode cX8_pairs 10 = .ok (.getfield 141, 3) := by decide +kernel
theorem dX8_pairs_13 : decode cX8_pairs 13 = .ok (.if_icmp .ge 49, 3) := by decide +kernel
theorem dX8_pairs_16 : decode cX8_pairs 16 = .ok (.iconst 0, 1) := by decide +kernel
theorem dX8_pairs_17 : decode cX8_pairs 17 = .ok (.istore_n 3, 1) := by decide +kernel
theorem dX8_pairs_18 : decode cX8_pairs 18 = .ok (.iload_n 3, 1) := by decide +kernel
theorem dX8_pairs_19 : decode cX8_pairs 19 = .ok (.iload_n 2, 1) := by decide +kernel
theorem dX8_pairs_20 : decode cX8_pairs 20 = .ok (.if_icmp .ge 36, 3) := by decide +kernel
theorem dX8_pairs_23 : decode cX8_pairs 23 = .ok (.iload_n 1, 1) := by decide +kernel
theorem dX8_pairs_24 : decode cX8_pairs 24 = .ok (.aload_n 0, 1) := by decide +kernel
theorem dX8_pairs_25 : decode cX8_pairs 25 = .ok (.aload_n 0, 1) := by decide +kernel
theorem dX8_pairs_26 : decode cX8_pairs 26 = .ok (.getfield 28, 3) := by decide +kernel
theorem dX8_pairs_29 : decode cX8_pairs 29 = .ok (.iload_n 3, 1) := by decide +kernel
theorem dX8_pairs_30 : decode cX8_pairs 30 = .ok (.iaload, 1) := by decide +kernel
theorem dX8_pairs_31 : decode cX8_pairs 31 = .ok (.aload_n 0, 1) := by decide +kernel
theorem dX8_pairs_32 : decode cX8_pairs 32 = .ok (.getfield 28, 3) := by decide +kernel
theorem dX8_pairs_35 : decode cX8_pairs 35 = .ok (.iload_n 2, 1) := by decide +kernel
theorem dX8_pairs_36 : decode cX8_pairs 36 = .ok (.iaload, 1) := by decide +kernel
theorem dX8_pairs_37 : decode cX8_pairs 37 = .ok (.invokevirtual 153, 3) := by decide +kernel
theorem dX8_pairs_40 : decode cX8_pairs 40 = .ok (.ifCond .eq 7, 3) := by decide +kernel
theorem dX8_pairs_43 : decode cX8_pairs 43 = .ok (.iconst 1, 1) := by decide +kernel
theorem dX8_pairs_44 : decode cX8_pairs 44 = .ok (.goto 4, 3) := by decide +kernel
theorem dX8_pairs_47 : decode cX8_pairs 47 = .ok (.iconst 0, 1) := by decide +kernel
theorem dX8_pairs_48 : decode cX8_pairs 48 = .ok (.iadd, 1) := by decide +kernel
theorem dX8_pairs_49 : decode cX8_pairs 49 = .ok (.istore_n 1, 1) := by decide +kernel
theorem dX8_pairs_50 : decode cX8_pairs 50 = .ok (.iinc 3 1, 3) := by decide +kernel
theorem dX8_pairs_53 : decode cX8_pairs 53 = .ok (.goto (-35), 3) := by decide +kernel
theorem dX8_pairs_56 : decode cX8_pairs 56 = .ok (.iinc 2 1, 3) := by decide +kernel
theorem dX8_pairs_59 : decode cX8_pairs 59 = .ok (.goto (-51), 3) := by decide +kernel
theorem dX8_pairs_62 : decode cX8_pairs 62 = .ok (.iload_n 1, 1) := by decide +kernel
theorem dX8_pairs_63 : decode cX8_pairs 63 = .ok (.ireturn, 1) := by decide +kernel
theorem dX8_isStop_0 : decode cX8_isStop 0 = .ok (.aload_n 0, 1) := by decide +kernel
theorem dX8_isStop_1 : decode cX8_isStop 1 = .ok (.iload_n 1, 1) := by decide +kernel
theorem dX8_isStop_2 : decode cX8_isStop 2 = .ok (.bipush 10, 2) := by decide +kernel
theorem dX8_isStop_4 : decode cX8_isStop 4 = .ok (.invokevirtual 74, 3) := by decide +kernel
theorem dX8_isStop_7 : decode cX8_isStop 7 = .ok (.iconst 2, 1) := by decide +kernel
theorem dX8_isStop_8 : decode cX8_isStop 8 = .ok (.if_icmp .eq 14, 3) := by decide +kernel
theorem dX8_isStop_11 : decode cX8_isStop 11 = .ok (.aload_n 0, 1) := by decide +kernel
theorem dX8_isStop_12 : decode cX8_isStop 12 = .ok (.iload_n 1, 1) := by decide +kernel
theorem dX8_isStop_13 : decode cX8_isStop 13 = .ok (.bipush 10, 2) := by decide +kernel
theorem dX8_isStop_15 : decode cX8_isStop 15 = .ok (.invokevirtual 74, 3) := by decide +kernel
theorem dX8_isStop_18 : decode cX8_isStop 18 = .ok (.iconst 3, 1) := by decide +kernel
theorem dX8_isStop_19 : decode cX8_isStop 19 = .ok (.if_icmp .ne 15, 3) := by decide +kernel
theorem dX8_isStop_22 : decode cX8_isStop 22 = .ok (.aload_n 0, 1) := by decide +kernel
theorem dX8_isStop_23 : decode cX8_isStop 23 = .ok (.iload_n 1, 1) := by decide +kernel
theorem dX8_isStop_24 : decode cX8_isStop 24 = .ok (.invokevirtual 89, 3) := by decide +kernel
theorem dX8_isStop_27 : decode cX8_isStop 27 = .ok (.ifCond .eq 7, 3) := by decide +kernel
theorem dX8_isStop_30 : decode cX8_isStop 30 = .ok (.iconst 1, 1) := by decide +kernel
theorem dX8_isStop_31 : decode cX8_isStop 31 = .ok (.goto 4, 3) := by decide +kernel
theorem dX8_isStop_34 : decode cX8_isStop 34 = .ok (.iconst 0, 1) := by decide +kernel
theorem dX8_isStop_35 : decode cX8_isStop 35 = .ok (.ireturn, 1) := by decide +kernel
theorem dX8_findStops_0 : decode cX8_findStops 0 = .ok (.aload_n 0, 1) := by decide +kernel
theorem dX8_findStops_1 : decode cX8_findStops 1 = .ok (.invokevirtual 132, 3) := by decide +kernel
theorem dX8_findStops_4 : decode cX8_findStops 4 = .ok (.aload_n 0, 1) := by decide +kernel
theorem dX8_findStops_5 : decode cX8_findStops 5 = .ok (.iconst 0, 1) := by decide +kernel
theorem dX8_findStops_6 : decode cX8_findStops 6 = .ok (.putfield 156, 3) := by decide +kernel
theorem dX8_findStops_9 : decode cX8_findStops 9 = .ok (.iconst 0, 1) := by decide +kernel
theorem dX8_findStops_10 : decode cX8_findStops 10 = .ok (.istore_n 2, 1) := by decide +kernel
theorem dX8_findStops_11 : decode cX8_findStops 11 = .ok (.iload_n 2, 1) := by decide +kernel
theorem dX8_findStops_12 : decode cX8_findStops 12 = .ok (.aload_n 0, 1) := by decide +kernel
theorem dX8_findStops_13 : decode cX8_findStops 13 = .ok (.getfield 57, 3) := by decide +kernel
theorem dX8_findStops_16 : decode cX8_findStops 16 = .ok (.if_icmp .ge 156, 3) := by decide +kernel
theorem dX8_findStops_19 : decode cX8_findStops 19 = .ok (.aload_n 0, 1) := by decide +kernel
theorem dX8_findStops_20 : decode cX8_findStops 20 = .ok (.getfield 16, 3) := by decide +kernel
theorem dX8_findStops_23 : decode cX8_findStops 23 = .ok (.iload_n 2, 1) := by decide +kernel
theorem dX8_findStops_24 : decode cX8_findStops 24 = .ok (.iaload, 1) := by decide +kernel
theorem dX8_findStops_25 : decode cX8_findStops 25 = .ok (.istore_n 3, 1) := by decide +kernel
theorem dX8_findStops_26 : decode cX8_findStops 26 = .ok (.aload_n 0, 1) := by decide +kernel
theorem dX8_findStops_27 : decode cX8_findStops 27 = .ok (.iload_n 3, 1) := by decide +kernel
theorem dX8_findStops_28 : decode cX8_findStops 28 = .ok (.invokevirtual 159, 3) := by decide +kernel
theorem dX8_findStops_31 : decode cX8_findStops 31 = .ok (.ifCond .eq 135, 3) := by decide +kernel
theorem dX8_findStops_34 : decode cX8_findStops 34 = .ok (.iload_n 1, 1) := by decide +kernel
theorem dX8_findStops_35 : decode cX8_findStops 35 = .ok (.iconst (-1), 1) := by decide +kernel
theorem dX8_findStops_36 : decode cX8_findStops 36 = .ok (.if_icmp .eq 12, 3) := by decide +kernel
theorem dX8_findStops_39 : decode cX8_findStops 39 = .ok (.aload_n 0, 1) := by decide +kernel
theorem dX8_findStops_40 : decode cX8_findStops 40 = .ok (.iload_n 3, 1) := by decide +kernel
theorem dX8_findStops_41 : decode cX8_findStops 41 = .ok (.iload_n 1, 1) := by decide +kernel
theorem dX8_findStops_42 : decode cX8_findStops 42 = .ok (.invokevirtual 135, 3) := by decide +kernel
theorem dX8_findStops_45 : decode cX8_findStops 45 = .ok (.ifCond .eq 121, 3) := by decide +kernel
theorem dX8_findStops_48 : decode cX8_findStops 48 = .ok (.aload_n 0, 1) := by decide +kernel
theorem dX8_findStops_49 : decode cX8_findStops 49 = .ok (.getfield 156, 3) := by decide +kernel
theorem dX8_findStops_52 : decode cX8_findStops 52 = .ok (.istore 4, 2) := by decide +kernel
theorem dX8_findStops_54 : decode cX8_findStops 54 = .ok (.aload_n 0, 1) := by decide +kernel
theorem dX8_findStops_55 : decode cX8_findStops 55 = .ok (.iload_n 3, 1) := by decide +kernel
theorem dX8_findStops_56 : decode cX8_findStops 56 = .ok (.bipush 6, 2) := by decide +kernel
theorem dX8_findStops_58 : decode cX8_findStops 58 = .ok (.invokevirtual 74, 3) := by decide +kernel
theorem dX8_findStops_61 : decode cX8_findStops 61 = .ok (.ifCond .ne 8, 3) := by decide +kernel
theorem dX8_findStops_64 : decode cX8_findStops 64 = .ok (.bipush 101, 2) := by decide +kernel
theorem dX8_findStops_66 : decode cX8_findStops 66 = .ok (.goto 10, 3) := by decide +kernel
theorem dX8_findStops_69 : decode cX8_findStops 69 = .ok (.aload_n 0, 1) := by decide +kernel
theorem dX8_findStops_70 : decode cX8_findStops 70 = .ok (.iload_n 3, 1) := by decide +kernel
theorem dX8_findStops_71 : decode cX8_findStops 71 = .ok (.bipush 6, 2) := by decide +kernel
theorem dX8_findStops_73 : decode cX8_findStops 73 = .ok (.invokevirtual 74, 3) := by decide +kernel
theorem dX8_findStops_76 : decode cX8_findStops 76 = .ok (.istore 5, 2) := by decide +kernel
theorem dX8_findStops_78 : decode cX8_findStops 78 = .ok (.iload 4, 2) := by decide +kernel
theorem dX8_findStops_80 : decode cX8_findStops 80 = .ok (.ifCond .le 68, 3) := by decide +kernel
theorem dX8_findStops_83 : decode cX8_findStops 83 = .ok (.aload_n 0, 1) := by decide +kernel
theorem dX8_findStops_84 : decode cX8_findStops 84 = .ok (.aload_n 0, 1) := by decide +kernel
theorem dX8_findStops_85 : decode cX8_findStops 85 = .ok (.getfield 31, 3) := by decide +kernel
theorem dX8_findStops_88 : decode cX8_findStops 88 = .ok (.iload 4, 2) := by decide +kernel
theorem dX8_findStops_90 : decode cX8_findStops 90 = .ok (.iconst 1, 1) := by decide +kernel
theorem dX8_findStops_91 : decode cX8_findStops 91 = .ok (.isub, 1) := by decide +kernel
theorem dX8_findStops_92 : decode cX8_findStops 92 = .ok (.iaload, 1) := by decide +kernel
theorem dX8_findStops_93 : decode cX8_findStops 93 = .ok (.bipush 6, 2) := by decide +kernel
theorem dX8_findStops_95 : decode cX8_findStops 95 = .ok (.invokevirtual 74, 3) := by decide +kernel
theorem dX8_findStops_98 : decode cX8_findStops 98 = .ok (.ifCond .ne 8, 3) := by decide +kernel
theorem dX8_findStops_101 : decode cX8_findStops 101 = .ok (.bipush 101, 2) := by decide +kernel
theorem dX8_findStops_103 : decode cX8_findStops 103 = .ok (.goto 18, 3) := by decide +kernel
theorem dX8_findStops_106 : decode cX8_findStops 106 = .ok (.aload_n 0, 1) := by decide +kernel
theorem dX8_findStops_107 : decode cX8_findStops 107 = .ok (.aload_n 0, 1) := by decide +kernel
theorem dX8_findStops_108 : decode cX8_findStops 108 = .ok (.getfield 31, 3) := by decide +kernel
theorem dX8_findStops_111 : decode cX8_findStops 111 = .ok (.iload 4, 2) := by decide +kernel
theorem dX8_findStops_113 : decode cX8_findStops 113 = .ok (.iconst 1, 1) := by decide +kernel
theorem dX8_findStops_114 : decode cX8_findStops 114 = .ok (.isub, 1) := by decide +kernel
theorem dX8_findStops_115 : decode cX8_findStops 115 = .ok (.iaload, 1) := by decide +kernel
theorem dX8_findStops_116 : decode cX8_findStops 116 = .ok (.bipush 6, 2) := by decide +kernel
theorem dX8_findStops_118 : decode cX8_findStops 118 = .ok (.invokevirtual 74, 3) := by decide +kernel
theorem dX8_findStops_121 : decode cX8_findStops 121 = .ok (.iload 5, 2) := by decide +kernel
theorem dX8_findStops_123 : decode cX8_findStops 123 = .ok (.if_icmp .le 25, 3) := by decide +kernel
theorem dX8_findStops_126 : decode cX8_findStops 126 = .ok (.aload_n 0, 1) := by decide +kernel
theorem dX8_findStops_127 : decode cX8_findStops 127 = .ok (.getfield 31, 3) := by decide +kernel
theorem dX8_findStops_130 : decode cX8_findStops 130 = .ok (.iload 4, 2) := by decide +kernel
theorem dX8_findStops_132 : decode cX8_findStops 132 = .ok (.aload_n 0, 1) := by decide +kernel
theorem dX8_findStops_133 : decode cX8_findStops 133 = .ok (.getfield 31, 3) := by decide +kernel
theorem dX8_findStops_136 : decode cX8_findStops 136 = .ok (.iload 4, 2) := by decide +kernel
theorem dX8_findStops_138 : decode cX8_findStops 138 = .ok (.iconst 1, 1) := by decide +kernel
theorem dX8_findStops_139 : decode cX8_findStops 139 = .ok (.isub, 1) := by decide +kernel
theorem dX8_findStops_140 : decode cX8_findStops 140 = .ok (.iaload, 1) := by decide +kernel
theorem dX8_findStops_141 : decode cX8_findStops 141 = .ok (.iastore, 1) := by decide +kernel
theorem dX8_findStops_142 : decode cX8_findStops 142 = .ok (.iinc 4 (-1), 3) := by decide +kernel
theorem dX8_findStops_145 : decode cX8_findStops 145 = .ok (.goto (-67), 3) := by decide +kernel
theorem dX8_findStops_148 : decode cX8_findStops 148 = .ok (.aload_n 0, 1) := by decide +kernel
theorem dX8_findStops_149 : decode cX8_findStops 149 = .ok (.getfield 31, 3) := by decide +kernel
theorem dX8_findStops_152 : decode cX8_findStops 152 = .ok (.iload 4, 2) := by decide +kernel
theorem dX8_findStops_154 : decode cX8_findStops 154 = .ok (.iload_n 3, 1) := by decide +kernel
theorem dX8_findStops_155 : decode cX8_findStops 155 = .ok (.iastore, 1) := by decide +kernel
theorem dX8_findStops_156 : decode cX8_findStops 156 = .ok (.aload_n 0, 1) := by decide +kernel
theorem dX8_findStops_157 : decode cX8_findStops 157 = .ok (.dup, 1) := by decide +kernel
theorem dX8_findStops_158 : decode cX8_findStops 158 = .ok (.getfield 156, 3) := by decide +kernel
theorem dX8_findStops_161 : decode cX8_findStops 161 = .ok (.iconst 1, 1) := by decide +kernel
theorem dX8_findStops_162 : decode cX8_findStops 162 = .ok (.iadd, 1) := by decide +kernel
theorem dX8_findStops_163 : decode cX8_findStops 163 = .ok (.putfield 156, 3) := by decide +kernel
theorem dX8_findStops_166 : decode cX8_findStops 166 = .ok (.iinc 2 1, 3) := by decide +kernel
theorem dX8_findStops_169 : decode cX8_findStops 169 = .ok (.goto (-158), 3) := by decide +kernel
theorem dX8_findStops_172 : decode cX8_findStops 172 = .ok (.return_, 1) := by decide +kernel
theorem dX8_stop_0 : decode cX8_stop 0 = .ok (.aload_n 0, 1) := by decide +kernel
theorem dX8_stop_1 : decode cX8_stop 1 = .ok (.iconst (-1), 1) := by decide +kernel
theorem dX8_stop_2 : decode cX8_stop 2 = .ok (.invokevirtual 162, 3) := by decide +kernel
theorem dX8_stop_5 : decode cX8_stop 5 = .ok (.iload_n 1, 1) := by decide +kernel
theorem dX8_stop_6 : decode cX8_stop 6 = .ok (.i2l, 1) := by decide +kernel
theorem dX8_stop_7 : decode cX8_stop 7 = .ok (.lconst 0, 1) := by decide +kernel
theorem dX8_stop_8 : decode cX8_stop 8 = .ok (.aload_n 0, 1) := by decide +kernel
theorem dX8_stop_9 : decode cX8_stop 9 = .ok (.getfield 156, 3) := by decide +kernel
theorem dX8_stop_12 : decode cX8_stop 12 = .ok (.iconst 1, 1) := by decide +kernel
theorem dX8_stop_13 : decode cX8_stop 13 = .ok (.isub, 1) := by decide +kernel
theorem dX8_stop_14 : decode cX8_stop 14 = .ok (.i2l, 1) := by decide +kernel
theorem dX8_stop_15 : decode cX8_stop 15 = .ok (.invokestatic 64, 3) := by decide +kernel
theorem dX8_stop_18 : decode cX8_stop 18 = .ok (.ifCond .eq 12, 3) := by decide +kernel
theorem dX8_stop_21 : decode cX8_stop 21 = .ok (.aload_n 0, 1) := by decide +kernel
theorem dX8_stop_22 : decode cX8_stop 22 = .ok (.getfield 31, 3) := by decide +kernel
theorem dX8_stop_25 : decode cX8_stop 25 = .ok (.iload_n 1, 1) := by decide +kernel
theorem dX8_stop_26 : decode cX8_stop 26 = .ok (.iaload, 1) := by decide +kernel
theorem dX8_stop_27 : decode cX8_stop 27 = .ok (.goto 4, 3) := by decide +kernel
theorem dX8_stop_30 : decode cX8_stop 30 = .ok (.iconst (-1), 1) := by decide +kernel
theorem dX8_stop_31 : decode cX8_stop 31 = .ok (.ireturn, 1) := by decide +kernel
theorem dX8_trapOf_0 : decode cX8_trapOf 0 = .ok (.iload_n 1, 1) := by decide +kernel
theorem dX8_trapOf_1 : decode cX8_trapOf 1 = .ok (.iconst (-1), 1) := by decide +kernel
theorem dX8_trapOf_2 : decode cX8_trapOf 2 = .ok (.if_icmp .ne 7, 3) := by decide +kernel
theorem dX8_trapOf_5 : decode cX8_trapOf 5 = .ok (.iconst (-1), 1) := by decide +kernel
theorem dX8_trapOf_6 : decode cX8_trapOf 6 = .ok (.goto 9, 3) := by decide +kernel
theorem dX8_trapOf_9 : decode cX8_trapOf 9 = .ok (.aload_n 0, 1) := by decide +kernel
theorem dX8_trapOf_10 : decode cX8_trapOf 10 = .ok (.iload_n 1, 1) := by decide +kernel
theorem dX8_trapOf_11 : decode cX8_trapOf 11 = .ok (.iconst 5, 1) := by decide +kernel
theorem dX8_trapOf_12 : decode cX8_trapOf 12 = .ok (.invokevirtual 86, 3) := by decide +kernel
theorem dX8_trapOf_15 : decode cX8_trapOf 15 = .ok (.ireturn, 1) := by decide +kernel
theorem dX8_pressed_0 : decode cX8_pressed 0 = .ok (.iload_n 1, 1) := by decide +kernel
theorem dX8_pressed_1 : decode cX8_pressed 1 = .ok (.iconst 2, 1) := by decide +kernel
theorem dX8_pressed_2 : decode cX8_pressed 2 = .ok (.if_icmp .ne 78, 3) := by decide +kernel
theorem dX8_pressed_5 : decode cX8_pressed 5 = .ok (.aload_n 0, 1) := by decide +kernel
theorem dX8_pressed_6 : decode cX8_pressed 6 = .ok (.getfield 49, 3) := by decide +kernel
theorem dX8_pressed_9 : decode cX8_pressed 9 = .ok (.iconst (-1), 1) := by decide +kernel
theorem dX8_pressed_10 : decode cX8_pressed 10 = .ok (.if_icmp .eq 69, 3) := by decide +kernel
theorem dX8_pressed_13 : decode cX8_pressed 13 = .ok (.aload_n 0, 1) := by decide +kernel
theorem dX8_pressed_14 : decode cX8_pressed 14 = .ok (.aload_n 0, 1) := by decide +kernel
theorem dX8_pressed_15 : decode cX8_pressed 15 = .ok (.getfield 49, 3) := by decide +kernel
theorem dX8_pressed_18 : decode cX8_pressed 18 = .ok (.bipush 10, 2) := by decide +kernel
theorem dX8_pressed_20 : decode cX8_pressed 20 = .ok (.invokevirtual 74, 3) := by decide +kernel
theorem dX8_pressed_23 : decode cX8_pressed 23 = .ok (.iconst 2, 1) := by decide +kernel
theorem dX8_pressed_24 : decode cX8_pressed 24 = .ok (.if_icmp .ne 55, 3) := by decide +kernel
theorem dX8_pressed_27 : decode cX8_pressed 27 = .ok (.aload_n 0, 1) := by decide +kernel
theorem dX8_pressed_28 : decode cX8_pressed 28 = .ok (.aload_n 0, 1) := by decide +kernel
theorem dX8_pressed_29 : decode cX8_pressed 29 = .ok (.getfield 49, 3) := by decide +kernel
theorem dX8_pressed_32 : decode cX8_pressed 32 = .ok (.bipush 7, 2) := by decide +kernel
theorem dX8_pressed_34 : decode cX8_pressed 34 = .ok (.invokevirtual 74, 3) := by decide +kernel
theorem dX8_pressed_37 : decode cX8_pressed 37 = .ok (.iconst (-1), 1) := by decide +kernel
theorem dX8_pressed_38 : decode cX8_pressed 38 = .ok (.if_icmp .eq 41, 3) := by decide +kernel
theorem dX8_pressed_41 : decode cX8_pressed 41 = .ok (.aload_n 0, 1) := by decide +kernel
theorem dX8_pressed_42 : decode cX8_pressed 42 = .ok (.aload_n 0, 1) := by decide +kernel
theorem dX8_pressed_43 : decode cX8_pressed 43 = .ok (.getfield 49, 3) := by decide +kernel
theorem dX8_pressed_46 : decode cX8_pressed 46 = .ok (.bipush 7, 2) := by decide +kernel
theorem dX8_pressed_48 : decode cX8_pressed 48 = .ok (.invokevirtual 74, 3) := by decide +kernel
theorem dX8_pressed_51 : decode cX8_pressed 51 = .ok (.istore_n 3, 1) := by decide +kernel
theorem dX8_pressed_52 : decode cX8_pressed 52 = .ok (.aload_n 0, 1) := by decide +kernel
theorem dX8_pressed_53 : decode cX8_pressed 53 = .ok (.iload_n 3, 1) := by decide +kernel
theorem dX8_pressed_54 : decode cX8_pressed 54 = .ok (.iconst 5, 1) := by decide +kernel
theorem dX8_pressed_55 : decode cX8_pressed 55 = .ok (.iconst 1, 1) := by decide +kernel
theorem dX8_pressed_56 : decode cX8_pressed 56 = .ok (.aload_n 0, 1) := by decide +kernel
theorem dX8_pressed_57 : decode cX8_pressed 57 = .ok (.iload_n 3, 1) := by decide +kernel
theorem dX8_pressed_58 : decode cX8_pressed 58 = .ok (.iconst 5, 1) := by decide +kernel
theorem dX8_pressed_59 : decode cX8_pressed 59 = .ok (.invokevirtual 74, 3) := by decide +kernel
theorem dX8_pressed_62 : decode cX8_pressed 62 = .ok (.isub, 1) := by decide +kernel
theorem dX8_pressed_63 : decode cX8_pressed 63 = .ok (.invokevirtual 60, 3) := by decide +kernel
theorem dX8_pressed_66 : decode cX8_pressed 66 = .ok (.iload_n 2, 1) := by decide +kernel
theorem dX8_pressed_67 : decode cX8_pressed 67 = .ok (.ifCond .eq 8, 3) := by decide +kernel
theorem dX8_pressed_70 : decode cX8_pressed 70 = .ok (.aload_n 0, 1) := by decide +kernel
theorem dX8_pressed_71 : decode cX8_pressed 71 = .ok (.iload_n 3, 1) := by decide +kernel
theorem dX8_pressed_72 : decode cX8_pressed 72 = .ok (.invokevirtual 100, 3) := by decide +kernel
theorem dX8_pressed_75 : decode cX8_pressed 75 = .ok (.aload_n 0, 1) := by decide +kernel
theorem dX8_pressed_76 : decode cX8_pressed 76 = .ok (.invokevirtual 104, 3) := by decide +kernel
theorem dX8_pressed_79 : decode cX8_pressed 79 = .ok (.return_, 1) := by decide +kernel
theorem dX8_pressed_80 : decode cX8_pressed 80 = .ok (.aload_n 0, 1) := by decide +kernel
theorem dX8_pressed_81 : decode cX8_pressed 81 = .ok (.aload_n 0, 1) := by decide +kernel
theorem dX8_pressed_82 : decode cX8_pressed 82 = .ok (.aload_n 0, 1) := by decide +kernel
theorem dX8_pressed_83 : decode cX8_pressed 83 = .ok (.getfield 49, 3) := by decide +kernel
theorem dX8_pressed_86 : decode cX8_pressed 86 = .ok (.invokevirtual 165, 3) := by decide +kernel
theorem dX8_pressed_89 : decode cX8_pressed 89 = .ok (.invokevirtual 162, 3) := by decide +kernel
theorem dX8_pressed_92 : decode cX8_pressed 92 = .ok (.aload_n 0, 1) := by decide +kernel
theorem dX8_pressed_93 : decode cX8_pressed 93 = .ok (.getfield 156, 3) := by decide +kernel
theorem dX8_pressed_96 : decode cX8_pressed 96 = .ok (.ifCond .ne 4, 3) := by decide +kernel
theorem dX8_pressed_99 : decode cX8_pressed 99 = .ok (.return_, 1) := by decide +kernel
theorem dX8_pressed_100 : decode cX8_pressed 100 = .ok (.iconst 0, 1) := by decide +kernel
theorem dX8_pressed_101 : decode cX8_pressed 101 = .ok (.istore_n 3, 1) := by decide +kernel
theorem dX8_pressed_102 : decode cX8_pressed 102 = .ok (.iload_n 3, 1) := by decide +kernel
theorem dX8_pressed_103 : decode cX8_pressed 103 = .ok (.aload_n 0, 1) := by decide +kernel
theorem dX8_pressed_104 : decode cX8_pressed 104 = .ok (.getfield 156, 3) := by decide +kernel
theorem dX8_pressed_107 : decode cX8_pressed 107 = .ok (.if_icmp .ge 22, 3) := by decide +kernel
theorem dX8_pressed_110 : decode cX8_pressed 110 = .ok (.aload_n 0, 1) := by decide +kernel
theorem dX8_pressed_111 : decode cX8_pressed 111 = .ok (.getfield 31, 3) := by decide +kernel
theorem dX8_pressed_114 : decode cX8_pressed 114 = .ok (.iload_n 3, 1) := by decide +kernel
theorem dX8_pressed_115 : decode cX8_pressed 115 = .ok (.iaload, 1) := by decide +kernel
theorem dX8_pressed_116 : decode cX8_pressed 116 = .ok (.aload_n 0, 1) := by decide +kernel
theorem dX8_pressed_117 : decode cX8_pressed 117 = .ok (.getfield 49, 3) := by decide +kernel
theorem dX8_pressed_120 : decode cX8_pressed 120 = .ok (.if_icmp .eq 9, 3) := by decide +kernel
theorem dX8_pressed_123 : decode cX8_pressed 123 = .ok (.iinc 3 1, 3) := by decide +kernel
theorem dX8_pressed_126 : decode cX8_pressed 126 = .ok (.goto (-24), 3) := by decide +kernel
theorem dX8_pressed_129 : decode cX8_pressed 129 = .ok (.iload_n 3, 1) := by decide +kernel
theorem dX8_pressed_130 : decode cX8_pressed 130 = .ok (.aload_n 0, 1) := by decide +kernel
theorem dX8_pressed_131 : decode cX8_pressed 131 = .ok (.getfield 156, 3) := by decide +kernel
theorem dX8_pressed_134 : decode cX8_pressed 134 = .ok (.if_icmp .ne 34, 3) := by decide +kernel
theorem dX8_pressed_137 : decode cX8_pressed 137 = .ok (.aload_n 0, 1) := by decide +kernel
theorem dX8_pressed_138 : decode cX8_pressed 138 = .ok (.iload_n 1, 1) := by decide +kernel
theorem dX8_pressed_139 : decode cX8_pressed 139 = .ok (.ifCond .ne 12, 3) := by decide +kernel
theorem dX8_pressed_142 : decode cX8_pressed 142 = .ok (.aload_n 0, 1) := by decide +kernel
theorem dX8_pressed_143 : decode cX8_pressed 143 = .ok (.getfield 31, 3) := by decide +kernel
theorem dX8_pressed_146 : decode cX8_pressed 146 = .ok (.iconst 0, 1) := by decide +kernel
theorem dX8_pressed_147 : decode cX8_pressed 147 = .ok (.iaload, 1) := by decide +kernel
theorem dX8_pressed_148 : decode cX8_pressed 148 = .ok (.goto 14, 3) := by decide +kernel
theorem dX8_pressed_151 : decode cX8_pressed 151 = .ok (.aload_n 0, 1) := by decide +kernel
theorem dX8_pressed_152 : decode cX8_pressed 152 = .ok (.getfield 31, 3) := by decide +kernel
theorem dX8_pressed_155 : decode cX8_pressed 155 = .ok (.aload_n 0, 1) := by decide +kernel
theorem dX8_pressed_156 : decode cX8_pressed 156 = .ok (.getfield 156, 3) := by decide +kernel
theorem dX8_pressed_159 : decode cX8_pressed 159 = .ok (.iconst 1, 1) := by decide +kernel
theorem dX8_pressed_160 : decode cX8_pressed 160 = .ok (.isub, 1) := by decide +kernel
theorem dX8_pressed_161 : decode cX8_pressed 161 = .ok (.iaload, 1) := by decide +kernel
theorem dX8_pressed_162 : decode cX8_pressed 162 = .ok (.putfield 49, 3) := by decide +kernel
theorem dX8_pressed_165 : decode cX8_pressed 165 = .ok (.goto 45, 3) := by decide +kernel
theorem dX8_pressed_168 : decode cX8_pressed 168 = .ok (.aload_n 0, 1) := by decide +kernel
theorem dX8_pressed_169 : decode cX8_pressed 169 = .ok (.iload_n 1, 1) := by decide +kernel
theorem dX8_pressed_170 : decode cX8_pressed 170 = .ok (.ifCond .ne 19, 3) := by decide +kernel
theorem dX8_pressed_173 : decode cX8_pressed 173 = .ok (.aload_n 0, 1) := by decide +kernel
theorem dX8_pressed_174 : decode cX8_pressed 174 = .ok (.getfield 31, 3) := by decide +kernel
theorem dX8_pressed_177 : decode cX8_pressed 177 = .ok (.iload_n 3, 1) := by decide +kernel
theorem dX8_pressed_178 : decode cX8_pressed 178 = .ok (.iconst 1, 1) := by decide +kernel
theorem dX8_pressed_179 : decode cX8_pressed 179 = .ok (.iadd, 1) := by decide +kernel
theorem dX8_pressed_180 : decode cX8_pressed 180 = .ok (.aload_n 0, 1) := by decide +kernel
theorem dX8_pressed_181 : decode cX8_pressed 181 = .ok (.getfield 156, 3) := by decide +kernel
theorem dX8_pressed_184 : decode cX8_pressed 184 = .ok (.irem, 1) := by decide +kernel
theorem dX8_pressed_185 : decode cX8_pressed 185 = .ok (.iaload, 1) := by decide +kernel
theorem dX8_pressed_186 : decode cX8_pressed 186 = .ok (.goto 21, 3) := by decide +kernel
theorem dX8_pressed_189 : decode cX8_pressed 189 = .ok (.aload_n 0, 1) := by decide +kernel
theorem dX8_pressed_190 : decode cX8_pressed 190 = .ok (.getfield 31, 3) := by decide +kernel
theorem dX8_pressed_193 : decode cX8_pressed 193 = .ok (.iload_n 3, 1) := by decide +kernel
theorem dX8_pressed_194 : decode cX8_pressed 194 = .ok (.aload_n 0, 1) := by decide +kernel
theorem dX8_pressed_195 : decode cX8_pressed 195 = .ok (.getfield 156, 3) := by decide +kernel
theorem dX8_pressed_198 : decode cX8_pressed 198 = .ok (.iadd, 1) := by decide +kernel
theorem dX8_pressed_199 : decode cX8_pressed 199 = .ok (.iconst 1, 1) := by decide +kernel
theorem dX8_pressed_200 : decode cX8_pressed 200 = .ok (.isub, 1) := by decide +kernel
theorem dX8_pressed_201 : decode cX8_pressed 201 = .ok (.aload_n 0, 1) := by decide +kernel
theorem dX8_pressed_202 : decode cX8_pressed 202 = .ok (.getfield 156, 3) := by decide +kernel
theorem dX8_pressed_205 : decode cX8_pressed 205 = .ok (.irem, 1) := by decide +kernel
theorem dX8_pressed_206 : decode cX8_pressed 206 = .ok (.iaload, 1) := by decide +kernel
theorem dX8_pressed_207 : decode cX8_pressed 207 = .ok (.putfield 49, 3) := by decide +kernel
theorem dX8_pressed_210 : decode cX8_pressed 210 = .ok (.return_, 1) := by decide +kernel
theorem dX8_press_0 : decode cX8_press 0 = .ok (.iload_n 1, 1) := by decide +kernel
theorem dX8_press_1 : decode cX8_press 1 = .ok (.i2l, 1) := by decide +kernel
theorem dX8_press_2 : decode cX8_press 2 = .ok (.lconst 0, 1) := by decide +kernel
theorem dX8_press_3 : decode cX8_press 3 = .ok (.ldc2_w 169, 3) := by decide +kernel
theorem dX8_press_6 : decode cX8_press 6 = .ok (.invokestatic 64, 3) := by decide +kernel
theorem dX8_press_9 : decode cX8_press 9 = .ok (.ifCond .ne 6, 3) := by decide +kernel
theorem dX8_press_12 : decode cX8_press 12 = .ok (.bipush (-102), 2) := by decide +kernel
theorem dX8_press_14 : decode cX8_press 14 = .ok (.ireturn, 1) := by decide +kernel
theorem dX8_press_15 : decode cX8_press 15 = .ok (.aload_n 0, 1) := by decide +kernel
theorem dX8_press_16 : decode cX8_press 16 = .ok (.iload_n 1, 1) := by decide +kernel
theorem dX8_press_17 : decode cX8_press 17 = .ok (.iconst 1, 1) := by decide +kernel
theorem dX8_press_18 : decode cX8_press 18 = .ok (.invokevirtual 171, 3) := by decide +kernel
theorem dX8_press_21 : decode cX8_press 21 = .ok (.aload_n 0, 1) := by decide +kernel
theorem dX8_press_22 : decode cX8_press 22 = .ok (.getfield 49, 3) := by decide +kernel
theorem dX8_press_25 : decode cX8_press 25 = .ok (.ireturn, 1) := by decide +kernel
theorem dX8_focus_0 : decode cX8_focus 0 = .ok (.aload_n 0, 1) := by decide +kernel
theorem dX8_focus_1 : decode cX8_focus 1 = .ok (.getfield 49, 3) := by decide +kernel
theorem dX8_focus_4 : decode cX8_focus 4 = .ok (.ireturn, 1) := by decide +kernel
theorem dX8_caught_0 : decode cX8_caught 0 = .ok (.aload_n 0, 1) := by decide +kernel
theorem dX8_caught_1 : decode cX8_caught 1 = .ok (.aload_n 0, 1) := by decide +kernel
theorem dX8_caught_2 : decode cX8_caught 2 = .ok (.getfield 49, 3) := by decide +kernel
theorem dX8_caught_5 : decode cX8_caught 5 = .ok (.invokevirtual 165, 3) := by decide +kernel
theorem dX8_caught_8 : decode cX8_caught 8 = .ok (.ireturn, 1) := by decide +kernel
theorem dX8_leave_0 : decode cX8_leave 0 = .ok (.aload_n 0, 1) := by decide +kernel
theorem dX8_leave_1 : decode cX8_leave 1 = .ok (.getfield 49, 3) := by decide +kernel
theorem dX8_leave_4 : decode cX8_leave 4 = .ok (.istore_n 1, 1) := by decide +kernel
theorem dX8_leave_5 : decode cX8_leave 5 = .ok (.aload_n 0, 1) := by decide +kernel
theorem dX8_leave_6 : decode cX8_leave 6 = .ok (.iconst (-1), 1) := by decide +kernel
theorem dX8_leave_7 : decode cX8_leave 7 = .ok (.putfield 49, 3) := by decide +kernel
theorem dX8_leave_10 : decode cX8_leave 10 = .ok (.iload_n 1, 1) := by decide +kernel
theorem dX8_leave_11 : decode cX8_leave 11 = .ok (.ireturn, 1) := by decide +kernel
theorem dX8_findDoors_0 : decode cX8_findDoors 0 = .ok (.aload_n 0, 1) := by decide +kernel
theorem dX8_findDoors_1 : decode cX8_findDoors 1 = .ok (.iconst 0, 1) := by decide +kernel
theorem dX8_findDoors_2 : decode cX8_findDoors 2 = .ok (.putfield 175, 3) := by decide +kernel
theorem dX8_findDoors_5 : decode cX8_findDoors 5 = .ok (.iconst 1, 1) := by decide +kernel
theorem dX8_findDoors_6 : decode cX8_findDoors 6 = .ok (.istore_n 1, 1) := by decide +kernel
theorem dX8_findDoors_7 : decode cX8_findDoors 7 = .ok (.iload_n 1, 1) := by decide +kernel
theorem dX8_findDoors_8 : decode cX8_findDoors 8 = .ok (.aload_n 0, 1) := by decide +kernel
theorem dX8_findDoors_9 : decode cX8_findDoors 9 = .ok (.getfield 57, 3) := by decide +kernel
theorem dX8_findDoors_12 : decode cX8_findDoors 12 = .ok (.if_icmp .ge 38, 3) := by decide +kernel
theorem dX8_findDoors_15 : decode cX8_findDoors 15 = .ok (.aload_n 0, 1) := by decide +kernel
theorem dX8_findDoors_16 : decode cX8_findDoors 16 = .ok (.iload_n 1, 1) := by decide +kernel
theorem dX8_findDoors_17 : decode cX8_findDoors 17 = .ok (.iconst (-1), 1) := by decide +kernel
theorem dX8_findDoors_18 : decode cX8_findDoors 18 = .ok (.invokevirtual 78, 3) := by decide +kernel
theorem dX8_findDoors_21 : decode cX8_findDoors 21 = .ok (.ifCond .eq 23, 3) := by decide +kernel
theorem dX8_findDoors_24 : decode cX8_findDoors 24 = .ok (.aload_n 0, 1) := by decide +kernel
theorem dX8_findDoors_25 : decode cX8_findDoors 25 = .ok (.getfield 34, 3) := by decide +kernel
theorem dX8_findDoors_28 : decode cX8_findDoors 28 = .ok (.aload_n 0, 1) := by decide +kernel
theorem dX8_findDoors_29 : decode cX8_findDoors 29 = .ok (.getfield 175, 3) := by decide +kernel
theorem dX8_findDoors_32 : decode cX8_findDoors 32 = .ok (.iload_n 1, 1) := by decide +kernel
theorem dX8_findDoors_33 : decode cX8_findDoors 33 = .ok (.iastore, 1) := by decide +kernel
theorem dX8_findDoors_34 : decode cX8_findDoors 34 = .ok (.aload_n 0, 1) := by decide +kernel
theorem dX8_findDoors_35 : decode cX8_findDoors 35 = .ok (.dup, 1) := by decide +kernel
theorem dX8_findDoors_36 : decode cX8_findDoors 36 = .ok (.getfield 175, 3) := by decide +kernel
theorem dX8_findDoors_39 : decode cX8_findDoors 39 = .ok (.iconst 1, 1) := by decide +kernel
theorem dX8_findDoors_40 : decode cX8_findDoors 40 = .ok (.iadd, 1) := by decide +kernel
theorem dX8_findDoors_41 : decode cX8_findDoors 41 = .ok (.putfield 175, 3) := by decide +kernel
theorem dX8_findDoors_44 : decode cX8_findDoors 44 = .ok (.iinc 1 1, 3) := by decide +kernel
theorem dX8_findDoors_47 : decode cX8_findDoors 47 = .ok (.goto (-40), 3) := by decide +kernel
theorem dX8_findDoors_50 : decode cX8_findDoors 50 = .ok (.return_, 1) := by decide +kernel
theorem dX8_state_0 : decode cX8_state 0 = .ok (.iconst 0, 1) := by decide +kernel
theorem dX8_state_1 : decode cX8_state 1 = .ok (.istore_n 1, 1) := by decide +kernel
theorem dX8_state_2 : decode cX8_state 2 = .ok (.iconst 0, 1) := by decide +kernel
theorem dX8_state_3 : decode cX8_state 3 = .ok (.istore_n 2, 1) := by decide +kernel
theorem dX8_state_4 : decode cX8_state 4 = .ok (.iload_n 2, 1) := by decide +kernel
theorem dX8_state_5 : decode cX8_state 5 = .ok (.aload_n 0, 1) := by decide +kernel
theorem dX8_state_6 : decode cX8_state 6 = .ok (.getfield 175, 3) := by decide +kernel
theorem dX8_state_9 : decode cX8_state 9 = .ok (.if_icmp .ge 25, 3) := by decide +kernel
theorem dX8_state_12 : decode cX8_state 12 = .ok (.iload_n 1, 1) := by decide +kernel
theorem dX8_state_13 : decode cX8_state 13 = .ok (.aload_n 0, 1) := by decide +kernel
theorem dX8_state_14 : decode cX8_state 14 = .ok (.aload_n 0, 1) := by decide +kernel
theorem dX8_state_15 : decode cX8_state 15 = .ok (.getfield 34, 3) := by decide +kernel
theorem dX8_state_18 : decode cX8_state 18 = .ok (.iload_n 2, 1) := by decide +kernel
theorem dX8_state_19 : decode cX8_state 19 = .ok (.iaload, 1) := by decide +kernel
theorem dX8_state_20 : decode cX8_state 20 = .ok (.iconst 5, 1) := by decide +kernel
theorem dX8_state_21 : decode cX8_state 21 = .ok (.invokevirtual 74, 3) := by decide +kernel
theorem dX8_state_24 : decode cX8_state 24 = .ok (.iload_n 2, 1) := by decide +kernel
theorem dX8_state_25 : decode cX8_state 25 = .ok (.ishl, 1) := by decide +kernel
theorem dX8_state_26 : decode cX8_state 26 = .ok (.ior, 1) := by decide +kernel
theorem dX8_state_27 : decode cX8_state 27 = .ok (.istore_n 1, 1) := by decide +kernel
theorem dX8_state_28 : decode cX8_state 28 = .ok (.iinc 2 1, 3) := by decide +kernel
theorem dX8_state_31 : decode cX8_state 31 = .ok (.goto (-27), 3) := by decide +kernel
theorem dX8_state_34 : decode cX8_state 34 = .ok (.bipush 25, 2) := by decide +kernel
theorem dX8_state_36 : decode cX8_state 36 = .ok (.iload_n 1, 1) := by decide +kernel
theorem dX8_state_37 : decode cX8_state 37 = .ok (.imul, 1) := by decide +kernel
theorem dX8_state_38 : decode cX8_state 38 = .ok (.aload_n 0, 1) := by decide +kernel
theorem dX8_state_39 : decode cX8_state 39 = .ok (.getfield 49, 3) := by decide +kernel
theorem dX8_state_42 : decode cX8_state 42 = .ok (.iadd, 1) := by decide +kernel
theorem dX8_state_43 : decode cX8_state 43 = .ok (.iconst 1, 1) := by decide +kernel
theorem dX8_state_44 : decode cX8_state 44 = .ok (.iadd, 1) := by decide +kernel
theorem dX8_state_45 : decode cX8_state 45 = .ok (.ireturn, 1) := by decide +kernel
theorem dX8_come_0 : decode cX8_come 0 = .ok (.iconst 0, 1) := by decide +kernel
theorem dX8_come_1 : decode cX8_come 1 = .ok (.istore_n 2, 1) := by decide +kernel
theorem dX8_come_2 : decode cX8_come 2 = .ok (.iload_n 2, 1) := by decide +kernel
theorem dX8_come_3 : decode cX8_come 3 = .ok (.aload_n 0, 1) := by decide +kernel
theorem dX8_come_4 : decode cX8_come 4 = .ok (.getfield 175, 3) := by decide +kernel
theorem dX8_come_7 : decode cX8_come 7 = .ok (.if_icmp .ge 28, 3) := by decide +kernel
theorem dX8_come_10 : decode cX8_come 10 = .ok (.aload_n 0, 1) := by decide +kernel
theorem dX8_come_11 : decode cX8_come 11 = .ok (.aload_n 0, 1) := by decide +kernel
theorem dX8_come_12 : decode cX8_come 12 = .ok (.getfield 34, 3) := by decide +kernel
theorem dX8_come_15 : decode cX8_come 15 = .ok (.iload_n 2, 1) := by decide +kernel
theorem dX8_come_16 : decode cX8_come 16 = .ok (.iaload, 1) := by decide +kernel
theorem dX8_come_17 : decode cX8_come 17 = .ok (.iconst 5, 1) := by decide +kernel
theorem dX8_come_18 : decode cX8_come 18 = .ok (.iload_n 1, 1) := by decide +kernel
theorem dX8_come_19 : decode cX8_come 19 = .ok (.bipush 25, 2) := by decide +kernel
theorem dX8_come_21 : decode cX8_come 21 = .ok (.idiv, 1) := by decide +kernel
theorem dX8_come_22 : decode cX8_come 22 = .ok (.iload_n 2, 1) := by decide +kernel
theorem dX8_come_23 : decode cX8_come 23 = .ok (.ishr, 1) := by decide +kernel
theorem dX8_come_24 : decode cX8_come 24 = .ok (.iconst 1, 1) := by decide +kernel
theorem dX8_come_25 : decode cX8_come 25 = .ok (.iand, 1) := by decide +kernel
theorem dX8_come_26 : decode cX8_come 26 = .ok (.invokevirtual 60, 3) := by decide +kernel
theorem dX8_come_29 : decode cX8_come 29 = .ok (.iinc 2 1, 3) := by decide +kernel
theorem dX8_come_32 : decode cX8_come 32 = .ok (.goto (-30), 3) := by decide +kernel
theorem dX8_come_35 : decode cX8_come 35 = .ok (.aload_n 0, 1) := by decide +kernel
theorem dX8_come_36 : decode cX8_come 36 = .ok (.iload_n 1, 1) := by decide +kernel
theorem dX8_come_37 : decode cX8_come 37 = .ok (.bipush 25, 2) := by decide +kernel
theorem dX8_come_39 : decode cX8_come 39 = .ok (.irem, 1) := by decide +kernel
theorem dX8_come_40 : decode cX8_come 40 = .ok (.iconst 1, 1) := by decide +kernel
theorem dX8_come_41 : decode cX8_come 41 = .ok (.isub, 1) := by decide +kernel
theorem dX8_come_42 : decode cX8_come 42 = .ok (.putfield 49, 3) := by decide +kernel
theorem dX8_come_45 : decode cX8_come 45 = .ok (.return_, 1) := by decide +kernel
theorem dX8_spread_0 : decode cX8_spread 0 = .ok (.aload_n 0, 1) := by decide +kernel
theorem dX8_spread_1 : decode cX8_spread 1 = .ok (.invokevirtual 178, 3) := by decide +kernel
theorem dX8_spread_4 : decode cX8_spread 4 = .ok (.aload_n 0, 1) := by decide +kernel
theorem dX8_spread_5 : decode cX8_spread 5 = .ok (.invokevirtual 181, 3) := by decide +kernel
theorem dX8_spread_8 : decode cX8_spread 8 = .ok (.istore_n 1, 1) := by decide +kernel
theorem dX8_spread_9 : decode cX8_spread 9 = .ok (.iconst 0, 1) := by decide +kernel
theorem dX8_spread_10 : decode cX8_spread 10 = .ok (.istore_n 2, 1) := by decide +kernel
theorem dX8_spread_11 : decode cX8_spread 11 = .ok (.iload_n 2, 1) := by decide +kernel
theorem dX8_spread_12 : decode cX8_spread 12 = .ok (.sipush 1600, 3) := by decide +kernel
theorem dX8_spread_15 : decode cX8_spread 15 = .ok (.if_icmp .ge 16, 3) := by decide +kernel
theorem dX8_spread_18 : decode cX8_spread 18 = .ok (.aload_n 0, 1) := by decide +kernel
theorem dX8_spread_19 : decode cX8_spread 19 = .ok (.getfield 37, 3) := by decide +kernel
theorem dX8_spread_22 : decode cX8_spread 22 = .ok (.iload_n 2, 1) := by decide +kernel
theorem dX8_spread_23 : decode cX8_spread 23 = .ok (.iconst (-1), 1) := by decide +kernel
theorem dX8_spread_24 : decode cX8_spread 24 = .ok (.iastore, 1) := by decide +kernel
theorem dX8_spread_25 : decode cX8_spread 25 = .ok (.iinc 2 1, 3) := by decide +kernel
theorem dX8_spread_28 : decode cX8_spread 28 = .ok (.goto (-17), 3) := by decide +kernel
theorem dX8_spread_31 : decode cX8_spread 31 = .ok (.aload_n 0, 1) := by decide +kernel
theorem dX8_spread_32 : decode cX8_spread 32 = .ok (.getfield 37, 3) := by decide +kernel
theorem dX8_spread_35 : decode cX8_spread 35 = .ok (.iload_n 1, 1) := by decide +kernel
theorem dX8_spread_36 : decode cX8_spread 36 = .ok (.iconst 0, 1) := by decide +kernel
theorem dX8_spread_37 : decode cX8_spread 37 = .ok (.iastore, 1) := by decide +kernel
theorem dX8_spread_38 : decode cX8_spread 38 = .ok (.aload_n 0, 1) := by decide +kernel
theorem dX8_spread_39 : decode cX8_spread 39 = .ok (.getfield 40, 3) := by decide +kernel
theorem dX8_spread_42 : decode cX8_spread 42 = .ok (.iconst 0, 1) := by decide +kernel
theorem dX8_spread_43 : decode cX8_spread 43 = .ok (.iload_n 1, 1) := by decide +kernel
theorem dX8_spread_44 : decode cX8_spread 44 = .ok (.iastore, 1) := by decide +kernel
theorem dX8_spread_45 : decode cX8_spread 45 = .ok (.aload_n 0, 1) := by decide +kernel
theorem dX8_spread_46 : decode cX8_spread 46 = .ok (.iconst 1, 1) := by decide +kernel
theorem dX8_spread_47 : decode cX8_spread 47 = .ok (.putfield 185, 3) := by decide +kernel
theorem dX8_spread_50 : decode cX8_spread 50 = .ok (.iconst 0, 1) := by decide +kernel
theorem dX8_spread_51 : decode cX8_spread 51 = .ok (.istore_n 2, 1) := by decide +kernel
theorem dX8_spread_52 : decode cX8_spread 52 = .ok (.iload_n 2, 1) := by decide +kernel
theorem dX8_spread_53 : decode cX8_spread 53 = .ok (.aload_n 0, 1) := by decide +kernel
theorem dX8_spread_54 : decode cX8_spread 54 = .ok (.getfield 185, 3) := by decide +kernel
theorem dX8_spread_57 : decode cX8_spread 57 = .ok (.if_icmp .ge 96, 3) := by decide +kernel
theorem dX8_spread_60 : decode cX8_spread 60 = .ok (.iconst 0, 1) := by decide +kernel
theorem dX8_spread_61 : decode cX8_spread 61 = .ok (.istore_n 3, 1) := by decide +kernel
theorem dX8_spread_62 : decode cX8_spread 62 = .ok (.iload_n 3, 1) := by decide +kernel
theorem dX8_spread_63 : decode cX8_spread 63 = .ok (.iconst 3, 1) := by decide +kernel
theorem dX8_spread_64 : decode cX8_spread 64 = .ok (.if_icmp .ge 83, 3) := by decide +kernel
theorem dX8_spread_67 : decode cX8_spread 67 = .ok (.aload_n 0, 1) := by decide +kernel
theorem dX8_spread_68 : decode cX8_spread 68 = .ok (.aload_n 0, 1) := by decide +kernel
theorem dX8_spread_69 : decode cX8_spread 69 = .ok (.getfield 40, 3) := by decide +kernel
theorem dX8_spread_72 : decode cX8_spread 72 = .ok (.iload_n 2, 1) := by decide +kernel
theorem dX8_spread_73 : decode cX8_spread 73 = .ok (.iaload, 1) := by decide +kernel
theorem dX8_spread_74 : decode cX8_spread 74 = .ok (.invokevirtual 188, 3) := by decide +kernel
theorem dX8_spread_77 : decode cX8_spread 77 = .ok (.aload_n 0, 1) := by decide +kernel
theorem dX8_spread_78 : decode cX8_spread 78 = .ok (.iload_n 3, 1) := by decide +kernel
theorem dX8_spread_79 : decode cX8_spread 79 = .ok (.iconst 0, 1) := by decide +kernel
theorem dX8_spread_80 : decode cX8_spread 80 = .ok (.invokevirtual 171, 3) := by decide +kernel
theorem dX8_spread_83 : decode cX8_spread 83 = .ok (.aload_n 0, 1) := by decide +kernel
theorem dX8_spread_84 : decode cX8_spread 84 = .ok (.invokevirtual 181, 3) := by decide +kernel
theorem dX8_spread_87 : decode cX8_spread 87 = .ok (.istore 4, 2) := by decide +kernel
theorem dX8_spread_89 : decode cX8_spread 89 = .ok (.aload_n 0, 1) := by decide +kernel
theorem dX8_spread_90 : decode cX8_spread 90 = .ok (.getfield 37, 3) := by decide +kernel
theorem dX8_spread_93 : decode cX8_spread 93 = .ok (.iload 4, 2) := by decide +kernel
theorem dX8_spread_95 : decode cX8_spread 95 = .ok (.iaload, 1) := by decide +kernel
theorem dX8_spread_96 : decode cX8_spread 96 = .ok (.iconst (-1), 1) := by decide +kernel
theorem dX8_spread_97 : decode cX8_spread 97 = .ok (.if_icmp .ne 44, 3) := by decide +kernel
theorem dX8_spread_100 : decode cX8_spread 100 = .ok (.aload_n 0, 1) := by decide +kernel
theorem dX8_spread_101 : decode cX8_spread 101 = .ok (.getfield 37, 3) := by decide +kernel
theorem dX8_spread_104 : decode cX8_spread 104 = .ok (.iload 4, 2) := by decide +kernel
theorem dX8_spread_106 : decode cX8_spread 106 = .ok (.aload_n 0, 1) := by decide +kernel
theorem dX8_spread_107 : decode cX8_spread 107 = .ok (.getfield 37, 3) := by decide +kernel
theorem dX8_spread_110 : decode cX8_spread 110 = .ok (.aload_n 0, 1) := by decide +kernel
theorem dX8_spread_111 : decode cX8_spread 111 = .ok (.getfield 40, 3) := by decide +kernel
theorem dX8_spread_114 : decode cX8_spread 114 = .ok (.iload_n 2, 1) := by decide +kernel
theorem dX8_spread_115 : decode cX8_spread 115 = .ok (.iaload, 1) := by decide +kernel
theorem dX8_spread_116 : decode cX8_spread 116 = .ok (.iaload, 1) := by decide +kernel
theorem dX8_spread_117 : decode cX8_spread 117 = .ok (.iconst 1, 1) := by decide +kernel
theorem dX8_spread_118 : decode cX8_spread 118 = .ok (.iadd, 1) := by decide +kernel
theorem dX8_spread_119 : decode cX8_spread 119 = .ok (.iastore, 1) := by decide +kernel
theorem dX8_spread_120 : decode cX8_spread 120 = .ok (.aload_n 0, 1) := by decide +kernel
theorem dX8_spread_121 : decode cX8_spread 121 = .ok (.getfield 40, 3) := by decide +kernel
theorem dX8_spread_124 : decode cX8_spread 124 = .ok (.aload_n 0, 1) := by decide +kernel
theorem dX8_spread_125 : decode cX8_spread 125 = .ok (.getfield 185, 3) := by decide +kernel
theorem dX8_spread_128 : decode cX8_spread 128 = .ok (.iload 4, 2) := by decide +kernel
theorem dX8_spread_130 : decode cX8_spread 130 = .ok (.iastore, 1) := by decide +kernel
theorem dX8_spread_131 : decode cX8_spread 131 = .ok (.aload_n 0, 1) := by decide +kernel
theorem dX8_spread_132 : decode cX8_spread 132 = .ok (.dup, 1) := by decide +kernel
theorem dX8_spread_133 : decode cX8_spread 133 = .ok (.getfield 185, 3) := by decide +kernel
theorem dX8_spread_136 : decode cX8_spread 136 = .ok (.iconst 1, 1) := by decide +kernel
theorem dX8_spread_137 : decode cX8_spread 137 = .ok (.iadd, 1) := by decide +kernel
theorem dX8_spread_138 : decode cX8_spread 138 = .ok (.putfield 185, 3) := by decide +kernel
theorem dX8_spread_141 : decode cX8_spread 141 = .ok (.iinc 3 1, 3) := by decide +kernel
theorem dX8_spread_144 : decode cX8_spread 144 = .ok (.goto (-82), 3) := by decide +kernel
theorem dX8_spread_147 : decode cX8_spread 147 = .ok (.iinc 2 1, 3) := by decide +kernel
theorem dX8_spread_150 : decode cX8_spread 150 = .ok (.goto (-98), 3) := by decide +kernel
theorem dX8_spread_153 : decode cX8_spread 153 = .ok (.aload_n 0, 1) := by decide +kernel
theorem dX8_spread_154 : decode cX8_spread 154 = .ok (.iload_n 1, 1) := by decide +kernel
theorem dX8_spread_155 : decode cX8_spread 155 = .ok (.invokevirtual 188, 3) := by decide +kernel
theorem dX8_spread_158 : decode cX8_spread 158 = .ok (.return_, 1) := by decide +kernel
theorem dX8_leastTo_0 : decode cX8_leastTo 0 = .ok (.iconst (-1), 1) := by decide +kernel
theorem dX8_leastTo_1 : decode cX8_leastTo 1 = .ok (.istore_n 2, 1) := by decide +kernel
theorem dX8_leastTo_2 : decode cX8_leastTo 2 = .ok (.iconst 0, 1) := by decide +kernel
theorem dX8_leastTo_3 : decode cX8_leastTo 3 = .ok (.istore_n 3, 1) := by decide +kernel
theorem dX8_leastTo_4 : decode cX8_leastTo 4 = .ok (.iload_n 3, 1) := by decide +kernel
theorem dX8_leastTo_5 : decode cX8_leastTo 5 = .ok (.aload_n 0, 1) := by decide +kernel
theorem dX8_leastTo_6 : decode cX8_leastTo 6 = .ok (.getfield 185, 3) := by decide +kernel
theorem dX8_leastTo_9 : decode cX8_leastTo 9 = .ok (.if_icmp .ge 52, 3) := by decide +kernel
theorem dX8_leastTo_12 : decode cX8_leastTo 12 = .ok (.aload_n 0, 1) := by decide +kernel
theorem dX8_leastTo_13 : decode cX8_leastTo 13 = .ok (.getfield 40, 3) := by decide +kernel
theorem dX8_leastTo_16 : decode cX8_leastTo 16 = .ok (.iload_n 3, 1) := by decide +kernel
theorem dX8_leastTo_17 : decode cX8_leastTo 17 = .ok (.iaload, 1) := by decide +kernel
theorem dX8_leastTo_18 : decode cX8_leastTo 18 = .ok (.istore 4, 2) := by decide +kernel
theorem dX8_leastTo_20 : decode cX8_leastTo 20 = .ok (.iload 4, 2) := by decide +kernel
theorem dX8_leastTo_22 : decode cX8_leastTo 22 = .ok (.bipush 25, 2) := by decide +kernel
theorem dX8_leastTo_24 : decode cX8_leastTo 24 = .ok (.irem, 1) := by decide +kernel
theorem dX8_leastTo_25 : decode cX8_leastTo 25 = .ok (.iconst 1, 1) := by decide +kernel
theorem dX8_leastTo_26 : decode cX8_leastTo 26 = .ok (.isub, 1) := by decide +kernel
theorem dX8_leastTo_27 : decode cX8_leastTo 27 = .ok (.iload_n 1, 1) := by decide +kernel
theorem dX8_leastTo_28 : decode cX8_leastTo 28 = .ok (.if_icmp .ne 27, 3) := by decide +kernel
theorem dX8_leastTo_31 : decode cX8_leastTo 31 = .ok (.iload_n 2, 1) := by decide +kernel
theorem dX8_leastTo_32 : decode cX8_leastTo 32 = .ok (.iconst (-1), 1) := by decide +kernel
theorem dX8_leastTo_33 : decode cX8_leastTo 33 = .ok (.if_icmp .eq 14, 3) := by decide +kernel
theorem dX8_leastTo_36 : decode cX8_leastTo 36 = .ok (.aload_n 0, 1) := by decide +kernel
theorem dX8_leastTo_37 : decode cX8_leastTo 37 = .ok (.getfield 37, 3) := by decide +kernel
theorem dX8_leastTo_40 : decode cX8_leastTo 40 = .ok (.iload 4, 2) := by decide +kernel
theorem dX8_leastTo_42 : decode cX8_leastTo 42 = .ok (.iaload, 1) := by decide +kernel
theorem dX8_leastTo_43 : decode cX8_leastTo 43 = .ok (.iload_n 2, 1) := by decide +kernel
theorem dX8_leastTo_44 : decode cX8_leastTo 44 = .ok (.if_icmp .ge 11, 3) := by decide +kernel
theorem dX8_leastTo_47 : decode cX8_leastTo 47 = .ok (.aload_n 0, 1) := by decide +kernel
theorem dX8_leastTo_48 : decode cX8_leastTo 48 = .ok (.getfield 37, 3) := by decide +kernel
theorem dX8_leastTo_51 : decode cX8_leastTo 51 = .ok (.iload 4, 2) := by decide +kernel
theorem dX8_leastTo_53 : decode cX8_leastTo 53 = .ok (.iaload, 1) := by decide +kernel
theorem dX8_leastTo_54 : decode cX8_leastTo 54 = .ok (.istore_n 2, 1) := by decide +kernel
theorem dX8_leastTo_55 : decode cX8_leastTo 55 = .ok (.iinc 3 1, 3) := by decide +kernel
theorem dX8_leastTo_58 : decode cX8_leastTo 58 = .ok (.goto (-54), 3) := by decide +kernel
theorem dX8_leastTo_61 : decode cX8_leastTo 61 = .ok (.iload_n 2, 1) := by decide +kernel
theorem dX8_leastTo_62 : decode cX8_leastTo 62 = .ok (.ireturn, 1) := by decide +kernel
theorem dX8_walk_0 : decode cX8_walk 0 = .ok (.aload_n 0, 1) := by decide +kernel
theorem dX8_walk_1 : decode cX8_walk 1 = .ok (.iload_n 1, 1) := by decide +kernel
theorem dX8_walk_2 : decode cX8_walk 2 = .ok (.invokevirtual 68, 3) := by decide +kernel
theorem dX8_walk_5 : decode cX8_walk 5 = .ok (.ifCond .ne 6, 3) := by decide +kernel
theorem dX8_walk_8 : decode cX8_walk 8 = .ok (.bipush (-101), 2) := by decide +kernel
theorem dX8_walk_10 : decode cX8_walk 10 = .ok (.ireturn, 1) := by decide +kernel
theorem dX8_walk_11 : decode cX8_walk 11 = .ok (.aload_n 0, 1) := by decide +kernel
theorem dX8_walk_12 : decode cX8_walk 12 = .ok (.invokevirtual 191, 3) := by decide +kernel
theorem dX8_walk_15 : decode cX8_walk 15 = .ok (.aload_n 0, 1) := by decide +kernel
theorem dX8_walk_16 : decode cX8_walk 16 = .ok (.iload_n 1, 1) := by decide +kernel
theorem dX8_walk_17 : decode cX8_walk 17 = .ok (.invokevirtual 194, 3) := by decide +kernel
theorem dX8_walk_20 : decode cX8_walk 20 = .ok (.ireturn, 1) := by decide +kernel
theorem dX8_key_0 : decode cX8_key 0 = .ok (.aload_n 0, 1) := by decide +kernel
theorem dX8_key_1 : decode cX8_key 1 = .ok (.iload_n 1, 1) := by decide +kernel
theorem dX8_key_2 : decode cX8_key 2 = .ok (.invokevirtual 68, 3) := by decide +kernel
theorem dX8_key_5 : decode cX8_key 5 = .ok (.ifCond .ne 6, 3) := by decide +kernel
theorem dX8_key_8 : decode cX8_key 8 = .ok (.bipush (-101), 2) := by decide +kernel
theorem dX8_key_10 : decode cX8_key 10 = .ok (.ireturn, 1) := by decide +kernel
theorem dX8_key_11 : decode cX8_key 11 = .ok (.aload_n 0, 1) := by decide +kernel
theorem dX8_key_12 : decode cX8_key 12 = .ok (.invokevirtual 191, 3) := by decide +kernel
theorem dX8_key_15 : decode cX8_key 15 = .ok (.aload_n 0, 1) := by decide +kernel
theorem dX8_key_16 : decode cX8_key 16 = .ok (.iload_n 1, 1) := by decide +kernel
theorem dX8_key_17 : decode cX8_key 17 = .ok (.invokevirtual 194, 3) := by decide +kernel
theorem dX8_key_20 : decode cX8_key 20 = .ok (.istore_n 2, 1) := by decide +kernel
theorem dX8_key_21 : decode cX8_key 21 = .ok (.iload_n 2, 1) := by decide +kernel
theorem dX8_key_22 : decode cX8_key 22 = .ok (.iconst 1, 1) := by decide +kernel
theorem dX8_key_23 : decode cX8_key 23 = .ok (.if_icmp .ge 5, 3) := by decide +kernel
theorem dX8_key_26 : decode cX8_key 26 = .ok (.iconst (-1), 1) := by decide +kernel
theorem dX8_key_27 : decode cX8_key 27 = .ok (.ireturn, 1) := by decide +kernel
theorem dX8_key_28 : decode cX8_key 28 = .ok (.aload_n 0, 1) := by decide +kernel
theorem dX8_key_29 : decode cX8_key 29 = .ok (.invokevirtual 181, 3) := by decide +kernel
theorem dX8_key_32 : decode cX8_key 32 = .ok (.istore_n 3, 1) := by decide +kernel
theorem dX8_key_33 : decode cX8_key 33 = .ok (.iconst (-1), 1) := by decide +kernel
theorem dX8_key_34 : decode cX8_key 34 = .ok (.istore 4, 2) := by decide +kernel
theorem dX8_key_36 : decode cX8_key 36 = .ok (.iconst 0, 1) := by decide +kernel
theorem dX8_key_37 : decode cX8_key 37 = .ok (.istore 5, 2) := by decide +kernel
theorem dX8_key_39 : decode cX8_key 39 = .ok (.iload 5, 2) := by decide +kernel
theorem dX8_key_41 : decode cX8_key 41 = .ok (.iconst 3, 1) := by decide +kernel
theorem dX8_key_42 : decode cX8_key 42 = .ok (.if_icmp .ge 50, 3) := by decide +kernel
theorem dX8_key_45 : decode cX8_key 45 = .ok (.iload 4, 2) := by decide +kernel
theorem dX8_key_47 : decode cX8_key 47 = .ok (.iconst (-1), 1) := by decide +kernel
theorem dX8_key_48 : decode cX8_key 48 = .ok (.if_icmp .ne 44, 3) := by decide +kernel
theorem dX8_key_51 : decode cX8_key 51 = .ok (.aload_n 0, 1) := by decide +kernel
theorem dX8_key_52 : decode cX8_key 52 = .ok (.iload 5, 2) := by decide +kernel
theorem dX8_key_54 : decode cX8_key 54 = .ok (.iconst 0, 1) := by decide +kernel
theorem dX8_key_55 : decode cX8_key 55 = .ok (.invokevirtual 171, 3) := by decide +kernel
theorem dX8_key_58 : decode cX8_key 58 = .ok (.aload_n 0, 1) := by decide +kernel
theorem dX8_key_59 : decode cX8_key 59 = .ok (.invokevirtual 191, 3) := by decide +kernel
theorem dX8_key_62 : decode cX8_key 62 = .ok (.aload_n 0, 1) := by decide +kernel
theorem dX8_key_63 : decode cX8_key 63 = .ok (.iload_n 1, 1) := by decide +kernel
theorem dX8_key_64 : decode cX8_key 64 = .ok (.invokevirtual 194, 3) := by decide +kernel
theorem dX8_key_67 : decode cX8_key 67 = .ok (.iload_n 2, 1) := by decide +kernel
theorem dX8_key_68 : decode cX8_key 68 = .ok (.iconst 1, 1) := by decide +kernel
theorem dX8_key_69 : decode cX8_key 69 = .ok (.isub, 1) := by decide +kernel
theorem dX8_key_70 : decode cX8_key 70 = .ok (.if_icmp .ne 8, 3) := by decide +kernel
theorem dX8_key_73 : decode cX8_key 73 = .ok (.iload 5, 2) := by decide +kernel
theorem dX8_key_75 : decode cX8_key 75 = .ok (.goto 4, 3) := by decide +kernel
theorem dX8_key_78 : decode cX8_key 78 = .ok (.iconst (-1), 1) := by decide +kernel
theorem dX8_key_79 : decode cX8_key 79 = .ok (.istore 4, 2) := by decide +kernel
theorem dX8_key_81 : decode cX8_key 81 = .ok (.aload_n 0, 1) := by decide +kernel
theorem dX8_key_82 : decode cX8_key 82 = .ok (.iload_n 3, 1) := by decide +kernel
theorem dX8_key_83 : decode cX8_key 83 = .ok (.invokevirtual 188, 3) := by decide +kernel
theorem dX8_key_86 : decode cX8_key 86 = .ok (.iinc 5 1, 3) := by decide +kernel
theorem dX8_key_89 : decode cX8_key 89 = .ok (.goto (-50), 3) := by decide +kernel
theorem dX8_key_92 : decode cX8_key 92 = .ok (.iload 4, 2) := by decide +kernel
theorem dX8_key_94 : decode cX8_key 94 = .ok (.ireturn, 1) := by decide +kernel
theorem dX8_keeper_0 : decode cX8_keeper 0 = .ok (.aload_n 0, 1) := by decide +kernel
theorem dX8_keeper_1 : decode cX8_keeper 1 = .ok (.aload_n 0, 1) := by decide +kernel
theorem dX8_keeper_2 : decode cX8_keeper 2 = .ok (.getfield 49, 3) := by decide +kernel
theorem dX8_keeper_5 : decode cX8_keeper 5 = .ok (.invokevirtual 165, 3) := by decide +kernel
theorem dX8_keeper_8 : decode cX8_keeper 8 = .ok (.istore_n 1, 1) := by decide +kernel
theorem dX8_keeper_9 : decode cX8_keeper 9 = .ok (.iload_n 1, 1) := by decide +kernel
theorem dX8_keeper_10 : decode cX8_keeper 10 = .ok (.iconst (-1), 1) := by decide +kernel
theorem dX8_keeper_11 : decode cX8_keeper 11 = .ok (.if_icmp .ne 5, 3) := by decide +kernel
theorem dX8_keeper_14 : decode cX8_keeper 14 = .ok (.iconst (-1), 1) := by decide +kernel
theorem dX8_keeper_15 : decode cX8_keeper 15 = .ok (.ireturn, 1) := by decide +kernel
theorem dX8_keeper_16 : decode cX8_keeper 16 = .ok (.aload_n 0, 1) := by decide +kernel
theorem dX8_keeper_17 : decode cX8_keeper 17 = .ok (.invokevirtual 191, 3) := by decide +kernel
theorem dX8_keeper_20 : decode cX8_keeper 20 = .ok (.iconst 0, 1) := by decide +kernel
theorem dX8_keeper_21 : decode cX8_keeper 21 = .ok (.istore_n 2, 1) := by decide +kernel
theorem dX8_keeper_22 : decode cX8_keeper 22 = .ok (.iload_n 2, 1) := by decide +kernel
theorem dX8_keeper_23 : decode cX8_keeper 23 = .ok (.aload_n 0, 1) := by decide +kernel
theorem dX8_keeper_24 : decode cX8_keeper 24 = .ok (.getfield 185, 3) := by decide +kernel
theorem dX8_keeper_27 : decode cX8_keeper 27 = .ok (.if_icmp .ge 37, 3) := by decide +kernel
theorem dX8_keeper_30 : decode cX8_keeper 30 = .ok (.aload_n 0, 1) := by decide +kernel
theorem dX8_keeper_31 : decode cX8_keeper 31 = .ok (.getfield 40, 3) := by decide +kernel
theorem dX8_keeper_34 : decode cX8_keeper 34 = .ok (.iload_n 2, 1) := by decide +kernel
theorem dX8_keeper_35 : decode cX8_keeper 35 = .ok (.iaload, 1) := by decide +kernel
theorem dX8_keeper_36 : decode cX8_keeper 36 = .ok (.bipush 25, 2) := by decide +kernel
theorem dX8_keeper_38 : decode cX8_keeper 38 = .ok (.irem, 1) := by decide +kernel
theorem dX8_keeper_39 : decode cX8_keeper 39 = .ok (.iconst 1, 1) := by decide +kernel
theorem dX8_keeper_40 : decode cX8_keeper 40 = .ok (.isub, 1) := by decide +kernel
theorem dX8_keeper_41 : decode cX8_keeper 41 = .ok (.istore_n 3, 1) := by decide +kernel
theorem dX8_keeper_42 : decode cX8_keeper 42 = .ok (.iload_n 3, 1) := by decide +kernel
theorem dX8_keeper_43 : decode cX8_keeper 43 = .ok (.iconst (-1), 1) := by decide +kernel
theorem dX8_keeper_44 : decode cX8_keeper 44 = .ok (.if_icmp .eq 14, 3) := by decide +kernel
theorem dX8_keeper_47 : decode cX8_keeper 47 = .ok (.aload_n 0, 1) := by decide +kernel
theorem dX8_keeper_48 : decode cX8_keeper 48 = .ok (.iload_n 3, 1) := by decide +kernel
theorem dX8_keeper_49 : decode cX8_keeper 49 = .ok (.iload_n 1, 1) := by decide +kernel
theorem dX8_keeper_50 : decode cX8_keeper 50 = .ok (.invokevirtual 135, 3) := by decide +kernel
theorem dX8_keeper_53 : decode cX8_keeper 53 = .ok (.ifCond .ne 5, 3) := by decide +kernel
theorem dX8_keeper_56 : decode cX8_keeper 56 = .ok (.iconst (-1), 1) := by decide +kernel
theorem dX8_keeper_57 : decode cX8_keeper 57 = .ok (.ireturn, 1) := by decide +kernel
theorem dX8_keeper_58 : decode cX8_keeper 58 = .ok (.iinc 2 1, 3) := by decide +kernel
theorem dX8_keeper_61 : decode cX8_keeper 61 = .ok (.goto (-39), 3) := by decide +kernel
theorem dX8_keeper_64 : decode cX8_keeper 64 = .ok (.iload_n 1, 1) := by decide +kernel
theorem dX8_keeper_65 : decode cX8_keeper 65 = .ok (.ireturn, 1) := by decide +kernel
theorem dX8_hear_0 : decode cX8_hear 0 = .ok (.aload_n 0, 1) := by decide +kernel
theorem dX8_hear_1 : decode cX8_hear 1 = .ok (.getfield 92, 3) := by decide +kernel
theorem dX8_hear_4 : decode cX8_hear 4 = .ok (.ifCond .ne 5, 3) := by decide +kernel
theorem dX8_hear_7 : decode cX8_hear 7 = .ok (.iconst (-1), 1) := by decide +kernel
theorem dX8_hear_8 : decode cX8_hear 8 = .ok (.ireturn, 1) := by decide +kernel
theorem dX8_hear_9 : decode cX8_hear 9 = .ok (.aload_n 0, 1) := by decide +kernel
theorem dX8_hear_10 : decode cX8_hear 10 = .ok (.getfield 13, 3) := by decide +kernel
theorem dX8_hear_13 : decode cX8_hear 13 = .ok (.iconst 0, 1) := by decide +kernel
theorem dX8_hear_14 : decode cX8_hear 14 = .ok (.iaload, 1) := by decide +kernel
theorem dX8_hear_15 : decode cX8_hear 15 = .ok (.istore_n 1, 1) := by decide +kernel
theorem dX8_hear_16 : decode cX8_hear 16 = .ok (.aload_n 0, 1) := by decide +kernel
theorem dX8_hear_17 : decode cX8_hear 17 = .ok (.dup, 1) := by decide +kernel
theorem dX8_hear_18 : decode cX8_hear 18 = .ok (.getfield 92, 3) := by decide +kernel
theorem dX8_hear_21 : decode cX8_hear 21 = .ok (.iconst 1, 1) := by decide +kernel
theorem dX8_hear_22 : decode cX8_hear 22 = .ok (.isub, 1) := by decide +kernel
theorem dX8_hear_23 : decode cX8_hear 23 = .ok (.putfield 92, 3) := by decide +kernel
theorem dX8_hear_26 : decode cX8_hear 26 = .ok (.iconst 0, 1) := by decide +kernel
theorem dX8_hear_27 : decode cX8_hear 27 = .ok (.istore_n 2, 1) := by decide +kernel
theorem dX8_hear_28 : decode cX8_hear 28 = .ok (.iload_n 2, 1) := by decide +kernel
theorem dX8_hear_29 : decode cX8_hear 29 = .ok (.aload_n 0, 1) := by decide +kernel
theorem dX8_hear_30 : decode cX8_hear 30 = .ok (.getfield 92, 3) := by decide +kernel
theorem dX8_hear_33 : decode cX8_hear 33 = .ok (.if_icmp .ge 23, 3) := by decide +kernel
theorem dX8_hear_36 : decode cX8_hear 36 = .ok (.aload_n 0, 1) := by decide +kernel
theorem dX8_hear_37 : decode cX8_hear 37 = .ok (.getfield 13, 3) := by decide +kernel
theorem dX8_hear_40 : decode cX8_hear 40 = .ok (.iload_n 2, 1) := by decide +kernel
theorem dX8_hear_41 : decode cX8_hear 41 = .ok (.aload_n 0, 1) := by decide +kernel
theorem dX8_hear_42 : decode cX8_hear 42 = .ok (.getfield 13, 3) := by decide +kernel
theorem dX8_hear_45 : decode cX8_hear 45 = .ok (.iload_n 2, 1) := by decide +kernel
theorem dX8_hear_46 : decode cX8_hear 46 = .ok (.iconst 1, 1) := by decide +kernel
theorem dX8_hear_47 : decode cX8_hear 47 = .ok (.iadd, 1) := by decide +kernel
theorem dX8_hear_48 : decode cX8_hear 48 = .ok (.iaload, 1) := by decide +kernel
theorem dX8_hear_49 : decode cX8_hear 49 = .ok (.iastore, 1) := by decide +kernel
theorem dX8_hear_50 : decode cX8_hear 50 = .ok (.iinc 2 1, 3) := by decide +kernel
theorem dX8_hear_53 : decode cX8_hear 53 = .ok (.goto (-25), 3) := by decide +kernel
theorem dX8_hear_56 : decode cX8_hear 56 = .ok (.iload_n 1, 1) := by decide +kernel
theorem dX8_hear_57 : decode cX8_hear 57 = .ok (.ireturn, 1) := by decide +kernel
theorem dX8_isTwin_0 : decode cX8_isTwin 0 = .ok (.aload_n 0, 1) := by decide +kernel
theorem dX8_isTwin_1 : decode cX8_isTwin 1 = .ok (.iload_n 1, 1) := by decide +kernel
theorem dX8_isTwin_2 : decode cX8_isTwin 2 = .ok (.bipush 10, 2) := by decide +kernel
theorem dX8_isTwin_4 : decode cX8_isTwin 4 = .ok (.invokevirtual 74, 3) := by decide +kernel
theorem dX8_isTwin_7 : decode cX8_isTwin 7 = .ok (.istore_n 2, 1) := by decide +kernel
theorem dX8_isTwin_8 : decode cX8_isTwin 8 = .ok (.iload_n 2, 1) := by decide +kernel
theorem dX8_isTwin_9 : decode cX8_isTwin 9 = .ok (.iconst 2, 1) := by decide +kernel
theorem dX8_isTwin_10 : decode cX8_isTwin 10 = .ok (.if_icmp .eq 8, 3) := by decide +kernel
theorem dX8_isTwin_13 : decode cX8_isTwin 13 = .ok (.iload_n 2, 1) := by decide +kernel
theorem dX8_isTwin_14 : decode cX8_isTwin 14 = .ok (.iconst 3, 1) := by decide +kernel
theorem dX8_isTwin_15 : decode cX8_isTwin 15 = .ok (.if_icmp .ne 12, 3) := by decide +kernel
theorem dX8_isTwin_18 : decode cX8_isTwin 18 = .ok (.aload_n 0, 1) := by decide +kernel
theorem dX8_isTwin_19 : decode cX8_isTwin 19 = .ok (.getfield 25, 3) := by decide +kernel
theorem dX8_isTwin_22 : decode cX8_isTwin 22 = .ok (.iload_n 1, 1) := by decide +kernel
theorem dX8_isTwin_23 : decode cX8_isTwin 23 = .ok (.iaload, 1) := by decide +kernel
theorem dX8_isTwin_24 : decode cX8_isTwin 24 = .ok (.ifCond .ne 5, 3) := by decide +kernel
theorem dX8_isTwin_27 : decode cX8_isTwin 27 = .ok (.iconst 0, 1) := by decide +kernel
theorem dX8_isTwin_28 : decode cX8_isTwin 28 = .ok (.ireturn, 1) := by decide +kernel
theorem dX8_isTwin_29 : decode cX8_isTwin 29 = .ok (.iconst 0, 1) := by decide +kernel
theorem dX8_isTwin_30 : decode cX8_isTwin 30 = .ok (.istore_n 3, 1) := by decide +kernel
theorem dX8_isTwin_31 : decode cX8_isTwin 31 = .ok (.iload_n 3, 1) := by decide +kernel
theorem dX8_isTwin_32 : decode cX8_isTwin 32 = .ok (.iload_n 1, 1) := by decide +kernel
theorem dX8_isTwin_33 : decode cX8_isTwin 33 = .ok (.if_icmp .ge 105, 3) := by decide +kernel
theorem dX8_isTwin_36 : decode cX8_isTwin 36 = .ok (.aload_n 0, 1) := by decide +kernel
theorem dX8_isTwin_37 : decode cX8_isTwin 37 = .ok (.iload_n 3, 1) := by decide +kernel
theorem dX8_isTwin_38 : decode cX8_isTwin 38 = .ok (.invokevirtual 159, 3) := by decide +kernel
theorem dX8_isTwin_41 : decode cX8_isTwin 41 = .ok (.ifCond .eq 22, 3) := by decide +kernel
theorem dX8_isTwin_44 : decode cX8_isTwin 44 = .ok (.aload_n 0, 1) := by decide +kernel
theorem dX8_isTwin_45 : decode cX8_isTwin 45 = .ok (.getfield 25, 3) := by decide +kernel
theorem dX8_isTwin_48 : decode cX8_isTwin 48 = .ok (.iload_n 3, 1) := by decide +kernel
theorem dX8_isTwin_49 : decode cX8_isTwin 49 = .ok (.iaload, 1) := by decide +kernel
theorem dX8_isTwin_50 : decode cX8_isTwin 50 = .ok (.aload_n 0, 1) := by decide +kernel
theorem dX8_isTwin_51 : decode cX8_isTwin 51 = .ok (.getfield 25, 3) := by decide +kernel
theorem dX8_isTwin_54 : decode cX8_isTwin 54 = .ok (.iload_n 1, 1) := by decide +kernel
theorem dX8_isTwin_55 : decode cX8_isTwin 55 = .ok (.iaload, 1) := by decide +kernel
theorem dX8_isTwin_56 : decode cX8_isTwin 56 = .ok (.if_icmp .ne 7, 3) := by decide +kernel
theorem dX8_isTwin_59 : decode cX8_isTwin 59 = .ok (.iconst 1, 1) := by decide +kernel
theorem dX8_isTwin_60 : decode cX8_isTwin 60 = .ok (.goto 4, 3) := by decide +kernel
theorem dX8_isTwin_63 : decode cX8_isTwin 63 = .ok (.iconst 0, 1) := by decide +kernel
theorem dX8_isTwin_64 : decode cX8_isTwin 64 = .ok (.istore 4, 2) := by decide +kernel
theorem dX8_isTwin_66 : decode cX8_isTwin 66 = .ok (.iconst 0, 1) := by decide +kernel
theorem dX8_isTwin_67 : decode cX8_isTwin 67 = .ok (.istore 5, 2) := by decide +kernel
theorem dX8_isTwin_69 : decode cX8_isTwin 69 = .ok (.iload 5, 2) := by decide +kernel
theorem dX8_isTwin_71 : decode cX8_isTwin 71 = .ok (.aload_n 0, 1) := by decide +kernel
theorem dX8_isTwin_72 : decode cX8_isTwin 72 = .ok (.getfield 25, 3) := by decide +kernel
theorem dX8_isTwin_75 : decode cX8_isTwin 75 = .ok (.iload_n 1, 1) := by decide +kernel
theorem dX8_isTwin_76 : decode cX8_isTwin 76 = .ok (.iaload, 1) := by decide +kernel
theorem dX8_isTwin_77 : decode cX8_isTwin 77 = .ok (.if_icmp .ge 48, 3) := by decide +kernel
theorem dX8_isTwin_80 : decode cX8_isTwin 80 = .ok (.iload 4, 2) := by decide +kernel
theorem dX8_isTwin_82 : decode cX8_isTwin 82 = .ok (.ifCond .eq 43, 3) := by decide +kernel
theorem dX8_isTwin_85 : decode cX8_isTwin 85 = .ok (.aload_n 0, 1) := by decide +kernel
theorem dX8_isTwin_86 : decode cX8_isTwin 86 = .ok (.getfield 22, 3) := by decide +kernel
theorem dX8_isTwin_89 : decode cX8_isTwin 89 = .ok (.bipush 8, 2) := by decide +kernel
theorem dX8_isTwin_91 : decode cX8_isTwin 91 = .ok (.iload_n 3, 1) := by decide +kernel
theorem dX8_isTwin_92 : decode cX8_isTwin 92 = .ok (.imul, 1) := by decide +kernel
theorem dX8_isTwin_93 : decode cX8_isTwin 93 = .ok (.iload 5, 2) := by decide +kernel
theorem dX8_isTwin_95 : decode cX8_isTwin 95 = .ok (.iadd, 1) := by decide +kernel
theorem dX8_isTwin_96 : decode cX8_isTwin 96 = .ok (.iaload, 1) := by decide +kernel
theorem dX8_isTwin_97 : decode cX8_isTwin 97 = .ok (.aload_n 0, 1) := by decide +kernel
theorem dX8_isTwin_98 : decode cX8_isTwin 98 = .ok (.getfield 22, 3) := by decide +kernel
theorem dX8_isTwin_101 : decode cX8_isTwin 101 = .ok (.bipush 8, 2) := by decide +kernel
theorem dX8_isTwin_103 : decode cX8_isTwin 103 = .ok (.iload_n 1, 1) := by decide +kernel
theorem dX8_isTwin_104 : decode cX8_isTwin 104 = .ok (.imul, 1) := by decide +kernel
theorem dX8_isTwin_105 : decode cX8_isTwin 105 = .ok (.iload 5, 2) := by decide +kernel
theorem dX8_isTwin_107 : decode cX8_isTwin 107 = .ok (.iadd, 1) := by decide +kernel
theorem dX8_isTwin_108 : decode cX8_isTwin 108 = .ok (.iaload, 1) := by decide +kernel
theorem dX8_isTwin_109 : decode cX8_isTwin 109 = .ok (.if_icmp .ne 7, 3) := by decide +kernel
theorem dX8_isTwin_112 : decode cX8_isTwin 112 = .ok (.iconst 1, 1) := by decide +kernel
theorem dX8_isTwin_113 : decode cX8_isTwin 113 = .ok (.goto 4, 3) := by decide +kernel
theorem dX8_isTwin_116 : decode cX8_isTwin 116 = .ok (.iconst 0, 1) := by decide +kernel
theorem dX8_isTwin_117 : decode cX8_isTwin 117 = .ok (.istore 4, 2) := by decide +kernel
theorem dX8_isTwin_119 : decode cX8_isTwin 119 = .ok (.iinc 5 1, 3) := by decide +kernel
theorem dX8_isTwin_122 : decode cX8_isTwin 122 = .ok (.goto (-53), 3) := by decide +kernel
theorem dX8_isTwin_125 : decode cX8_isTwin 125 = .ok (.iload 4, 2) := by decide +kernel
theorem dX8_isTwin_127 : decode cX8_isTwin 127 = .ok (.ifCond .eq 5, 3) := by decide +kernel
theorem dX8_isTwin_130 : decode cX8_isTwin 130 = .ok (.iconst 1, 1) := by decide +kernel
theorem dX8_isTwin_131 : decode cX8_isTwin 131 = .ok (.ireturn, 1) := by decide +kernel
theorem dX8_isTwin_132 : decode cX8_isTwin 132 = .ok (.iinc 3 1, 3) := by decide +kernel
theorem dX8_isTwin_135 : decode cX8_isTwin 135 = .ok (.goto (-104), 3) := by decide +kernel
theorem dX8_isTwin_138 : decode cX8_isTwin 138 = .ok (.iconst 0, 1) := by decide +kernel
theorem dX8_isTwin_139 : decode cX8_isTwin 139 = .ok (.ireturn, 1) := by decide +kernel
theorem dX8_isClosed_0 : decode cX8_isClosed 0 = .ok (.iconst 0, 1) := by decide +kernel
theorem dX8_isClosed_1 : decode cX8_isClosed 1 = .ok (.istore_n 2, 1) := by decide +kernel
theorem dX8_isClosed_2 : decode cX8_isClosed 2 = .ok (.iconst 0, 1) := by decide +kernel
theorem dX8_isClosed_3 : decode cX8_isClosed 3 = .ok (.istore_n 3, 1) := by decide +kernel
theorem dX8_isClosed_4 : decode cX8_isClosed 4 = .ok (.iload_n 3, 1) := by decide +kernel
theorem dX8_isClosed_5 : decode cX8_isClosed 5 = .ok (.aload_n 0, 1) := by decide +kernel
theorem dX8_isClosed_6 : decode cX8_isClosed 6 = .ok (.getfield 57, 3) := by decide +kernel
theorem dX8_isClosed_9 : decode cX8_isClosed 9 = .ok (.if_icmp .ge 76, 3) := by decide +kernel
theorem dX8_isClosed_12 : decode cX8_isClosed 12 = .ok (.aload_n 0, 1) := by decide +kernel
theorem dX8_isClosed_13 : decode cX8_isClosed 13 = .ok (.iload_n 3, 1) := by decide +kernel
theorem dX8_isClosed_14 : decode cX8_isClosed 14 = .ok (.invokevirtual 159, 3) := by decide +kernel
theorem dX8_isClosed_17 : decode cX8_isClosed 17 = .ok (.ifCond .eq 62, 3) := by decide +kernel
theorem dX8_isClosed_20 : decode cX8_isClosed 20 = .ok (.aload_n 0, 1) := by decide +kernel
theorem dX8_isClosed_21 : decode cX8_isClosed 21 = .ok (.iload_n 3, 1) := by decide +kernel
theorem dX8_isClosed_22 : decode cX8_isClosed 22 = .ok (.iload_n 1, 1) := by decide +kernel
theorem dX8_isClosed_23 : decode cX8_isClosed 23 = .ok (.invokevirtual 135, 3) := by decide +kernel
theorem dX8_isClosed_26 : decode cX8_isClosed 26 = .ok (.ifCond .eq 53, 3) := by decide +kernel
theorem dX8_isClosed_29 : decode cX8_isClosed 29 = .ok (.iconst 1, 1) := by decide +kernel
theorem dX8_isClosed_30 : decode cX8_isClosed 30 = .ok (.istore_n 2, 1) := by decide +kernel
theorem dX8_isClosed_31 : decode cX8_isClosed 31 = .ok (.aload_n 0, 1) := by decide +kernel
theorem dX8_isClosed_32 : decode cX8_isClosed 32 = .ok (.iload_n 3, 1) := by decide +kernel
theorem dX8_isClosed_33 : decode cX8_isClosed 33 = .ok (.bipush 10, 2) := by decide +kernel
theorem dX8_isClosed_35 : decode cX8_isClosed 35 = .ok (.invokevirtual 74, 3) := by decide +kernel
theorem dX8_isClosed_38 : decode cX8_isClosed 38 = .ok (.iconst 2, 1) := by decide +kernel
theorem dX8_isClosed_39 : decode cX8_isClosed 39 = .ok (.if_icmp .ne 13, 3) := by decide +kernel
theorem dX8_isClosed_42 : decode cX8_isClosed 42 = .ok (.aload_n 0, 1) := by decide +kernel
theorem dX8_isClosed_43 : decode cX8_isClosed 43 = .ok (.iload_n 3, 1) := by decide +kernel
theorem dX8_isClosed_44 : decode cX8_isClosed 44 = .ok (.bipush 7, 2) := by decide +kernel
theorem dX8_isClosed_46 : decode cX8_isClosed 46 = .ok (.invokevirtual 74, 3) := by decide +kernel
theorem dX8_isClosed_49 : decode cX8_isClosed 49 = .ok (.goto 4, 3) := by decide +kernel
theorem dX8_isClosed_52 : decode cX8_isClosed 52 = .ok (.iconst (-1), 1) := by decide +kernel
theorem dX8_isClosed_53 : decode cX8_isClosed 53 = .ok (.istore 4, 2) := by decide +kernel
theorem dX8_isClosed_55 : decode cX8_isClosed 55 = .ok (.iload 4, 2) := by decide +kernel
theorem dX8_isClosed_57 : decode cX8_isClosed 57 = .ok (.iconst (-1), 1) := by decide +kernel
theorem dX8_isClosed_58 : decode cX8_isClosed 58 = .ok (.if_icmp .eq 21, 3) := by decide +kernel
theorem dX8_isClosed_61 : decode cX8_isClosed 61 = .ok (.iload 4, 2) := by decide +kernel
theorem dX8_isClosed_63 : decode cX8_isClosed 63 = .ok (.iload_n 1, 1) := by decide +kernel
theorem dX8_isClosed_64 : decode cX8_isClosed 64 = .ok (.if_icmp .eq 13, 3) := by decide +kernel
theorem dX8_isClosed_67 : decode cX8_isClosed 67 = .ok (.aload_n 0, 1) := by decide +kernel
theorem dX8_isClosed_68 : decode cX8_isClosed 68 = .ok (.iload_n 1, 1) := by decide +kernel
theorem dX8_isClosed_69 : decode cX8_isClosed 69 = .ok (.iload 4, 2) := by decide +kernel
theorem dX8_isClosed_71 : decode cX8_isClosed 71 = .ok (.invokevirtual 135, 3) := by decide +kernel
theorem dX8_isClosed_74 : decode cX8_isClosed 74 = .ok (.ifCond .eq 5, 3) := by decide +kernel
theorem dX8_isClosed_77 : decode cX8_isClosed 77 = .ok (.iconst 0, 1) := by decide +kernel
theorem dX8_isClosed_78 : decode cX8_isClosed 78 = .ok (.ireturn, 1) := by decide +kernel
theorem dX8_isClosed_79 : decode cX8_isClosed 79 = .ok (.iinc 3 1, 3) := by decide +kernel
theorem dX8_isClosed_82 : decode cX8_isClosed 82 = .ok (.goto (-78), 3) := by decide +kernel
theorem dX8_isClosed_85 : decode cX8_isClosed 85 = .ok (.iload_n 2, 1) := by decide +kernel
theorem dX8_isClosed_86 : decode cX8_isClosed 86 = .ok (.ireturn, 1) := by decide +kernel
theorem dX8_isAhead_0 : decode cX8_isAhead 0 = .ok (.iconst 0, 1) := by decide +kernel
theorem dX8_isAhead_1 : decode cX8_isAhead 1 = .ok (.istore_n 2, 1) := by decide +kernel
theorem dX8_isAhead_2 : decode cX8_isAhead 2 = .ok (.iload_n 2, 1) := by decide +kernel
theorem dX8_isAhead_3 : decode cX8_isAhead 3 = .ok (.aload_n 0, 1) := by decide +kernel
theorem dX8_isAhead_4 : decode cX8_isAhead 4 = .ok (.getfield 141, 3) := by decide +kernel
theorem dX8_isAhead_7 : decode cX8_isAhead 7 = .ok (.if_icmp .ge 19, 3) := by decide +kernel
theorem dX8_isAhead_10 : decode cX8_isAhead 10 = .ok (.aload_n 0, 1) := by decide +kernel
theorem dX8_isAhead_11 : decode cX8_isAhead 11 = .ok (.getfield 28, 3) := by decide +kernel
theorem dX8_isAhead_14 : decode cX8_isAhead 14 = .ok (.iload_n 2, 1) := by decide +kernel
theorem dX8_isAhead_15 : decode cX8_isAhead 15 = .ok (.iaload, 1) := by decide +kernel
theorem dX8_isAhead_16 : decode cX8_isAhead 16 = .ok (.iload_n 1, 1) := by decide +kernel
theorem dX8_isAhead_17 : decode cX8_isAhead 17 = .ok (.if_icmp .eq 9, 3) := by decide +kernel
theorem dX8_isAhead_20 : decode cX8_isAhead 20 = .ok (.iinc 2 1, 3) := by decide +kernel
theorem dX8_isAhead_23 : decode cX8_isAhead 23 = .ok (.goto (-21), 3) := by decide +kernel
theorem dX8_isAhead_26 : decode cX8_isAhead 26 = .ok (.iconst 0, 1) := by decide +kernel
theorem dX8_isAhead_27 : decode cX8_isAhead 27 = .ok (.istore_n 3, 1) := by decide +kernel
theorem dX8_isAhead_28 : decode cX8_isAhead 28 = .ok (.iload_n 2, 1) := by decide +kernel
theorem dX8_isAhead_29 : decode cX8_isAhead 29 = .ok (.iconst 1, 1) := by decide +kernel
theorem dX8_isAhead_30 : decode cX8_isAhead 30 = .ok (.iadd, 1) := by decide +kernel
theorem dX8_isAhead_31 : decode cX8_isAhead 31 = .ok (.istore 4, 2) := by decide +kernel
theorem dX8_isAhead_33 : decode cX8_isAhead 33 = .ok (.iload 4, 2) := by decide +kernel
theorem dX8_isAhead_35 : decode cX8_isAhead 35 = .ok (.aload_n 0, 1) := by decide +kernel
theorem dX8_isAhead_36 : decode cX8_isAhead 36 = .ok (.getfield 141, 3) := by decide +kernel
theorem dX8_isAhead_39 : decode cX8_isAhead 39 = .ok (.if_icmp .ge 34, 3) := by decide +kernel
theorem dX8_isAhead_42 : decode cX8_isAhead 42 = .ok (.iload_n 3, 1) := by decide +kernel
theorem dX8_isAhead_43 : decode cX8_isAhead 43 = .ok (.ifCond .ne 18, 3) := by decide +kernel
theorem dX8_isAhead_46 : decode cX8_isAhead 46 = .ok (.aload_n 0, 1) := by decide +kernel
theorem dX8_isAhead_47 : decode cX8_isAhead 47 = .ok (.iload_n 1, 1) := by decide +kernel
theorem dX8_isAhead_48 : decode cX8_isAhead 48 = .ok (.aload_n 0, 1) := by decide +kernel
theorem dX8_isAhead_49 : decode cX8_isAhead 49 = .ok (.getfield 28, 3) := by decide +kernel
theorem dX8_isAhead_52 : decode cX8_isAhead 52 = .ok (.iload 4, 2) := by decide +kernel
theorem dX8_isAhead_54 : decode cX8_isAhead 54 = .ok (.iaload, 1) := by decide +kernel
theorem dX8_isAhead_55 : decode cX8_isAhead 55 = .ok (.invokevirtual 153, 3) := by decide +kernel
theorem dX8_isAhead_58 : decode cX8_isAhead 58 = .ok (.ifCond .eq 7, 3) := by decide +kernel
theorem dX8_isAhead_61 : decode cX8_isAhead 61 = .ok (.iconst 1, 1) := by decide +kernel
theorem dX8_isAhead_62 : decode cX8_isAhead 62 = .ok (.goto 4, 3) := by decide +kernel
theorem dX8_isAhead_65 : decode cX8_isAhead 65 = .ok (.iconst 0, 1) := by decide +kernel
theorem dX8_isAhead_66 : decode cX8_isAhead 66 = .ok (.istore_n 3, 1) := by decide +kernel
theorem dX8_isAhead_67 : decode cX8_isAhead 67 = .ok (.iinc 4 1, 3) := by decide +kernel
theorem dX8_isAhead_70 : decode cX8_isAhead 70 = .ok (.goto (-37), 3) := by decide +kernel
theorem dX8_isAhead_73 : decode cX8_isAhead 73 = .ok (.iload_n 3, 1) := by decide +kernel
theorem dX8_isAhead_74 : decode cX8_isAhead 74 = .ok (.ireturn, 1) := by decide +kernel
theorem dX8_isWrong_0 : decode cX8_isWrong 0 = .ok (.aload_n 0, 1) := by decide +kernel
theorem dX8_isWrong_1 : decode cX8_isWrong 1 = .ok (.iload_n 1, 1) := by decide +kernel
theorem dX8_isWrong_2 : decode cX8_isWrong 2 = .ok (.bipush 10, 2) := by decide +kernel
theorem dX8_isWrong_4 : decode cX8_isWrong 4 = .ok (.invokevirtual 74, 3) := by decide +kernel
theorem dX8_isWrong_7 : decode cX8_isWrong 7 = .ok (.istore_n 3, 1) := by decide +kernel
theorem dX8_isWrong_8 : decode cX8_isWrong 8 = .ok (.iload_n 3, 1) := by decide +kernel
theorem dX8_isWrong_9 : decode cX8_isWrong 9 = .ok (.iconst 2, 1) := by decide +kernel
theorem dX8_isWrong_10 : decode cX8_isWrong 10 = .ok (.if_icmp .eq 8, 3) := by decide +kernel
theorem dX8_isWrong_13 : decode cX8_isWrong 13 = .ok (.iload_n 3, 1) := by decide +kernel
theorem dX8_isWrong_14 : decode cX8_isWrong 14 = .ok (.iconst 3, 1) := by decide +kernel
theorem dX8_isWrong_15 : decode cX8_isWrong 15 = .ok (.if_icmp .ne 7, 3) := by decide +kernel
theorem dX8_isWrong_18 : decode cX8_isWrong 18 = .ok (.iconst 1, 1) := by decide +kernel
theorem dX8_isWrong_19 : decode cX8_isWrong 19 = .ok (.goto 4, 3) := by decide +kernel
theorem dX8_isWrong_22 : decode cX8_isWrong 22 = .ok (.iconst 0, 1) := by decide +kernel
theorem dX8_isWrong_23 : decode cX8_isWrong 23 = .ok (.istore 4, 2) := by decide +kernel
theorem dX8_isWrong_25 : decode cX8_isWrong 25 = .ok (.iload_n 2, 1) := by decide +kernel
theorem dX8_isWrong_26 : decode cX8_isWrong 26 = .ok (.tableswitch 128 0 4 #[34, 59, 65, 103, 122], 34) := by decide +kernel
theorem dX8_isWrong_60 : decode cX8_isWrong 60 = .ok (.iload 4, 2) := by decide +kernel
theorem dX8_isWrong_62 : decode cX8_isWrong 62 = .ok (.ifCond .ne 8, 3) := by decide +kernel
theorem dX8_isWrong_65 : decode cX8_isWrong 65 = .ok (.iload_n 3, 1) := by decide +kernel
theorem dX8_isWrong_66 : decode cX8_isWrong 66 = .ok (.iconst 4, 1) := by decide +kernel
theorem dX8_isWrong_67 : decode cX8_isWrong 67 = .ok (.if_icmp .ne 16, 3) := by decide +kernel
theorem dX8_isWrong_70 : decode cX8_isWrong 70 = .ok (.aload_n 0, 1) := by decide +kernel
theorem dX8_isWrong_71 : decode cX8_isWrong 71 = .ok (.getfield 25, 3) := by decide +kernel
theorem dX8_isWrong_74 : decode cX8_isWrong 74 = .ok (.iload_n 1, 1) := by decide +kernel
theorem dX8_isWrong_75 : decode cX8_isWrong 75 = .ok (.iaload, 1) := by decide +kernel
theorem dX8_isWrong_76 : decode cX8_isWrong 76 = .ok (.ifCond .ne 7, 3) := by decide +kernel
theorem dX8_isWrong_79 : decode cX8_isWrong 79 = .ok (.iconst 1, 1) := by decide +kernel
theorem dX8_isWrong_80 : decode cX8_isWrong 80 = .ok (.goto 4, 3) := by decide +kernel
theorem dX8_isWrong_83 : decode cX8_isWrong 83 = .ok (.iconst 0, 1) := by decide +kernel
theorem dX8_isWrong_84 : decode cX8_isWrong 84 = .ok (.ireturn, 1) := by decide +kernel
theorem dX8_isWrong_85 : decode cX8_isWrong 85 = .ok (.aload_n 0, 1) := by decide +kernel
theorem dX8_isWrong_86 : decode cX8_isWrong 86 = .ok (.iload_n 1, 1) := by decide +kernel
theorem dX8_isWrong_87 : decode cX8_isWrong 87 = .ok (.invokevirtual 197, 3) := by decide +kernel
theorem dX8_isWrong_90 : decode cX8_isWrong 90 = .ok (.ireturn, 1) := by decide +kernel
theorem dX8_isWrong_91 : decode cX8_isWrong 91 = .ok (.iload_n 3, 1) := by decide +kernel
theorem dX8_isWrong_92 : decode cX8_isWrong 92 = .ok (.iconst 1, 1) := by decide +kernel
theorem dX8_isWrong_93 : decode cX8_isWrong 93 = .ok (.if_icmp .ne 14, 3) := by decide +kernel
theorem dX8_isWrong_96 : decode cX8_isWrong 96 = .ok (.aload_n 0, 1) := by decide +kernel
theorem dX8_isWrong_97 : decode cX8_isWrong 97 = .ok (.iload_n 1, 1) := by decide +kernel
theorem dX8_isWrong_98 : decode cX8_isWrong 98 = .ok (.invokevirtual 200, 3) := by decide +kernel
theorem dX8_isWrong_101 : decode cX8_isWrong 101 = .ok (.sipush 4500, 3) := by decide +kernel
theorem dX8_isWrong_104 : decode cX8_isWrong 104 = .ok (.if_icmp .lt 19, 3) := by decide +kernel
theorem dX8_isWrong_107 : decode cX8_isWrong 107 = .ok (.iload 4, 2) := by decide +kernel
theorem dX8_isWrong_109 : decode cX8_isWrong 109 = .ok (.ifCond .eq 18, 3) := by decide +kernel
theorem dX8_isWrong_112 : decode cX8_isWrong 112 = .ok (.aload_n 0, 1) := by decide +kernel
theorem dX8_isWrong_113 : decode cX8_isWrong 113 = .ok (.iload_n 1, 1) := by decide +kernel
theorem dX8_isWrong_114 : decode cX8_isWrong 114 = .ok (.invokevirtual 200, 3) := by decide +kernel
theorem dX8_isWrong_117 : decode cX8_isWrong 117 = .ok (.sipush 3000, 3) := by decide +kernel
theorem dX8_isWrong_120 : decode cX8_isWrong 120 = .ok (.if_icmp .ge 7, 3) := by decide +kernel
theorem dX8_isWrong_123 : decode cX8_isWrong 123 = .ok (.iconst 1, 1) := by decide +kernel
theorem dX8_isWrong_124 : decode cX8_isWrong 124 = .ok (.goto 4, 3) := by decide +kernel
theorem dX8_isWrong_127 : decode cX8_isWrong 127 = .ok (.iconst 0, 1) := by decide +kernel
theorem dX8_isWrong_128 : decode cX8_isWrong 128 = .ok (.ireturn, 1) := by decide +kernel
theorem dX8_isWrong_129 : decode cX8_isWrong 129 = .ok (.iload_n 3, 1) := by decide +kernel
theorem dX8_isWrong_130 : decode cX8_isWrong 130 = .ok (.iconst 5, 1) := by decide +kernel
theorem dX8_isWrong_131 : decode cX8_isWrong 131 = .ok (.if_icmp .ne 15, 3) := by decide +kernel
theorem dX8_isWrong_134 : decode cX8_isWrong 134 = .ok (.aload_n 0, 1) := by decide +kernel
theorem dX8_isWrong_135 : decode cX8_isWrong 135 = .ok (.iload_n 1, 1) := by decide +kernel
theorem dX8_isWrong_136 : decode cX8_isWrong 136 = .ok (.invokevirtual 203, 3) := by decide +kernel
theorem dX8_isWrong_139 : decode cX8_isWrong 139 = .ok (.ifCond .eq 7, 3) := by decide +kernel
theorem dX8_isWrong_142 : decode cX8_isWrong 142 = .ok (.iconst 1, 1) := by decide +kernel
theorem dX8_isWrong_143 : decode cX8_isWrong 143 = .ok (.goto 4, 3) := by decide +kernel
theorem dX8_isWrong_146 : decode cX8_isWrong 146 = .ok (.iconst 0, 1) := by decide +kernel
theorem dX8_isWrong_147 : decode cX8_isWrong 147 = .ok (.ireturn, 1) := by decide +kernel
theorem dX8_isWrong_148 : decode cX8_isWrong 148 = .ok (.aload_n 0, 1) := by decide +kernel
theorem dX8_isWrong_149 : decode cX8_isWrong 149 = .ok (.iload_n 1, 1) := by decide +kernel
theorem dX8_isWrong_150 : decode cX8_isWrong 150 = .ok (.invokevirtual 206, 3) := by decide +kernel
theorem dX8_isWrong_153 : decode cX8_isWrong 153 = .ok (.ireturn, 1) := by decide +kernel
theorem dX8_isWrong_154 : decode cX8_isWrong 154 = .ok (.aload_n 0, 1) := by decide +kernel
theorem dX8_isWrong_155 : decode cX8_isWrong 155 = .ok (.iload_n 1, 1) := by decide +kernel
theorem dX8_isWrong_156 : decode cX8_isWrong 156 = .ok (.bipush 8, 2) := by decide +kernel
theorem dX8_isWrong_158 : decode cX8_isWrong 158 = .ok (.invokevirtual 74, 3) := by decide +kernel
theorem dX8_isWrong_161 : decode cX8_isWrong 161 = .ok (.i2l, 1) := by decide +kernel
theorem dX8_isWrong_162 : decode cX8_isWrong 162 = .ok (.lconst 1, 1) := by decide +kernel
theorem dX8_isWrong_163 : decode cX8_isWrong 163 = .ok (.ldc2_w 209, 3) := by decide +kernel
theorem dX8_isWrong_166 : decode cX8_isWrong 166 = .ok (.invokestatic 64, 3) := by decide +kernel
theorem dX8_isWrong_169 : decode cX8_isWrong 169 = .ok (.ifCond .eq 17, 3) := by decide +kernel
theorem dX8_isWrong_172 : decode cX8_isWrong 172 = .ok (.aload_n 0, 1) := by decide +kernel
theorem dX8_isWrong_173 : decode cX8_isWrong 173 = .ok (.iload_n 1, 1) := by decide +kernel
theorem dX8_isWrong_174 : decode cX8_isWrong 174 = .ok (.bipush 9, 2) := by decide +kernel
theorem dX8_isWrong_176 : decode cX8_isWrong 176 = .ok (.invokevirtual 74, 3) := by decide +kernel
theorem dX8_isWrong_179 : decode cX8_isWrong 179 = .ok (.ifCond .ne 7, 3) := by decide +kernel
theorem dX8_isWrong_182 : decode cX8_isWrong 182 = .ok (.iconst 1, 1) := by decide +kernel
theorem dX8_isWrong_183 : decode cX8_isWrong 183 = .ok (.goto 4, 3) := by decide +kernel
theorem dX8_isWrong_186 : decode cX8_isWrong 186 = .ok (.iconst 0, 1) := by decide +kernel
theorem dX8_isWrong_187 : decode cX8_isWrong 187 = .ok (.ireturn, 1) := by decide +kernel
theorem dX8_findWrongs_0 : decode cX8_findWrongs 0 = .ok (.iconst 0, 1) := by decide +kernel
theorem dX8_findWrongs_1 : decode cX8_findWrongs 1 = .ok (.istore_n 1, 1) := by decide +kernel
theorem dX8_findWrongs_2 : decode cX8_findWrongs 2 = .ok (.iload_n 1, 1) := by decide +kernel
theorem dX8_findWrongs_3 : decode cX8_findWrongs 3 = .ok (.aload_n 0, 1) := by decide +kernel
theorem dX8_findWrongs_4 : decode cX8_findWrongs 4 = .ok (.getfield 57, 3) := by decide +kernel
theorem dX8_findWrongs_7 : decode cX8_findWrongs 7 = .ok (.if_icmp .ge 14, 3) := by decide +kernel
theorem dX8_findWrongs_10 : decode cX8_findWrongs 10 = .ok (.aload_n 0, 1) := by decide +kernel
theorem dX8_findWrongs_11 : decode cX8_findWrongs 11 = .ok (.iload_n 1, 1) := by decide +kernel
theorem dX8_findWrongs_12 : decode cX8_findWrongs 12 = .ok (.invokevirtual 138, 3) := by decide +kernel
theorem dX8_findWrongs_15 : decode cX8_findWrongs 15 = .ok (.iinc 1 1, 3) := by decide +kernel
theorem dX8_findWrongs_18 : decode cX8_findWrongs 18 = .ok (.goto (-16), 3) := by decide +kernel
theorem dX8_findWrongs_21 : decode cX8_findWrongs 21 = .ok (.aload_n 0, 1) := by decide +kernel
theorem dX8_findWrongs_22 : decode cX8_findWrongs 22 = .ok (.invokevirtual 144, 3) := by decide +kernel
theorem dX8_findWrongs_25 : decode cX8_findWrongs 25 = .ok (.aload_n 0, 1) := by decide +kernel
theorem dX8_findWrongs_26 : decode cX8_findWrongs 26 = .ok (.iconst 0, 1) := by decide +kernel
theorem dX8_findWrongs_27 : decode cX8_findWrongs 27 = .ok (.putfield 211, 3) := by decide +kernel
theorem dX8_findWrongs_30 : decode cX8_findWrongs 30 = .ok (.iconst 0, 1) := by decide +kernel
theorem dX8_findWrongs_31 : decode cX8_findWrongs 31 = .ok (.istore_n 1, 1) := by decide +kernel
theorem dX8_findWrongs_32 : decode cX8_findWrongs 32 = .ok (.iload_n 1, 1) := by decide +kernel
theorem dX8_findWrongs_33 : decode cX8_findWrongs 33 = .ok (.aload_n 0, 1) := by decide +kernel
theorem dX8_findWrongs_34 : decode cX8_findWrongs 34 = .ok (.getfield 57, 3) := by decide +kernel
theorem dX8_findWrongs_37 : decode cX8_findWrongs 37 = .ok (.if_icmp .ge 70, 3) := by decide +kernel
theorem dX8_findWrongs_40 : decode cX8_findWrongs 40 = .ok (.iconst 0, 1) := by decide +kernel
theorem dX8_findWrongs_41 : decode cX8_findWrongs 41 = .ok (.istore_n 2, 1) := by decide +kernel
theorem dX8_findWrongs_42 : decode cX8_findWrongs 42 = .ok (.iload_n 2, 1) := by decide +kernel
theorem dX8_findWrongs_43 : decode cX8_findWrongs 43 = .ok (.bipush 6, 2) := by decide +kernel
theorem dX8_findWrongs_45 : decode cX8_findWrongs 45 = .ok (.if_icmp .ge 56, 3) := by decide +kernel
theorem dX8_findWrongs_48 : decode cX8_findWrongs 48 = .ok (.aload_n 0, 1) := by decide +kernel
theorem dX8_findWrongs_49 : decode cX8_findWrongs 49 = .ok (.iload_n 1, 1) := by decide +kernel
theorem dX8_findWrongs_50 : decode cX8_findWrongs 50 = .ok (.invokevirtual 89, 3) := by decide +kernel
theorem dX8_findWrongs_53 : decode cX8_findWrongs 53 = .ok (.ifCond .eq 48, 3) := by decide +kernel
theorem dX8_findWrongs_56 : decode cX8_findWrongs 56 = .ok (.aload_n 0, 1) := by decide +kernel
theorem dX8_findWrongs_57 : decode cX8_findWrongs 57 = .ok (.iload_n 1, 1) := by decide +kernel
theorem dX8_findWrongs_58 : decode cX8_findWrongs 58 = .ok (.iload_n 2, 1) := by decide +kernel
theorem dX8_findWrongs_59 : decode cX8_findWrongs 59 = .ok (.invokevirtual 214, 3) := by decide +kernel
theorem dX8_findWrongs_62 : decode cX8_findWrongs 62 = .ok (.ifCond .eq 33, 3) := by decide +kernel
theorem dX8_findWrongs_65 : decode cX8_findWrongs 65 = .ok (.aload_n 0, 1) := by decide +kernel
theorem dX8_findWrongs_66 : decode cX8_findWrongs 66 = .ok (.getfield 43, 3) := by decide +kernel
theorem dX8_findWrongs_69 : decode cX8_findWrongs 69 = .ok (.aload_n 0, 1) := by decide +kernel
theorem dX8_findWrongs_70 : decode cX8_findWrongs 70 = .ok (.getfield 211, 3) := by decide +kernel
theorem dX8_findWrongs_73 : decode cX8_findWrongs 73 = .ok (.iload_n 1, 1) := by decide +kernel
theorem dX8_findWrongs_74 : decode cX8_findWrongs 74 = .ok (.iastore, 1) := by decide +kernel
theorem dX8_findWrongs_75 : decode cX8_findWrongs 75 = .ok (.aload_n 0, 1) := by decide +kernel
theorem dX8_findWrongs_76 : decode cX8_findWrongs 76 = .ok (.getfield 46, 3) := by decide +kernel
theorem dX8_findWrongs_79 : decode cX8_findWrongs 79 = .ok (.aload_n 0, 1) := by decide +kernel
theorem dX8_findWrongs_80 : decode cX8_findWrongs 80 = .ok (.getfield 211, 3) := by decide +kernel
theorem dX8_findWrongs_83 : decode cX8_findWrongs 83 = .ok (.iload_n 2, 1) := by decide +kernel
theorem dX8_findWrongs_84 : decode cX8_findWrongs 84 = .ok (.iastore, 1) := by decide +kernel
theorem dX8_findWrongs_85 : decode cX8_findWrongs 85 = .ok (.aload_n 0, 1) := by decide +kernel
theorem dX8_findWrongs_86 : decode cX8_findWrongs 86 = .ok (.dup, 1) := by decide +kernel
theorem dX8_findWrongs_87 : decode cX8_findWrongs 87 = .ok (.getfield 211, 3) := by decide +kernel
theorem dX8_findWrongs_90 : decode cX8_findWrongs 90 = .ok (.iconst 1, 1) := by decide +kernel
theorem dX8_findWrongs_91 : decode cX8_findWrongs 91 = .ok (.iadd, 1) := by decide +kernel
theorem dX8_findWrongs_92 : decode cX8_findWrongs 92 = .ok (.putfield 211, 3) := by decide +kernel
theorem dX8_findWrongs_95 : decode cX8_findWrongs 95 = .ok (.iinc 2 1, 3) := by decide +kernel
theorem dX8_findWrongs_98 : decode cX8_findWrongs 98 = .ok (.goto (-56), 3) := by decide +kernel
theorem dX8_findWrongs_101 : decode cX8_findWrongs 101 = .ok (.iinc 1 1, 3) := by decide +kernel
theorem dX8_findWrongs_104 : decode cX8_findWrongs 104 = .ok (.goto (-72), 3) := by decide +kernel
theorem dX8_findWrongs_107 : decode cX8_findWrongs 107 = .ok (.return_, 1) := by decide +kernel
theorem dX8_wrongs_0 : decode cX8_wrongs 0 = .ok (.aload_n 0, 1) := by decide +kernel
theorem dX8_wrongs_1 : decode cX8_wrongs 1 = .ok (.invokevirtual 217, 3) := by decide +kernel
theorem dX8_wrongs_4 : decode cX8_wrongs 4 = .ok (.aload_n 0, 1) := by decide +kernel
theorem dX8_wrongs_5 : decode cX8_wrongs 5 = .ok (.getfield 211, 3) := by decide +kernel
theorem dX8_wrongs_8 : decode cX8_wrongs 8 = .ok (.ireturn, 1) := by decide +kernel
theorem dX8_wrong_0 : decode cX8_wrong 0 = .ok (.iload_n 2, 1) := by decide +kernel
theorem dX8_wrong_1 : decode cX8_wrong 1 = .ok (.i2l, 1) := by decide +kernel
theorem dX8_wrong_2 : decode cX8_wrong 2 = .ok (.lconst 0, 1) := by decide +kernel
theorem dX8_wrong_3 : decode cX8_wrong 3 = .ok (.lconst 1, 1) := by decide +kernel
theorem dX8_wrong_4 : decode cX8_wrong 4 = .ok (.invokestatic 64, 3) := by decide +kernel
theorem dX8_wrong_7 : decode cX8_wrong 7 = .ok (.ifCond .ne 6, 3) := by decide +kernel
theorem dX8_wrong_10 : decode cX8_wrong 10 = .ok (.bipush (-102), 2) := by decide +kernel
theorem dX8_wrong_12 : decode cX8_wrong 12 = .ok (.ireturn, 1) := by decide +kernel
theorem dX8_wrong_13 : decode cX8_wrong 13 = .ok (.aload_n 0, 1) := by decide +kernel
theorem dX8_wrong_14 : decode cX8_wrong 14 = .ok (.invokevirtual 217, 3) := by decide +kernel
theorem dX8_wrong_17 : decode cX8_wrong 17 = .ok (.iload_n 1, 1) := by decide +kernel
theorem dX8_wrong_18 : decode cX8_wrong 18 = .ok (.i2l, 1) := by decide +kernel
theorem dX8_wrong_19 : decode cX8_wrong 19 = .ok (.lconst 0, 1) := by decide +kernel
theorem dX8_wrong_20 : decode cX8_wrong 20 = .ok (.aload_n 0, 1) := by decide +kernel
theorem dX8_wrong_21 : decode cX8_wrong 21 = .ok (.getfield 211, 3) := by decide +kernel
theorem dX8_wrong_24 : decode cX8_wrong 24 = .ok (.iconst 1, 1) := by decide +kernel
theorem dX8_wrong_25 : decode cX8_wrong 25 = .ok (.isub, 1) := by decide +kernel
theorem dX8_wrong_26 : decode cX8_wrong 26 = .ok (.i2l, 1) := by decide +kernel
theorem dX8_wrong_27 : decode cX8_wrong 27 = .ok (.invokestatic 64, 3) := by decide +kernel
theorem dX8_wrong_30 : decode cX8_wrong 30 = .ok (.ifCond .ne 7, 3) := by decide +kernel
theorem dX8_wrong_33 : decode cX8_wrong 33 = .ok (.iconst (-1), 1) := by decide +kernel
theorem dX8_wrong_34 : decode cX8_wrong 34 = .ok (.goto 22, 3) := by decide +kernel
theorem dX8_wrong_37 : decode cX8_wrong 37 = .ok (.iload_n 2, 1) := by decide +kernel
theorem dX8_wrong_38 : decode cX8_wrong 38 = .ok (.ifCond .ne 12, 3) := by decide +kernel
theorem dX8_wrong_41 : decode cX8_wrong 41 = .ok (.aload_n 0, 1) := by decide +kernel
theorem dX8_wrong_42 : decode cX8_wrong 42 = .ok (.getfield 43, 3) := by decide +kernel
theorem dX8_wrong_45 : decode cX8_wrong 45 = .ok (.iload_n 1, 1) := by decide +kernel
theorem dX8_wrong_46 : decode cX8_wrong 46 = .ok (.iaload, 1) := by decide +kernel
theorem dX8_wrong_47 : decode cX8_wrong 47 = .ok (.goto 9, 3) := by decide +kernel
theorem dX8_wrong_50 : decode cX8_wrong 50 = .ok (.aload_n 0, 1) := by decide +kernel
theorem dX8_wrong_51 : decode cX8_wrong 51 = .ok (.getfield 46, 3) := by decide +kernel
theorem dX8_wrong_54 : decode cX8_wrong 54 = .ok (.iload_n 1, 1) := by decide +kernel
theorem dX8_wrong_55 : decode cX8_wrong 55 = .ok (.iaload, 1) := by decide +kernel
theorem dX8_wrong_56 : decode cX8_wrong 56 = .ok (.ireturn, 1) := by decide +kernel
theorem dX8_mend_0 : decode cX8_mend 0 = .ok (.aload_n 0, 1) := by decide +kernel
theorem dX8_mend_1 : decode cX8_mend 1 = .ok (.invokevirtual 217, 3) := by decide +kernel
theorem dX8_mend_4 : decode cX8_mend 4 = .ok (.iload_n 1, 1) := by decide +kernel
theorem dX8_mend_5 : decode cX8_mend 5 = .ok (.i2l, 1) := by decide +kernel
theorem dX8_mend_6 : decode cX8_mend 6 = .ok (.lconst 0, 1) := by decide +kernel
theorem dX8_mend_7 : decode cX8_mend 7 = .ok (.aload_n 0, 1) := by decide +kernel
theorem dX8_mend_8 : decode cX8_mend 8 = .ok (.getfield 211, 3) := by decide +kernel
theorem dX8_mend_11 : decode cX8_mend 11 = .ok (.iconst 1, 1) := by decide +kernel
theorem dX8_mend_12 : decode cX8_mend 12 = .ok (.isub, 1) := by decide +kernel
theorem dX8_mend_13 : decode cX8_mend 13 = .ok (.i2l, 1) := by decide +kernel
theorem dX8_mend_14 : decode cX8_mend 14 = .ok (.invokestatic 64, 3) := by decide +kernel
theorem dX8_mend_17 : decode cX8_mend 17 = .ok (.ifCond .ne 6, 3) := by decide +kernel
theorem dX8_mend_20 : decode cX8_mend 20 = .ok (.bipush (-101), 2) := by decide +kernel
theorem dX8_mend_22 : decode cX8_mend 22 = .ok (.ireturn, 1) := by decide +kernel
theorem dX8_mend_23 : decode cX8_mend 23 = .ok (.aload_n 0, 1) := by decide +kernel
theorem dX8_mend_24 : decode cX8_mend 24 = .ok (.getfield 43, 3) := by decide +kernel
theorem dX8_mend_27 : decode cX8_mend 27 = .ok (.iload_n 1, 1) := by decide +kernel
theorem dX8_mend_28 : decode cX8_mend 28 = .ok (.iaload, 1) := by decide +kernel
theorem dX8_mend_29 : decode cX8_mend 29 = .ok (.istore_n 2, 1) := by decide +kernel
theorem dX8_mend_30 : decode cX8_mend 30 = .ok (.aload_n 0, 1) := by decide +kernel
theorem dX8_mend_31 : decode cX8_mend 31 = .ok (.getfield 46, 3) := by decide +kernel
theorem dX8_mend_34 : decode cX8_mend 34 = .ok (.iload_n 1, 1) := by decide +kernel
theorem dX8_mend_35 : decode cX8_mend 35 = .ok (.iaload, 1) := by decide +kernel
theorem dX8_mend_36 : decode cX8_mend 36 = .ok (.tableswitch 120 0 5 #[40, 40, 67, 120, 120, 109], 40) := by decide +kernel
theorem dX8_mend_76 : decode cX8_mend 76 = .ok (.aload_n 0, 1) := by decide +kernel
theorem dX8_mend_77 : decode cX8_mend 77 = .ok (.iload_n 2, 1) := by decide +kernel
theorem dX8_mend_78 : decode cX8_mend 78 = .ok (.iconst 3, 1) := by decide +kernel
theorem dX8_mend_79 : decode cX8_mend 79 = .ok (.iconst (-1), 1) := by decide +kernel
theorem dX8_mend_80 : decode cX8_mend 80 = .ok (.invokevirtual 60, 3) := by decide +kernel
theorem dX8_mend_83 : decode cX8_mend 83 = .ok (.aload_n 0, 1) := by decide +kernel
theorem dX8_mend_84 : decode cX8_mend 84 = .ok (.iload_n 2, 1) := by decide +kernel
theorem dX8_mend_85 : decode cX8_mend 85 = .ok (.iconst 4, 1) := by decide +kernel
theorem dX8_mend_86 : decode cX8_mend 86 = .ok (.iconst (-1), 1) := by decide +kernel
theorem dX8_mend_87 : decode cX8_mend 87 = .ok (.invokevirtual 60, 3) := by decide +kernel
theorem dX8_mend_90 : decode cX8_mend 90 = .ok (.aload_n 0, 1) := by decide +kernel
theorem dX8_mend_91 : decode cX8_mend 91 = .ok (.iload_n 2, 1) := by decide +kernel
theorem dX8_mend_92 : decode cX8_mend 92 = .ok (.iconst 1, 1) := by decide +kernel
theorem dX8_mend_93 : decode cX8_mend 93 = .ok (.ldc 220, 2) := by decide +kernel
theorem dX8_mend_95 : decode cX8_mend 95 = .ok (.iload_n 2, 1) := by decide +kernel
theorem dX8_mend_96 : decode cX8_mend 96 = .ok (.iadd, 1) := by decide +kernel
theorem dX8_mend_97 : decode cX8_mend 97 = .ok (.invokevirtual 60, 3) := by decide +kernel
theorem dX8_mend_100 : decode cX8_mend 100 = .ok (.goto 59, 3) := by decide +kernel
theorem dX8_mend_103 : decode cX8_mend 103 = .ok (.aload_n 0, 1) := by decide +kernel
theorem dX8_mend_104 : decode cX8_mend 104 = .ok (.iload_n 2, 1) := by decide +kernel
theorem dX8_mend_105 : decode cX8_mend 105 = .ok (.bipush 16, 2) := by decide +kernel
theorem dX8_mend_107 : decode cX8_mend 107 = .ok (.ldc 63, 2) := by decide +kernel
theorem dX8_mend_109 : decode cX8_mend 109 = .ok (.aload_n 0, 1) := by decide +kernel
theorem dX8_mend_110 : decode cX8_mend 110 = .ok (.iload_n 2, 1) := by decide +kernel
theorem dX8_mend_111 : decode cX8_mend 111 = .ok (.bipush 17, 2) := by decide +kernel
theorem dX8_mend_113 : decode cX8_mend 113 = .ok (.invokevirtual 74, 3) := by decide +kernel
theorem dX8_mend_116 : decode cX8_mend 116 = .ok (.invokestatic 125, 3) := by decide +kernel
theorem dX8_mend_119 : decode cX8_mend 119 = .ok (.iconst 0, 1) := by decide +kernel
theorem dX8_mend_120 : decode cX8_mend 120 = .ok (.aload_n 0, 1) := by decide +kernel
theorem dX8_mend_121 : decode cX8_mend 121 = .ok (.iload_n 2, 1) := by decide +kernel
theorem dX8_mend_122 : decode cX8_mend 122 = .ok (.bipush 17, 2) := by decide +kernel
theorem dX8_mend_124 : decode cX8_mend 124 = .ok (.invokevirtual 74, 3) := by decide +kernel
theorem dX8_mend_127 : decode cX8_mend 127 = .ok (.invokestatic 125, 3) := by decide +kernel
theorem dX8_mend_130 : decode cX8_mend 130 = .ok (.if_icmp .le 8, 3) := by decide +kernel
theorem dX8_mend_133 : decode cX8_mend 133 = .ok (.ldc 63, 2) := by decide +kernel
theorem dX8_mend_135 : decode cX8_mend 135 = .ok (.goto 4, 3) := by decide +kernel
theorem dX8_mend_138 : decode cX8_mend 138 = .ok (.iconst 0, 1) := by decide +kernel
theorem dX8_mend_139 : decode cX8_mend 139 = .ok (.invokevirtual 60, 3) := by decide +kernel
theorem dX8_mend_142 : decode cX8_mend 142 = .ok (.goto 17, 3) := by decide +kernel
theorem dX8_mend_145 : decode cX8_mend 145 = .ok (.aload_n 0, 1) := by decide +kernel
theorem dX8_mend_146 : decode cX8_mend 146 = .ok (.iload_n 2, 1) := by decide +kernel
theorem dX8_mend_147 : decode cX8_mend 147 = .ok (.bipush 9, 2) := by decide +kernel
theorem dX8_mend_149 : decode cX8_mend 149 = .ok (.iconst 1, 1) := by decide +kernel
theorem dX8_mend_150 : decode cX8_mend 150 = .ok (.invokevirtual 60, 3) := by decide +kernel
theorem dX8_mend_153 : decode cX8_mend 153 = .ok (.goto 6, 3) := by decide +kernel
theorem dX8_mend_156 : decode cX8_mend 156 = .ok (.bipush (-103), 2) := by decide +kernel
theorem dX8_mend_158 : decode cX8_mend 158 = .ok (.ireturn, 1) := by decide +kernel
theorem dX8_mend_159 : decode cX8_mend 159 = .ok (.aload_n 0, 1) := by decide +kernel
theorem dX8_mend_160 : decode cX8_mend 160 = .ok (.invokevirtual 221, 3) := by decide +kernel
theorem dX8_mend_163 : decode cX8_mend 163 = .ok (.ireturn, 1) := by decide +kernel
theorem dX8_count_0 : decode cX8_count 0 = .ok (.iconst 0, 1) := by decide +kernel
theorem dX8_count_1 : decode cX8_count 1 = .ok (.istore_n 2, 1) := by decide +kernel
theorem dX8_count_2 : decode cX8_count 2 = .ok (.iload_n 1, 1) := by decide +kernel
theorem dX8_count_3 : decode cX8_count 3 = .ok (.tableswitch 105 0 5 #[37, 42, 76, 86, 95, 100], 37) := by decide +kernel
theorem dX8_count_40 : decode cX8_count 40 = .ok (.aload_n 0, 1) := by decide +kernel
theorem dX8_count_41 : decode cX8_count 41 = .ok (.getfield 57, 3) := by decide +kernel
theorem dX8_count_44 : decode cX8_count 44 = .ok (.ireturn, 1) := by decide +kernel
theorem dX8_count_45 : decode cX8_count 45 = .ok (.iconst 0, 1) := by decide +kernel
theorem dX8_count_46 : decode cX8_count 46 = .ok (.istore_n 3, 1) := by decide +kernel
theorem dX8_count_47 : decode cX8_count 47 = .ok (.iload_n 3, 1) := by decide +kernel
theorem dX8_count_48 : decode cX8_count 48 = .ok (.aload_n 0, 1) := by decide +kernel
theorem dX8_count_49 : decode cX8_count 49 = .ok (.getfield 57, 3) := by decide +kernel
theorem dX8_count_52 : decode cX8_count 52 = .ok (.if_icmp .ge 25, 3) := by decide +kernel
theorem dX8_count_55 : decode cX8_count 55 = .ok (.iload_n 2, 1) := by decide +kernel
theorem dX8_count_56 : decode cX8_count 56 = .ok (.aload_n 0, 1) := by decide +kernel
theorem dX8_count_57 : decode cX8_count 57 = .ok (.iload_n 3, 1) := by decide +kernel
theorem dX8_count_58 : decode cX8_count 58 = .ok (.invokevirtual 89, 3) := by decide +kernel
theorem dX8_count_61 : decode cX8_count 61 = .ok (.ifCond .eq 7, 3) := by decide +kernel
theorem dX8_count_64 : decode cX8_count 64 = .ok (.iconst 1, 1) := by decide +kernel
theorem dX8_count_65 : decode cX8_count 65 = .ok (.goto 4, 3) := by decide +kernel
theorem dX8_count_68 : decode cX8_count 68 = .ok (.iconst 0, 1) := by decide +kernel
theorem dX8_count_69 : decode cX8_count 69 = .ok (.iadd, 1) := by decide +kernel
theorem dX8_count_70 : decode cX8_count 70 = .ok (.istore_n 2, 1) := by decide +kernel
theorem dX8_count_71 : decode cX8_count 71 = .ok (.iinc 3 1, 3) := by decide +kernel
theorem dX8_count_74 : decode cX8_count 74 = .ok (.goto (-27), 3) := by decide +kernel
theorem dX8_count_77 : decode cX8_count 77 = .ok (.iload_n 2, 1) := by decide +kernel
theorem dX8_count_78 : decode cX8_count 78 = .ok (.ireturn, 1) := by decide +kernel
theorem dX8_count_79 : decode cX8_count 79 = .ok (.aload_n 0, 1) := by decide +kernel
theorem dX8_count_80 : decode cX8_count 80 = .ok (.iconst (-1), 1) := by decide +kernel
theorem dX8_count_81 : decode cX8_count 81 = .ok (.invokevirtual 162, 3) := by decide +kernel
theorem dX8_count_84 : decode cX8_count 84 = .ok (.aload_n 0, 1) := by decide +kernel
theorem dX8_count_85 : decode cX8_count 85 = .ok (.getfield 156, 3) := by decide +kernel
theorem dX8_count_88 : decode cX8_count 88 = .ok (.ireturn, 1) := by decide +kernel
theorem dX8_count_89 : decode cX8_count 89 = .ok (.aload_n 0, 1) := by decide +kernel
theorem dX8_count_90 : decode cX8_count 90 = .ok (.invokevirtual 144, 3) := by decide +kernel
theorem dX8_count_93 : decode cX8_count 93 = .ok (.aload_n 0, 1) := by decide +kernel
theorem dX8_count_94 : decode cX8_count 94 = .ok (.getfield 141, 3) := by decide +kernel
theorem dX8_count_97 : decode cX8_count 97 = .ok (.ireturn, 1) := by decide +kernel
theorem dX8_count_98 : decode cX8_count 98 = .ok (.aload_n 0, 1) := by decide +kernel
theorem dX8_count_99 : decode cX8_count 99 = .ok (.getfield 92, 3) := by decide +kernel
theorem dX8_count_102 : decode cX8_count 102 = .ok (.ireturn, 1) := by decide +kernel
theorem dX8_count_103 : decode cX8_count 103 = .ok (.aload_n 0, 1) := by decide +kernel
theorem dX8_count_104 : decode cX8_count 104 = .ok (.invokevirtual 224, 3) := by decide +kernel
theorem dX8_count_107 : decode cX8_count 107 = .ok (.ireturn, 1) := by decide +kernel
theorem dX8_count_108 : decode cX8_count 108 = .ok (.bipush (-102), 2) := by decide +kernel
theorem dX8_count_110 : decode cX8_count 110 = .ok (.ireturn, 1) := by decide +kernel
theorem dX8_digest_0 : decode cX8_digest 0 = .ok (.ldc2_w 227, 3) := by decide +kernel
theorem dX8_digest_3 : decode cX8_digest 3 = .ok (.lstore_n 1, 1) := by decide +kernel
theorem dX8_digest_4 : decode cX8_digest 4 = .ok (.iconst 0, 1) := by decide +kernel
theorem dX8_digest_5 : decode cX8_digest 5 = .ok (.istore_n 3, 1) := by decide +kernel
theorem dX8_digest_6 : decode cX8_digest 6 = .ok (.iload_n 3, 1) := by decide +kernel
theorem dX8_digest_7 : decode cX8_digest 7 = .ok (.aload_n 0, 1) := by decide +kernel
theorem dX8_digest_8 : decode cX8_digest 8 = .ok (.getfield 57, 3) := by decide +kernel
theorem dX8_digest_11 : decode cX8_digest 11 = .ok (.if_icmp .ge 40, 3) := by decide +kernel
theorem dX8_digest_14 : decode cX8_digest 14 = .ok (.iconst 0, 1) := by decide +kernel
theorem dX8_digest_15 : decode cX8_digest 15 = .ok (.istore 4, 2) := by decide +kernel
theorem dX8_digest_17 : decode cX8_digest 17 = .ok (.iload 4, 2) := by decide +kernel
theorem dX8_digest_19 : decode cX8_digest 19 = .ok (.bipush 18, 2) := by decide +kernel
theorem dX8_digest_21 : decode cX8_digest 21 = .ok (.if_icmp .ge 24, 3) := by decide +kernel
theorem dX8_digest_24 : decode cX8_digest 24 = .ok (.ldc2_w 229, 3) := by decide +kernel
theorem dX8_digest_27 : decode cX8_digest 27 = .ok (.lload_n 1, 1) := by decide +kernel
theorem dX8_digest_28 : decode cX8_digest 28 = .ok (.lmul, 1) := by decide +kernel
theorem dX8_digest_29 : decode cX8_digest 29 = .ok (.aload_n 0, 1) := by decide +kernel
theorem dX8_digest_30 : decode cX8_digest 30 = .ok (.iload_n 3, 1) := by decide +kernel
theorem dX8_digest_31 : decode cX8_digest 31 = .ok (.iload 4, 2) := by decide +kernel
theorem dX8_digest_33 : decode cX8_digest 33 = .ok (.invokevirtual 74, 3) := by decide +kernel
theorem dX8_digest_36 : decode cX8_digest 36 = .ok (.i2l, 1) := by decide +kernel
theorem dX8_digest_37 : decode cX8_digest 37 = .ok (.ladd, 1) := by decide +kernel
theorem dX8_digest_38 : decode cX8_digest 38 = .ok (.lstore_n 1, 1) := by decide +kernel
theorem dX8_digest_39 : decode cX8_digest 39 = .ok (.iinc 4 1, 3) := by decide +kernel
theorem dX8_digest_42 : decode cX8_digest 42 = .ok (.goto (-25), 3) := by decide +kernel
theorem dX8_digest_45 : decode cX8_digest 45 = .ok (.iinc 3 1, 3) := by decide +kernel
theorem dX8_digest_48 : decode cX8_digest 48 = .ok (.goto (-42), 3) := by decide +kernel
theorem dX8_digest_51 : decode cX8_digest 51 = .ok (.ldc2_w 229, 3) := by decide +kernel
theorem dX8_digest_54 : decode cX8_digest 54 = .ok (.lload_n 1, 1) := by decide +kernel
theorem dX8_digest_55 : decode cX8_digest 55 = .ok (.lmul, 1) := by decide +kernel
theorem dX8_digest_56 : decode cX8_digest 56 = .ok (.aload_n 0, 1) := by decide +kernel
theorem dX8_digest_57 : decode cX8_digest 57 = .ok (.getfield 49, 3) := by decide +kernel
theorem dX8_digest_60 : decode cX8_digest 60 = .ok (.i2l, 1) := by decide +kernel
theorem dX8_digest_61 : decode cX8_digest 61 = .ok (.ladd, 1) := by decide +kernel
theorem dX8_digest_62 : decode cX8_digest 62 = .ok (.lstore_n 1, 1) := by decide +kernel
theorem dX8_digest_63 : decode cX8_digest 63 = .ok (.iconst 0, 1) := by decide +kernel
theorem dX8_digest_64 : decode cX8_digest 64 = .ok (.istore_n 3, 1) := by decide +kernel
theorem dX8_digest_65 : decode cX8_digest 65 = .ok (.iload_n 3, 1) := by decide +kernel
theorem dX8_digest_66 : decode cX8_digest 66 = .ok (.aload_n 0, 1) := by decide +kernel
theorem dX8_digest_67 : decode cX8_digest 67 = .ok (.getfield 92, 3) := by decide +kernel
theorem dX8_digest_70 : decode cX8_digest 70 = .ok (.if_icmp .ge 23, 3) := by decide +kernel
theorem dX8_digest_73 : decode cX8_digest 73 = .ok (.ldc2_w 229, 3) := by decide +kernel
theorem dX8_digest_76 : decode cX8_digest 76 = .ok (.lload_n 1, 1) := by decide +kernel
theorem dX8_digest_77 : decode cX8_digest 77 = .ok (.lmul, 1) := by decide +kernel
theorem dX8_digest_78 : decode cX8_digest 78 = .ok (.aload_n 0, 1) := by decide +kernel
theorem dX8_digest_79 : decode cX8_digest 79 = .ok (.getfield 13, 3) := by decide +kernel
theorem dX8_digest_82 : decode cX8_digest 82 = .ok (.iload_n 3, 1) := by decide +kernel
theorem dX8_digest_83 : decode cX8_digest 83 = .ok (.iaload, 1) := by decide +kernel
theorem dX8_digest_84 : decode cX8_digest 84 = .ok (.i2l, 1) := by decide +kernel
theorem dX8_digest_85 : decode cX8_digest 85 = .ok (.ladd, 1) := by decide +kernel
theorem dX8_digest_86 : decode cX8_digest 86 = .ok (.lstore_n 1, 1) := by decide +kernel
theorem dX8_digest_87 : decode cX8_digest 87 = .ok (.iinc 3 1, 3) := by decide +kernel
theorem dX8_digest_90 : decode cX8_digest 90 = .ok (.goto (-25), 3) := by decide +kernel
theorem dX8_digest_93 : decode cX8_digest 93 = .ok (.ldc2_w 229, 3) := by decide +kernel
theorem dX8_digest_96 : decode cX8_digest 96 = .ok (.lload_n 1, 1) := by decide +kernel
theorem dX8_digest_97 : decode cX8_digest 97 = .ok (.lmul, 1) := by decide +kernel
theorem dX8_digest_98 : decode cX8_digest 98 = .ok (.aload_n 0, 1) := by decide +kernel
theorem dX8_digest_99 : decode cX8_digest 99 = .ok (.invokevirtual 221, 3) := by decide +kernel
theorem dX8_digest_102 : decode cX8_digest 102 = .ok (.i2l, 1) := by decide +kernel
theorem dX8_digest_103 : decode cX8_digest 103 = .ok (.ladd, 1) := by decide +kernel
theorem dX8_digest_104 : decode cX8_digest 104 = .ok (.lreturn, 1) := by decide +kernel
