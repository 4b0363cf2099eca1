theorem dX0_init_0 : decode cX0_init 0 = .ok (.aload_n 0, 1) := by decide +kernel
theorem dX0_init_1 : decode cX0_init 1 = .ok (.invokespecial 3, 3) := by decide +kernel
theorem dX0_init_4 : decode cX0_init 4 = .ok (.aload_n 0, 1) := by decide +kernel
theorem dX0_init_5 : decode cX0_init 5 = .ok (.sipush 144, 3) := by decide +kernel
theorem dX0_init_8 : decode cX0_init 8 = .ok (.newarray .int, 2) := by decide +kernel
theorem dX0_init_10 : decode cX0_init 10 = .ok (.putfield 9, 3) := by decide +kernel
theorem dX0_init_13 : decode cX0_init 13 = .ok (.aload_n 0, 1) := by decide +kernel
theorem dX0_init_14 : decode cX0_init 14 = .ok (.sipush 144, 3) := by decide +kernel
theorem dX0_init_17 : decode cX0_init 17 = .ok (.newarray .int, 2) := by decide +kernel
theorem dX0_init_19 : decode cX0_init 19 = .ok (.putfield 15, 3) := by decide +kernel
theorem dX0_init_22 : decode cX0_init 22 = .ok (.aload_n 0, 1) := by decide +kernel
theorem dX0_init_23 : decode cX0_init 23 = .ok (.aload_n 1, 1) := by decide +kernel
theorem dX0_init_24 : decode cX0_init 24 = .ok (.putfield 18, 3) := by decide +kernel
theorem dX0_init_27 : decode cX0_init 27 = .ok (.aload_n 0, 1) := by decide +kernel
theorem dX0_init_28 : decode cX0_init 28 = .ok (.aload_n 2, 1) := by decide +kernel
theorem dX0_init_29 : decode cX0_init 29 = .ok (.putfield 22, 3) := by decide +kernel
theorem dX0_init_32 : decode cX0_init 32 = .ok (.aload_n 0, 1) := by decide +kernel
theorem dX0_init_33 : decode cX0_init 33 = .ok (.aload_n 3, 1) := by decide +kernel
theorem dX0_init_34 : decode cX0_init 34 = .ok (.putfield 26, 3) := by decide +kernel
theorem dX0_init_37 : decode cX0_init 37 = .ok (.aload_n 0, 1) := by decide +kernel
theorem dX0_init_38 : decode cX0_init 38 = .ok (.iconst 0, 1) := by decide +kernel
theorem dX0_init_39 : decode cX0_init 39 = .ok (.putfield 30, 3) := by decide +kernel
theorem dX0_init_42 : decode cX0_init 42 = .ok (.return_, 1) := by decide +kernel
theorem dX0_gather_0 : decode cX0_gather 0 = .ok (.aload_n 0, 1) := by decide +kernel
theorem dX0_gather_1 : decode cX0_gather 1 = .ok (.getfield 18, 3) := by decide +kernel
theorem dX0_gather_4 : decode cX0_gather 4 = .ok (.invokevirtual 34, 3) := by decide +kernel
theorem dX0_gather_7 : decode cX0_gather 7 = .ok (.istore_n 1, 1) := by decide +kernel
theorem dX0_gather_8 : decode cX0_gather 8 = .ok (.aload_n 0, 1) := by decide +kernel
theorem dX0_gather_9 : decode cX0_gather 9 = .ok (.getfield 26, 3) := by decide +kernel
theorem dX0_gather_12 : decode cX0_gather 12 = .ok (.iload_n 1, 1) := by decide +kernel
theorem dX0_gather_13 : decode cX0_gather 13 = .ok (.invokevirtual 40, 3) := by decide +kernel
theorem dX0_gather_16 : decode cX0_gather 16 = .ok (.aload_n 0, 1) := by decide +kernel
theorem dX0_gather_17 : decode cX0_gather 17 = .ok (.getfield 26, 3) := by decide +kernel
theorem dX0_gather_20 : decode cX0_gather 20 = .ok (.invokevirtual 46, 3) := by decide +kernel
theorem dX0_gather_23 : decode cX0_gather 23 = .ok (.aload_n 0, 1) := by decide +kernel
theorem dX0_gather_24 : decode cX0_gather 24 = .ok (.iconst 0, 1) := by decide +kernel
theorem dX0_gather_25 : decode cX0_gather 25 = .ok (.putfield 30, 3) := by decide +kernel
theorem dX0_gather_28 : decode cX0_gather 28 = .ok (.iconst 0, 1) := by decide +kernel
theorem dX0_gather_29 : decode cX0_gather 29 = .ok (.istore_n 2, 1) := by decide +kernel
theorem dX0_gather_30 : decode cX0_gather 30 = .ok (.iload_n 2, 1) := by decide +kernel
theorem dX0_gather_31 : decode cX0_gather 31 = .ok (.aload_n 0, 1) := by decide +kernel
theorem dX0_gather_32 : decode cX0_gather 32 = .ok (.getfield 18, 3) := by decide +kernel
theorem dX0_gather_35 : decode cX0_gather 35 = .ok (.getfield 49, 3) := by decide +kernel
theorem dX0_gather_38 : decode cX0_gather 38 = .ok (.if_icmp .ge 80, 3) := by decide +kernel
theorem dX0_gather_41 : decode cX0_gather 41 = .ok (.aload_n 0, 1) := by decide +kernel
theorem dX0_gather_42 : decode cX0_gather 42 = .ok (.getfield 22, 3) := by decide +kernel
theorem dX0_gather_45 : decode cX0_gather 45 = .ok (.iload_n 2, 1) := by decide +kernel
theorem dX0_gather_46 : decode cX0_gather 46 = .ok (.iload_n 1, 1) := by decide +kernel
theorem dX0_gather_47 : decode cX0_gather 47 = .ok (.invokevirtual 50, 3) := by decide +kernel
theorem dX0_gather_50 : decode cX0_gather 50 = .ok (.iconst 0, 1) := by decide +kernel
theorem dX0_gather_51 : decode cX0_gather 51 = .ok (.istore_n 3, 1) := by decide +kernel
theorem dX0_gather_52 : decode cX0_gather 52 = .ok (.iload_n 3, 1) := by decide +kernel
theorem dX0_gather_53 : decode cX0_gather 53 = .ok (.bipush 6, 2) := by decide +kernel
theorem dX0_gather_55 : decode cX0_gather 55 = .ok (.if_icmp .ge 57, 3) := by decide +kernel
theorem dX0_gather_58 : decode cX0_gather 58 = .ok (.iload_n 1, 1) := by decide +kernel
theorem dX0_gather_59 : decode cX0_gather 59 = .ok (.iload_n 2, 1) := by decide +kernel
theorem dX0_gather_60 : decode cX0_gather 60 = .ok (.invokestatic 56, 3) := by decide +kernel
theorem dX0_gather_63 : decode cX0_gather 63 = .ok (.ifCond .eq 43, 3) := by decide +kernel
theorem dX0_gather_66 : decode cX0_gather 66 = .ok (.aload_n 0, 1) := by decide +kernel
theorem dX0_gather_67 : decode cX0_gather 67 = .ok (.iload_n 2, 1) := by decide +kernel
theorem dX0_gather_68 : decode cX0_gather 68 = .ok (.iload_n 3, 1) := by decide +kernel
theorem dX0_gather_69 : decode cX0_gather 69 = .ok (.iload_n 1, 1) := by decide +kernel
theorem dX0_gather_70 : decode cX0_gather 70 = .ok (.invokevirtual 60, 3) := by decide +kernel
theorem dX0_gather_73 : decode cX0_gather 73 = .ok (.ifCond .eq 33, 3) := by decide +kernel
theorem dX0_gather_76 : decode cX0_gather 76 = .ok (.aload_n 0, 1) := by decide +kernel
theorem dX0_gather_77 : decode cX0_gather 77 = .ok (.getfield 9, 3) := by decide +kernel
theorem dX0_gather_80 : decode cX0_gather 80 = .ok (.aload_n 0, 1) := by decide +kernel
theorem dX0_gather_81 : decode cX0_gather 81 = .ok (.getfield 30, 3) := by decide +kernel
theorem dX0_gather_84 : decode cX0_gather 84 = .ok (.iload_n 2, 1) := by decide +kernel
theorem dX0_gather_85 : decode cX0_gather 85 = .ok (.iastore, 1) := by decide +kernel
theorem dX0_gather_86 : decode cX0_gather 86 = .ok (.aload_n 0, 1) := by decide +kernel
theorem dX0_gather_87 : decode cX0_gather 87 = .ok (.getfield 15, 3) := by decide +kernel
theorem dX0_gather_90 : decode cX0_gather 90 = .ok (.aload_n 0, 1) := by decide +kernel
theorem dX0_gather_91 : decode cX0_gather 91 = .ok (.getfield 30, 3) := by decide +kernel
theorem dX0_gather_94 : decode cX0_gather 94 = .ok (.iload_n 3, 1) := by decide +kernel
theorem dX0_gather_95 : decode cX0_gather 95 = .ok (.iastore, 1) := by decide +kernel
theorem dX0_gather_96 : decode cX0_gather 96 = .ok (.aload_n 0, 1) := by decide +kernel
theorem dX0_gather_97 : decode cX0_gather 97 = .ok (.dup, 1) := by decide +kernel
theorem dX0_gather_98 : decode cX0_gather 98 = .ok (.getfield 30, 3) := by decide +kernel
theorem dX0_gather_101 : decode cX0_gather 101 = .ok (.iconst 1, 1) := by decide +kernel
theorem dX0_gather_102 : decode cX0_gather 102 = .ok (.iadd, 1) := by decide +kernel
theorem dX0_gather_103 : decode cX0_gather 103 = .ok (.putfield 30, 3) := by decide +kernel
theorem dX0_gather_106 : decode cX0_gather 106 = .ok (.iinc 3 1, 3) := by decide +kernel
theorem dX0_gather_109 : decode cX0_gather 109 = .ok (.goto (-57), 3) := by decide +kernel
theorem dX0_gather_112 : decode cX0_gather 112 = .ok (.iinc 2 1, 3) := by decide +kernel
theorem dX0_gather_115 : decode cX0_gather 115 = .ok (.goto (-85), 3) := by decide +kernel
theorem dX0_gather_118 : decode cX0_gather 118 = .ok (.return_, 1) := by decide +kernel
theorem dX0_hasFault_0 : decode cX0_hasFault 0 = .ok (.iload_n 2, 1) := by decide +kernel
theorem dX0_hasFault_1 : decode cX0_hasFault 1 = .ok (.tableswitch 95 0 4 #[35, 41, 48, 54, 83], 35) := by decide +kernel
theorem dX0_hasFault_36 : decode cX0_hasFault 36 = .ok (.aload_n 0, 1) := by decide +kernel
theorem dX0_hasFault_37 : decode cX0_hasFault 37 = .ok (.iload_n 1, 1) := by decide +kernel
theorem dX0_hasFault_38 : decode cX0_hasFault 38 = .ok (.invokevirtual 64, 3) := by decide +kernel
theorem dX0_hasFault_41 : decode cX0_hasFault 41 = .ok (.ireturn, 1) := by decide +kernel
theorem dX0_hasFault_42 : decode cX0_hasFault 42 = .ok (.aload_n 0, 1) := by decide +kernel
theorem dX0_hasFault_43 : decode cX0_hasFault 43 = .ok (.iload_n 1, 1) := by decide +kernel
theorem dX0_hasFault_44 : decode cX0_hasFault 44 = .ok (.iload_n 3, 1) := by decide +kernel
theorem dX0_hasFault_45 : decode cX0_hasFault 45 = .ok (.invokevirtual 68, 3) := by decide +kernel
theorem dX0_hasFault_48 : decode cX0_hasFault 48 = .ok (.ireturn, 1) := by decide +kernel
theorem dX0_hasFault_49 : decode cX0_hasFault 49 = .ok (.aload_n 0, 1) := by decide +kernel
theorem dX0_hasFault_50 : decode cX0_hasFault 50 = .ok (.iload_n 1, 1) := by decide +kernel
theorem dX0_hasFault_51 : decode cX0_hasFault 51 = .ok (.invokevirtual 71, 3) := by decide +kernel
theorem dX0_hasFault_54 : decode cX0_hasFault 54 = .ok (.ireturn, 1) := by decide +kernel
theorem dX0_hasFault_55 : decode cX0_hasFault 55 = .ok (.aload_n 0, 1) := by decide +kernel
theorem dX0_hasFault_56 : decode cX0_hasFault 56 = .ok (.getfield 18, 3) := by decide +kernel
theorem dX0_hasFault_59 : decode cX0_hasFault 59 = .ok (.iload_n 1, 1) := by decide +kernel
theorem dX0_hasFault_60 : decode cX0_hasFault 60 = .ok (.bipush 10, 2) := by decide +kernel
theorem dX0_hasFault_62 : decode cX0_hasFault 62 = .ok (.invokevirtual 74, 3) := by decide +kernel
theorem dX0_hasFault_65 : decode cX0_hasFault 65 = .ok (.iconst 5, 1) := by decide +kernel
theorem dX0_hasFault_66 : decode cX0_hasFault 66 = .ok (.if_icmp .ne 16, 3) := by decide +kernel
theorem dX0_hasFault_69 : decode cX0_hasFault 69 = .ok (.aload_n 0, 1) := by decide +kernel
theorem dX0_hasFault_70 : decode cX0_hasFault 70 = .ok (.iload_n 1, 1) := by decide +kernel
theorem dX0_hasFault_71 : decode cX0_hasFault 71 = .ok (.iload_n 3, 1) := by decide +kernel
theorem dX0_hasFault_72 : decode cX0_hasFault 72 = .ok (.invokevirtual 78, 3) := by decide +kernel
theorem dX0_hasFault_75 : decode cX0_hasFault 75 = .ok (.ifCond .eq 7, 3) := by decide +kernel
theorem dX0_hasFault_78 : decode cX0_hasFault 78 = .ok (.iconst 1, 1) := by decide +kernel
theorem dX0_hasFault_79 : decode cX0_hasFault 79 = .ok (.goto 4, 3) := by decide +kernel
theorem dX0_hasFault_82 : decode cX0_hasFault 82 = .ok (.iconst 0, 1) := by decide +kernel
theorem dX0_hasFault_83 : decode cX0_hasFault 83 = .ok (.ireturn, 1) := by decide +kernel
theorem dX0_hasFault_84 : decode cX0_hasFault 84 = .ok (.aload_n 0, 1) := by decide +kernel
theorem dX0_hasFault_85 : decode cX0_hasFault 85 = .ok (.getfield 26, 3) := by decide +kernel
theorem dX0_hasFault_88 : decode cX0_hasFault 88 = .ok (.getfield 81, 3) := by decide +kernel
theorem dX0_hasFault_91 : decode cX0_hasFault 91 = .ok (.iload_n 1, 1) := by decide +kernel
theorem dX0_hasFault_92 : decode cX0_hasFault 92 = .ok (.invokestatic 56, 3) := by decide +kernel
theorem dX0_hasFault_95 : decode cX0_hasFault 95 = .ok (.ireturn, 1) := by decide +kernel
theorem dX0_hasFault_96 : decode cX0_hasFault 96 = .ok (.aload_n 0, 1) := by decide +kernel
theorem dX0_hasFault_97 : decode cX0_hasFault 97 = .ok (.iload_n 1, 1) := by decide +kernel
theorem dX0_hasFault_98 : decode cX0_hasFault 98 = .ok (.invokevirtual 84, 3) := by decide +kernel
theorem dX0_hasFault_101 : decode cX0_hasFault 101 = .ok (.ireturn, 1) := by decide +kernel
theorem dX0_isNameless_0 : decode cX0_isNameless 0 = .ok (.aload_n 0, 1) := by decide +kernel
theorem dX0_isNameless_1 : decode cX0_isNameless 1 = .ok (.getfield 18, 3) := by decide +kernel
theorem dX0_isNameless_4 : decode cX0_isNameless 4 = .ok (.iload_n 1, 1) := by decide +kernel
theorem dX0_isNameless_5 : decode cX0_isNameless 5 = .ok (.bipush 10, 2) := by decide +kernel
theorem dX0_isNameless_7 : decode cX0_isNameless 7 = .ok (.invokevirtual 74, 3) := by decide +kernel
theorem dX0_isNameless_10 : decode cX0_isNameless 10 = .ok (.istore_n 2, 1) := by decide +kernel
theorem dX0_isNameless_11 : decode cX0_isNameless 11 = .ok (.aload_n 0, 1) := by decide +kernel
theorem dX0_isNameless_12 : decode cX0_isNameless 12 = .ok (.getfield 22, 3) := by decide +kernel
theorem dX0_isNameless_15 : decode cX0_isNameless 15 = .ok (.iload_n 1, 1) := by decide +kernel
theorem dX0_isNameless_16 : decode cX0_isNameless 16 = .ok (.invokevirtual 87, 3) := by decide +kernel
theorem dX0_isNameless_19 : decode cX0_isNameless 19 = .ok (.ifCond .ne 22, 3) := by decide +kernel
theorem dX0_isNameless_22 : decode cX0_isNameless 22 = .ok (.iload_n 2, 1) := by decide +kernel
theorem dX0_isNameless_23 : decode cX0_isNameless 23 = .ok (.iconst 2, 1) := by decide +kernel
theorem dX0_isNameless_24 : decode cX0_isNameless 24 = .ok (.if_icmp .eq 13, 3) := by decide +kernel
theorem dX0_isNameless_27 : decode cX0_isNameless 27 = .ok (.iload_n 2, 1) := by decide +kernel
theorem dX0_isNameless_28 : decode cX0_isNameless 28 = .ok (.iconst 3, 1) := by decide +kernel
theorem dX0_isNameless_29 : decode cX0_isNameless 29 = .ok (.if_icmp .eq 8, 3) := by decide +kernel
theorem dX0_isNameless_32 : decode cX0_isNameless 32 = .ok (.iload_n 2, 1) := by decide +kernel
theorem dX0_isNameless_33 : decode cX0_isNameless 33 = .ok (.iconst 4, 1) := by decide +kernel
theorem dX0_isNameless_34 : decode cX0_isNameless 34 = .ok (.if_icmp .ne 7, 3) := by decide +kernel
theorem dX0_isNameless_37 : decode cX0_isNameless 37 = .ok (.iconst 1, 1) := by decide +kernel
theorem dX0_isNameless_38 : decode cX0_isNameless 38 = .ok (.goto 4, 3) := by decide +kernel
theorem dX0_isNameless_41 : decode cX0_isNameless 41 = .ok (.iconst 0, 1) := by decide +kernel
theorem dX0_isNameless_42 : decode cX0_isNameless 42 = .ok (.ireturn, 1) := by decide +kernel
theorem dX0_isTwin_0 : decode cX0_isTwin 0 = .ok (.aload_n 0, 1) := by decide +kernel
theorem dX0_isTwin_1 : decode cX0_isTwin 1 = .ok (.getfield 18, 3) := by decide +kernel
theorem dX0_isTwin_4 : decode cX0_isTwin 4 = .ok (.iload_n 2, 1) := by decide +kernel
theorem dX0_isTwin_5 : decode cX0_isTwin 5 = .ok (.invokevirtual 91, 3) := by decide +kernel
theorem dX0_isTwin_8 : decode cX0_isTwin 8 = .ok (.istore_n 3, 1) := by decide +kernel
theorem dX0_isTwin_9 : decode cX0_isTwin 9 = .ok (.iload_n 3, 1) := by decide +kernel
theorem dX0_isTwin_10 : decode cX0_isTwin 10 = .ok (.iload_n 1, 1) := by decide +kernel
theorem dX0_isTwin_11 : decode cX0_isTwin 11 = .ok (.invokestatic 56, 3) := by decide +kernel
theorem dX0_isTwin_14 : decode cX0_isTwin 14 = .ok (.ifCond .eq 14, 3) := by decide +kernel
theorem dX0_isTwin_17 : decode cX0_isTwin 17 = .ok (.aload_n 0, 1) := by decide +kernel
theorem dX0_isTwin_18 : decode cX0_isTwin 18 = .ok (.getfield 22, 3) := by decide +kernel
theorem dX0_isTwin_21 : decode cX0_isTwin 21 = .ok (.iload_n 1, 1) := by decide +kernel
theorem dX0_isTwin_22 : decode cX0_isTwin 22 = .ok (.invokevirtual 87, 3) := by decide +kernel
theorem dX0_isTwin_25 : decode cX0_isTwin 25 = .ok (.ifCond .ne 5, 3) := by decide +kernel
theorem dX0_isTwin_28 : decode cX0_isTwin 28 = .ok (.iconst 0, 1) := by decide +kernel
theorem dX0_isTwin_29 : decode cX0_isTwin 29 = .ok (.ireturn, 1) := by decide +kernel
theorem dX0_isTwin_30 : decode cX0_isTwin 30 = .ok (.iconst 0, 1) := by decide +kernel
theorem dX0_isTwin_31 : decode cX0_isTwin 31 = .ok (.istore 4, 2) := by decide +kernel
theorem dX0_isTwin_33 : decode cX0_isTwin 33 = .ok (.iload 4, 2) := by decide +kernel
theorem dX0_isTwin_35 : decode cX0_isTwin 35 = .ok (.iload_n 1, 1) := by decide +kernel
theorem dX0_isTwin_36 : decode cX0_isTwin 36 = .ok (.if_icmp .ge 33, 3) := by decide +kernel
theorem dX0_isTwin_39 : decode cX0_isTwin 39 = .ok (.iload_n 3, 1) := by decide +kernel
theorem dX0_isTwin_40 : decode cX0_isTwin 40 = .ok (.iload 4, 2) := by decide +kernel
theorem dX0_isTwin_42 : decode cX0_isTwin 42 = .ok (.invokestatic 56, 3) := by decide +kernel
theorem dX0_isTwin_45 : decode cX0_isTwin 45 = .ok (.ifCond .eq 18, 3) := by decide +kernel
theorem dX0_isTwin_48 : decode cX0_isTwin 48 = .ok (.aload_n 0, 1) := by decide +kernel
theorem dX0_isTwin_49 : decode cX0_isTwin 49 = .ok (.getfield 22, 3) := by decide +kernel
theorem dX0_isTwin_52 : decode cX0_isTwin 52 = .ok (.iload_n 1, 1) := by decide +kernel
theorem dX0_isTwin_53 : decode cX0_isTwin 53 = .ok (.iload 4, 2) := by decide +kernel
theorem dX0_isTwin_55 : decode cX0_isTwin 55 = .ok (.invokevirtual 94, 3) := by decide +kernel
theorem dX0_isTwin_58 : decode cX0_isTwin 58 = .ok (.ifCond .eq 5, 3) := by decide +kernel
theorem dX0_isTwin_61 : decode cX0_isTwin 61 = .ok (.iconst 1, 1) := by decide +kernel
theorem dX0_isTwin_62 : decode cX0_isTwin 62 = .ok (.ireturn, 1) := by decide +kernel
theorem dX0_isTwin_63 : decode cX0_isTwin 63 = .ok (.iinc 4 1, 3) := by decide +kernel
theorem dX0_isTwin_66 : decode cX0_isTwin 66 = .ok (.goto (-33), 3) := by decide +kernel
theorem dX0_isTwin_69 : decode cX0_isTwin 69 = .ok (.iconst 0, 1) := by decide +kernel
theorem dX0_isTwin_70 : decode cX0_isTwin 70 = .ok (.ireturn, 1) := by decide +kernel
theorem dX0_isPale_0 : decode cX0_isPale 0 = .ok (.aload_n 0, 1) := by decide +kernel
theorem dX0_isPale_1 : decode cX0_isPale 1 = .ok (.getfield 18, 3) := by decide +kernel
theorem dX0_isPale_4 : decode cX0_isPale 4 = .ok (.iload_n 1, 1) := by decide +kernel
theorem dX0_isPale_5 : decode cX0_isPale 5 = .ok (.bipush 10, 2) := by decide +kernel
theorem dX0_isPale_7 : decode cX0_isPale 7 = .ok (.invokevirtual 74, 3) := by decide +kernel
theorem dX0_isPale_10 : decode cX0_isPale 10 = .ok (.istore_n 2, 1) := by decide +kernel
theorem dX0_isPale_11 : decode cX0_isPale 11 = .ok (.iload_n 2, 1) := by decide +kernel
theorem dX0_isPale_12 : decode cX0_isPale 12 = .ok (.iconst 1, 1) := by decide +kernel
theorem dX0_isPale_13 : decode cX0_isPale 13 = .ok (.if_icmp .ne 23, 3) := by decide +kernel
theorem dX0_isPale_16 : decode cX0_isPale 16 = .ok (.aload_n 0, 1) := by decide +kernel
theorem dX0_isPale_17 : decode cX0_isPale 17 = .ok (.getfield 18, 3) := by decide +kernel
theorem dX0_isPale_20 : decode cX0_isPale 20 = .ok (.iload_n 1, 1) := by decide +kernel
theorem dX0_isPale_21 : decode cX0_isPale 21 = .ok (.invokevirtual 97, 3) := by decide +kernel
theorem dX0_isPale_24 : decode cX0_isPale 24 = .ok (.sipush 4500, 3) := by decide +kernel
theorem dX0_isPale_27 : decode cX0_isPale 27 = .ok (.if_icmp .ge 7, 3) := by decide +kernel
theorem dX0_isPale_30 : decode cX0_isPale 30 = .ok (.iconst 1, 1) := by decide +kernel
theorem dX0_isPale_31 : decode cX0_isPale 31 = .ok (.goto 4, 3) := by decide +kernel
theorem dX0_isPale_34 : decode cX0_isPale 34 = .ok (.iconst 0, 1) := by decide +kernel
theorem dX0_isPale_35 : decode cX0_isPale 35 = .ok (.ireturn, 1) := by decide +kernel
theorem dX0_isPale_36 : decode cX0_isPale 36 = .ok (.iload_n 2, 1) := by decide +kernel
theorem dX0_isPale_37 : decode cX0_isPale 37 = .ok (.iconst 2, 1) := by decide +kernel
theorem dX0_isPale_38 : decode cX0_isPale 38 = .ok (.if_icmp .eq 8, 3) := by decide +kernel
theorem dX0_isPale_41 : decode cX0_isPale 41 = .ok (.iload_n 2, 1) := by decide +kernel
theorem dX0_isPale_42 : decode cX0_isPale 42 = .ok (.iconst 3, 1) := by decide +kernel
theorem dX0_isPale_43 : decode cX0_isPale 43 = .ok (.if_icmp .ne 21, 3) := by decide +kernel
theorem dX0_isPale_46 : decode cX0_isPale 46 = .ok (.aload_n 0, 1) := by decide +kernel
theorem dX0_isPale_47 : decode cX0_isPale 47 = .ok (.getfield 18, 3) := by decide +kernel
theorem dX0_isPale_50 : decode cX0_isPale 50 = .ok (.iload_n 1, 1) := by decide +kernel
theorem dX0_isPale_51 : decode cX0_isPale 51 = .ok (.invokevirtual 97, 3) := by decide +kernel
theorem dX0_isPale_54 : decode cX0_isPale 54 = .ok (.sipush 3000, 3) := by decide +kernel
theorem dX0_isPale_57 : decode cX0_isPale 57 = .ok (.if_icmp .ge 7, 3) := by decide +kernel
theorem dX0_isPale_60 : decode cX0_isPale 60 = .ok (.iconst 1, 1) := by decide +kernel
theorem dX0_isPale_61 : decode cX0_isPale 61 = .ok (.goto 4, 3) := by decide +kernel
theorem dX0_isPale_64 : decode cX0_isPale 64 = .ok (.iconst 0, 1) := by decide +kernel
theorem dX0_isPale_65 : decode cX0_isPale 65 = .ok (.ireturn, 1) := by decide +kernel
theorem dX0_isClosed_0 : decode cX0_isClosed 0 = .ok (.aload_n 0, 1) := by decide +kernel
theorem dX0_isClosed_1 : decode cX0_isClosed 1 = .ok (.getfield 18, 3) := by decide +kernel
theorem dX0_isClosed_4 : decode cX0_isClosed 4 = .ok (.iload_n 2, 1) := by decide +kernel
theorem dX0_isClosed_5 : decode cX0_isClosed 5 = .ok (.invokevirtual 91, 3) := by decide +kernel
theorem dX0_isClosed_8 : decode cX0_isClosed 8 = .ok (.aload_n 0, 1) := by decide +kernel
theorem dX0_isClosed_9 : decode cX0_isClosed 9 = .ok (.getfield 18, 3) := by decide +kernel
theorem dX0_isClosed_12 : decode cX0_isClosed 12 = .ok (.iload_n 1, 1) := by decide +kernel
theorem dX0_isClosed_13 : decode cX0_isClosed 13 = .ok (.invokevirtual 100, 3) := by decide +kernel
theorem dX0_isClosed_16 : decode cX0_isClosed 16 = .ok (.iand, 1) := by decide +kernel
theorem dX0_isClosed_17 : decode cX0_isClosed 17 = .ok (.istore_n 3, 1) := by decide +kernel
theorem dX0_isClosed_18 : decode cX0_isClosed 18 = .ok (.aload_n 0, 1) := by decide +kernel
theorem dX0_isClosed_19 : decode cX0_isClosed 19 = .ok (.getfield 18, 3) := by decide +kernel
theorem dX0_isClosed_22 : decode cX0_isClosed 22 = .ok (.iload_n 1, 1) := by decide +kernel
theorem dX0_isClosed_23 : decode cX0_isClosed 23 = .ok (.invokevirtual 103, 3) := by decide +kernel
theorem dX0_isClosed_26 : decode cX0_isClosed 26 = .ok (.iconst 1, 1) := by decide +kernel
theorem dX0_isClosed_27 : decode cX0_isClosed 27 = .ok (.iload_n 1, 1) := by decide +kernel
theorem dX0_isClosed_28 : decode cX0_isClosed 28 = .ok (.ishl, 1) := by decide +kernel
theorem dX0_isClosed_29 : decode cX0_isClosed 29 = .ok (.ior, 1) := by decide +kernel
theorem dX0_isClosed_30 : decode cX0_isClosed 30 = .ok (.istore 4, 2) := by decide +kernel
theorem dX0_isClosed_32 : decode cX0_isClosed 32 = .ok (.iconst 0, 1) := by decide +kernel
theorem dX0_isClosed_33 : decode cX0_isClosed 33 = .ok (.istore 5, 2) := by decide +kernel
theorem dX0_isClosed_35 : decode cX0_isClosed 35 = .ok (.iload 5, 2) := by decide +kernel
theorem dX0_isClosed_37 : decode cX0_isClosed 37 = .ok (.aload_n 0, 1) := by decide +kernel
theorem dX0_isClosed_38 : decode cX0_isClosed 38 = .ok (.getfield 18, 3) := by decide +kernel
theorem dX0_isClosed_41 : decode cX0_isClosed 41 = .ok (.getfield 49, 3) := by decide +kernel
theorem dX0_isClosed_44 : decode cX0_isClosed 44 = .ok (.if_icmp .ge 37, 3) := by decide +kernel
theorem dX0_isClosed_47 : decode cX0_isClosed 47 = .ok (.iload_n 3, 1) := by decide +kernel
theorem dX0_isClosed_48 : decode cX0_isClosed 48 = .ok (.iload 5, 2) := by decide +kernel
theorem dX0_isClosed_50 : decode cX0_isClosed 50 = .ok (.invokestatic 56, 3) := by decide +kernel
theorem dX0_isClosed_53 : decode cX0_isClosed 53 = .ok (.ifCond .eq 22, 3) := by decide +kernel
theorem dX0_isClosed_56 : decode cX0_isClosed 56 = .ok (.iload 4, 2) := by decide +kernel
theorem dX0_isClosed_58 : decode cX0_isClosed 58 = .ok (.aload_n 0, 1) := by decide +kernel
theorem dX0_isClosed_59 : decode cX0_isClosed 59 = .ok (.getfield 18, 3) := by decide +kernel
theorem dX0_isClosed_62 : decode cX0_isClosed 62 = .ok (.iload 5, 2) := by decide +kernel
theorem dX0_isClosed_64 : decode cX0_isClosed 64 = .ok (.invokevirtual 106, 3) := by decide +kernel
theorem dX0_isClosed_67 : decode cX0_isClosed 67 = .ok (.invokestatic 56, 3) := by decide +kernel
theorem dX0_isClosed_70 : decode cX0_isClosed 70 = .ok (.ifCond .eq 5, 3) := by decide +kernel
theorem dX0_isClosed_73 : decode cX0_isClosed 73 = .ok (.iconst 0, 1) := by decide +kernel
theorem dX0_isClosed_74 : decode cX0_isClosed 74 = .ok (.ireturn, 1) := by decide +kernel
theorem dX0_isClosed_75 : decode cX0_isClosed 75 = .ok (.iinc 5 1, 3) := by decide +kernel
theorem dX0_isClosed_78 : decode cX0_isClosed 78 = .ok (.goto (-43), 3) := by decide +kernel
theorem dX0_isClosed_81 : decode cX0_isClosed 81 = .ok (.iload_n 3, 1) := by decide +kernel
theorem dX0_isClosed_82 : decode cX0_isClosed 82 = .ok (.ifCond .eq 7, 3) := by decide +kernel
theorem dX0_isClosed_85 : decode cX0_isClosed 85 = .ok (.iconst 1, 1) := by decide +kernel
theorem dX0_isClosed_86 : decode cX0_isClosed 86 = .ok (.goto 4, 3) := by decide +kernel
theorem dX0_isClosed_89 : decode cX0_isClosed 89 = .ok (.iconst 0, 1) := by decide +kernel
theorem dX0_isClosed_90 : decode cX0_isClosed 90 = .ok (.ireturn, 1) := by decide +kernel
theorem dX0_isShort_0 : decode cX0_isShort 0 = .ok (.aload_n 0, 1) := by decide +kernel
theorem dX0_isShort_1 : decode cX0_isShort 1 = .ok (.getfield 18, 3) := by decide +kernel
theorem dX0_isShort_4 : decode cX0_isShort 4 = .ok (.iload_n 1, 1) := by decide +kernel
theorem dX0_isShort_5 : decode cX0_isShort 5 = .ok (.bipush 8, 2) := by decide +kernel
theorem dX0_isShort_7 : decode cX0_isShort 7 = .ok (.invokevirtual 74, 3) := by decide +kernel
theorem dX0_isShort_10 : decode cX0_isShort 10 = .ok (.istore_n 2, 1) := by decide +kernel
theorem dX0_isShort_11 : decode cX0_isShort 11 = .ok (.iload_n 2, 1) := by decide +kernel
theorem dX0_isShort_12 : decode cX0_isShort 12 = .ok (.ifCond .le 26, 3) := by decide +kernel
theorem dX0_isShort_15 : decode cX0_isShort 15 = .ok (.iload_n 2, 1) := by decide +kernel
theorem dX0_isShort_16 : decode cX0_isShort 16 = .ok (.bipush 20, 2) := by decide +kernel
theorem dX0_isShort_18 : decode cX0_isShort 18 = .ok (.if_icmp .ge 20, 3) := by decide +kernel
theorem dX0_isShort_21 : decode cX0_isShort 21 = .ok (.aload_n 0, 1) := by decide +kernel
theorem dX0_isShort_22 : decode cX0_isShort 22 = .ok (.getfield 18, 3) := by decide +kernel
theorem dX0_isShort_25 : decode cX0_isShort 25 = .ok (.iload_n 1, 1) := by decide +kernel
theorem dX0_isShort_26 : decode cX0_isShort 26 = .ok (.bipush 9, 2) := by decide +kernel
theorem dX0_isShort_28 : decode cX0_isShort 28 = .ok (.invokevirtual 74, 3) := by decide +kernel
theorem dX0_isShort_31 : decode cX0_isShort 31 = .ok (.ifCond .ne 7, 3) := by decide +kernel
theorem dX0_isShort_34 : decode cX0_isShort 34 = .ok (.iconst 1, 1) := by decide +kernel
theorem dX0_isShort_35 : decode cX0_isShort 35 = .ok (.goto 4, 3) := by decide +kernel
theorem dX0_isShort_38 : decode cX0_isShort 38 = .ok (.iconst 0, 1) := by decide +kernel
theorem dX0_isShort_39 : decode cX0_isShort 39 = .ok (.ireturn, 1) := by decide +kernel
theorem dX0_partAt_0 : decode cX0_partAt 0 = .ok (.iload_n 1, 1) := by decide +kernel
theorem dX0_partAt_1 : decode cX0_partAt 1 = .ok (.ifCond .lt 20, 3) := by decide +kernel
theorem dX0_partAt_4 : decode cX0_partAt 4 = .ok (.iload_n 1, 1) := by decide +kernel
theorem dX0_partAt_5 : decode cX0_partAt 5 = .ok (.aload_n 0, 1) := by decide +kernel
theorem dX0_partAt_6 : decode cX0_partAt 6 = .ok (.getfield 30, 3) := by decide +kernel
theorem dX0_partAt_9 : decode cX0_partAt 9 = .ok (.if_icmp .ge 12, 3) := by decide +kernel
theorem dX0_partAt_12 : decode cX0_partAt 12 = .ok (.aload_n 0, 1) := by decide +kernel
theorem dX0_partAt_13 : decode cX0_partAt 13 = .ok (.getfield 9, 3) := by decide +kernel
theorem dX0_partAt_16 : decode cX0_partAt 16 = .ok (.iload_n 1, 1) := by decide +kernel
theorem dX0_partAt_17 : decode cX0_partAt 17 = .ok (.iaload, 1) := by decide +kernel
theorem dX0_partAt_18 : decode cX0_partAt 18 = .ok (.goto 4, 3) := by decide +kernel
theorem dX0_partAt_21 : decode cX0_partAt 21 = .ok (.iconst (-1), 1) := by decide +kernel
theorem dX0_partAt_22 : decode cX0_partAt 22 = .ok (.ireturn, 1) := by decide +kernel
theorem dX0_sortAt_0 : decode cX0_sortAt 0 = .ok (.iload_n 1, 1) := by decide +kernel
theorem dX0_sortAt_1 : decode cX0_sortAt 1 = .ok (.ifCond .lt 20, 3) := by decide +kernel
theorem dX0_sortAt_4 : decode cX0_sortAt 4 = .ok (.iload_n 1, 1) := by decide +kernel
theorem dX0_sortAt_5 : decode cX0_sortAt 5 = .ok (.aload_n 0, 1) := by decide +kernel
theorem dX0_sortAt_6 : decode cX0_sortAt 6 = .ok (.getfield 30, 3) := by decide +kernel
theorem dX0_sortAt_9 : decode cX0_sortAt 9 = .ok (.if_icmp .ge 12, 3) := by decide +kernel
theorem dX0_sortAt_12 : decode cX0_sortAt 12 = .ok (.aload_n 0, 1) := by decide +kernel
theorem dX0_sortAt_13 : decode cX0_sortAt 13 = .ok (.getfield 15, 3) := by decide +kernel
theorem dX0_sortAt_16 : decode cX0_sortAt 16 = .ok (.iload_n 1, 1) := by decide +kernel
theorem dX0_sortAt_17 : decode cX0_sortAt 17 = .ok (.iaload, 1) := by decide +kernel
theorem dX0_sortAt_18 : decode cX0_sortAt 18 = .ok (.goto 4, 3) := by decide +kernel
theorem dX0_sortAt_21 : decode cX0_sortAt 21 = .ok (.iconst (-1), 1) := by decide +kernel
theorem dX0_sortAt_22 : decode cX0_sortAt 22 = .ok (.ireturn, 1) := by decide +kernel
theorem dX0_mendAt_0 : decode cX0_mendAt 0 = .ok (.iload_n 2, 1) := by decide +kernel
theorem dX0_mendAt_1 : decode cX0_mendAt 1 = .ok (.ifCond .eq 8, 3) := by decide +kernel
theorem dX0_mendAt_4 : decode cX0_mendAt 4 = .ok (.iload_n 2, 1) := by decide +kernel
theorem dX0_mendAt_5 : decode cX0_mendAt 5 = .ok (.iconst 1, 1) := by decide +kernel
theorem dX0_mendAt_6 : decode cX0_mendAt 6 = .ok (.if_icmp .ne 39, 3) := by decide +kernel
theorem dX0_mendAt_9 : decode cX0_mendAt 9 = .ok (.aload_n 0, 1) := by decide +kernel
theorem dX0_mendAt_10 : decode cX0_mendAt 10 = .ok (.getfield 18, 3) := by decide +kernel
theorem dX0_mendAt_13 : decode cX0_mendAt 13 = .ok (.iload_n 1, 1) := by decide +kernel
theorem dX0_mendAt_14 : decode cX0_mendAt 14 = .ok (.iconst 3, 1) := by decide +kernel
theorem dX0_mendAt_15 : decode cX0_mendAt 15 = .ok (.iconst (-1), 1) := by decide +kernel
theorem dX0_mendAt_16 : decode cX0_mendAt 16 = .ok (.invokevirtual 109, 3) := by decide +kernel
theorem dX0_mendAt_19 : decode cX0_mendAt 19 = .ok (.aload_n 0, 1) := by decide +kernel
theorem dX0_mendAt_20 : decode cX0_mendAt 20 = .ok (.getfield 18, 3) := by decide +kernel
theorem dX0_mendAt_23 : decode cX0_mendAt 23 = .ok (.iload_n 1, 1) := by decide +kernel
theorem dX0_mendAt_24 : decode cX0_mendAt 24 = .ok (.iconst 4, 1) := by decide +kernel
theorem dX0_mendAt_25 : decode cX0_mendAt 25 = .ok (.iconst (-1), 1) := by decide +kernel
theorem dX0_mendAt_26 : decode cX0_mendAt 26 = .ok (.invokevirtual 109, 3) := by decide +kernel
theorem dX0_mendAt_29 : decode cX0_mendAt 29 = .ok (.aload_n 0, 1) := by decide +kernel
theorem dX0_mendAt_30 : decode cX0_mendAt 30 = .ok (.getfield 18, 3) := by decide +kernel
theorem dX0_mendAt_33 : decode cX0_mendAt 33 = .ok (.iload_n 1, 1) := by decide +kernel
theorem dX0_mendAt_34 : decode cX0_mendAt 34 = .ok (.iconst 1, 1) := by decide +kernel
theorem dX0_mendAt_35 : decode cX0_mendAt 35 = .ok (.ldc 113, 2) := by decide +kernel
theorem dX0_mendAt_37 : decode cX0_mendAt 37 = .ok (.iload_n 1, 1) := by decide +kernel
theorem dX0_mendAt_38 : decode cX0_mendAt 38 = .ok (.iadd, 1) := by decide +kernel
theorem dX0_mendAt_39 : decode cX0_mendAt 39 = .ok (.invokevirtual 109, 3) := by decide +kernel
theorem dX0_mendAt_42 : decode cX0_mendAt 42 = .ok (.goto 80, 3) := by decide +kernel
theorem dX0_mendAt_45 : decode cX0_mendAt 45 = .ok (.iload_n 2, 1) := by decide +kernel
theorem dX0_mendAt_46 : decode cX0_mendAt 46 = .ok (.iconst 2, 1) := by decide +kernel
theorem dX0_mendAt_47 : decode cX0_mendAt 47 = .ok (.if_icmp .ne 59, 3) := by decide +kernel
theorem dX0_mendAt_50 : decode cX0_mendAt 50 = .ok (.aload_n 0, 1) := by decide +kernel
theorem dX0_mendAt_51 : decode cX0_mendAt 51 = .ok (.getfield 18, 3) := by decide +kernel
theorem dX0_mendAt_54 : decode cX0_mendAt 54 = .ok (.iload_n 1, 1) := by decide +kernel
theorem dX0_mendAt_55 : decode cX0_mendAt 55 = .ok (.bipush 17, 2) := by decide +kernel
theorem dX0_mendAt_57 : decode cX0_mendAt 57 = .ok (.invokevirtual 74, 3) := by decide +kernel
theorem dX0_mendAt_60 : decode cX0_mendAt 60 = .ok (.istore_n 3, 1) := by decide +kernel
theorem dX0_mendAt_61 : decode cX0_mendAt 61 = .ok (.ldc 114, 2) := by decide +kernel
theorem dX0_mendAt_63 : decode cX0_mendAt 63 = .ok (.iload_n 3, 1) := by decide +kernel
theorem dX0_mendAt_64 : decode cX0_mendAt 64 = .ok (.invokestatic 115, 3) := by decide +kernel
theorem dX0_mendAt_67 : decode cX0_mendAt 67 = .ok (.iconst 0, 1) := by decide +kernel
theorem dX0_mendAt_68 : decode cX0_mendAt 68 = .ok (.iload_n 3, 1) := by decide +kernel
theorem dX0_mendAt_69 : decode cX0_mendAt 69 = .ok (.invokestatic 115, 3) := by decide +kernel
theorem dX0_mendAt_72 : decode cX0_mendAt 72 = .ok (.if_icmp .le 7, 3) := by decide +kernel
theorem dX0_mendAt_75 : decode cX0_mendAt 75 = .ok (.iconst 1, 1) := by decide +kernel
theorem dX0_mendAt_76 : decode cX0_mendAt 76 = .ok (.goto 4, 3) := by decide +kernel
theorem dX0_mendAt_79 : decode cX0_mendAt 79 = .ok (.iconst 0, 1) := by decide +kernel
theorem dX0_mendAt_80 : decode cX0_mendAt 80 = .ok (.istore 4, 2) := by decide +kernel
theorem dX0_mendAt_82 : decode cX0_mendAt 82 = .ok (.aload_n 0, 1) := by decide +kernel
theorem dX0_mendAt_83 : decode cX0_mendAt 83 = .ok (.getfield 18, 3) := by decide +kernel
theorem dX0_mendAt_86 : decode cX0_mendAt 86 = .ok (.iload_n 1, 1) := by decide +kernel
theorem dX0_mendAt_87 : decode cX0_mendAt 87 = .ok (.bipush 16, 2) := by decide +kernel
theorem dX0_mendAt_89 : decode cX0_mendAt 89 = .ok (.iload 4, 2) := by decide +kernel
theorem dX0_mendAt_91 : decode cX0_mendAt 91 = .ok (.ifCond .eq 8, 3) := by decide +kernel
theorem dX0_mendAt_94 : decode cX0_mendAt 94 = .ok (.ldc 114, 2) := by decide +kernel
theorem dX0_mendAt_96 : decode cX0_mendAt 96 = .ok (.goto 4, 3) := by decide +kernel
theorem dX0_mendAt_99 : decode cX0_mendAt 99 = .ok (.iconst 0, 1) := by decide +kernel
theorem dX0_mendAt_100 : decode cX0_mendAt 100 = .ok (.invokevirtual 109, 3) := by decide +kernel
theorem dX0_mendAt_103 : decode cX0_mendAt 103 = .ok (.goto 19, 3) := by decide +kernel
theorem dX0_mendAt_106 : decode cX0_mendAt 106 = .ok (.iload_n 2, 1) := by decide +kernel
theorem dX0_mendAt_107 : decode cX0_mendAt 107 = .ok (.iconst 5, 1) := by decide +kernel
theorem dX0_mendAt_108 : decode cX0_mendAt 108 = .ok (.if_icmp .ne 14, 3) := by decide +kernel
theorem dX0_mendAt_111 : decode cX0_mendAt 111 = .ok (.aload_n 0, 1) := by decide +kernel
theorem dX0_mendAt_112 : decode cX0_mendAt 112 = .ok (.getfield 18, 3) := by decide +kernel
theorem dX0_mendAt_115 : decode cX0_mendAt 115 = .ok (.iload_n 1, 1) := by decide +kernel
theorem dX0_mendAt_116 : decode cX0_mendAt 116 = .ok (.bipush 9, 2) := by decide +kernel
theorem dX0_mendAt_118 : decode cX0_mendAt 118 = .ok (.iconst 1, 1) := by decide +kernel
theorem dX0_mendAt_119 : decode cX0_mendAt 119 = .ok (.invokevirtual 109, 3) := by decide +kernel
theorem dX0_mendAt_122 : decode cX0_mendAt 122 = .ok (.return_, 1) := by decide +kernel
theorem dX1_init_0 : decode cX1_init 0 = .ok (.aload_n 0, 1) := by decide +kernel
theorem dX1_init_1 : decode cX1_init 1 = .ok (.invokespecial 3, 3) := by decide +kernel
theorem dX1_init_4 : decode cX1_init 4 = .ok (.aload_n 0, 1) := by decide +kernel
theorem dX1_init_5 : decode cX1_init 5 = .ok (.sipush 192, 3) := by decide +kernel
theorem dX1_init_8 : decode cX1_init 8 = .ok (.newarray .int, 2) := by decide +kernel
theorem dX1_init_10 : decode cX1_init 10 = .ok (.putfield 9, 3) := by decide +kernel
theorem dX1_init_13 : decode cX1_init 13 = .ok (.aload_n 0, 1) := by decide +kernel
theorem dX1_init_14 : decode cX1_init 14 = .ok (.bipush 24, 2) := by decide +kernel
theorem dX1_init_16 : decode cX1_init 16 = .ok (.newarray .int, 2) := by decide +kernel
theorem dX1_init_18 : decode cX1_init 18 = .ok (.putfield 15, 3) := by decide +kernel
theorem dX1_init_21 : decode cX1_init 21 = .ok (.aload_n 0, 1) := by decide +kernel
theorem dX1_init_22 : decode cX1_init 22 = .ok (.aload_n 1, 1) := by decide +kernel
theorem dX1_init_23 : decode cX1_init 23 = .ok (.putfield 18, 3) := by decide +kernel
theorem dX1_init_26 : decode cX1_init 26 = .ok (.return_, 1) := by decide +kernel
theorem dX1_compose_0 : decode cX1_compose 0 = .ok (.aload_n 0, 1) := by decide +kernel
theorem dX1_compose_1 : decode cX1_compose 1 = .ok (.getfield 18, 3) := by decide +kernel
theorem dX1_compose_4 : decode cX1_compose 4 = .ok (.iload_n 1, 1) := by decide +kernel
theorem dX1_compose_5 : decode cX1_compose 5 = .ok (.invokevirtual 22, 3) := by decide +kernel
theorem dX1_compose_8 : decode cX1_compose 8 = .ok (.ifCond .ne 4, 3) := by decide +kernel
theorem dX1_compose_11 : decode cX1_compose 11 = .ok (.return_, 1) := by decide +kernel
theorem dX1_compose_12 : decode cX1_compose 12 = .ok (.aload_n 0, 1) := by decide +kernel
theorem dX1_compose_13 : decode cX1_compose 13 = .ok (.getfield 15, 3) := by decide +kernel
theorem dX1_compose_16 : decode cX1_compose 16 = .ok (.iload_n 1, 1) := by decide +kernel
theorem dX1_compose_17 : decode cX1_compose 17 = .ok (.iconst 0, 1) := by decide +kernel
theorem dX1_compose_18 : decode cX1_compose 18 = .ok (.iastore, 1) := by decide +kernel
theorem dX1_compose_19 : decode cX1_compose 19 = .ok (.aload_n 0, 1) := by decide +kernel
theorem dX1_compose_20 : decode cX1_compose 20 = .ok (.iload_n 1, 1) := by decide +kernel
theorem dX1_compose_21 : decode cX1_compose 21 = .ok (.aload_n 0, 1) := by decide +kernel
theorem dX1_compose_22 : decode cX1_compose 22 = .ok (.getfield 18, 3) := by decide +kernel
theorem dX1_compose_25 : decode cX1_compose 25 = .ok (.iload_n 1, 1) := by decide +kernel
theorem dX1_compose_26 : decode cX1_compose 26 = .ok (.iconst 3, 1) := by decide +kernel
theorem dX1_compose_27 : decode cX1_compose 27 = .ok (.invokevirtual 28, 3) := by decide +kernel
theorem dX1_compose_30 : decode cX1_compose 30 = .ok (.invokevirtual 32, 3) := by decide +kernel
theorem dX1_compose_33 : decode cX1_compose 33 = .ok (.aload_n 0, 1) := by decide +kernel
theorem dX1_compose_34 : decode cX1_compose 34 = .ok (.iload_n 1, 1) := by decide +kernel
theorem dX1_compose_35 : decode cX1_compose 35 = .ok (.aload_n 0, 1) := by decide +kernel
theorem dX1_compose_36 : decode cX1_compose 36 = .ok (.getfield 18, 3) := by decide +kernel
theorem dX1_compose_39 : decode cX1_compose 39 = .ok (.iload_n 1, 1) := by decide +kernel
theorem dX1_compose_40 : decode cX1_compose 40 = .ok (.iconst 4, 1) := by decide +kernel
theorem dX1_compose_41 : decode cX1_compose 41 = .ok (.invokevirtual 28, 3) := by decide +kernel
theorem dX1_compose_44 : decode cX1_compose 44 = .ok (.invokevirtual 32, 3) := by decide +kernel
theorem dX1_compose_47 : decode cX1_compose 47 = .ok (.aload_n 0, 1) := by decide +kernel
theorem dX1_compose_48 : decode cX1_compose 48 = .ok (.getfield 15, 3) := by decide +kernel
theorem dX1_compose_51 : decode cX1_compose 51 = .ok (.iload_n 1, 1) := by decide +kernel
theorem dX1_compose_52 : decode cX1_compose 52 = .ok (.iaload, 1) := by decide +kernel
theorem dX1_compose_53 : decode cX1_compose 53 = .ok (.ifCond .ne 17, 3) := by decide +kernel
theorem dX1_compose_56 : decode cX1_compose 56 = .ok (.aload_n 0, 1) := by decide +kernel
theorem dX1_compose_57 : decode cX1_compose 57 = .ok (.iload_n 1, 1) := by decide +kernel
theorem dX1_compose_58 : decode cX1_compose 58 = .ok (.aload_n 0, 1) := by decide +kernel
theorem dX1_compose_59 : decode cX1_compose 59 = .ok (.getfield 18, 3) := by decide +kernel
theorem dX1_compose_62 : decode cX1_compose 62 = .ok (.iload_n 1, 1) := by decide +kernel
theorem dX1_compose_63 : decode cX1_compose 63 = .ok (.iconst 1, 1) := by decide +kernel
theorem dX1_compose_64 : decode cX1_compose 64 = .ok (.invokevirtual 28, 3) := by decide +kernel
theorem dX1_compose_67 : decode cX1_compose 67 = .ok (.invokevirtual 36, 3) := by decide +kernel
theorem dX1_compose_70 : decode cX1_compose 70 = .ok (.aload_n 0, 1) := by decide +kernel
theorem dX1_compose_71 : decode cX1_compose 71 = .ok (.getfield 15, 3) := by decide +kernel
theorem dX1_compose_74 : decode cX1_compose 74 = .ok (.iload_n 1, 1) := by decide +kernel
theorem dX1_compose_75 : decode cX1_compose 75 = .ok (.iaload, 1) := by decide +kernel
theorem dX1_compose_76 : decode cX1_compose 76 = .ok (.ifCond .ne 17, 3) := by decide +kernel
theorem dX1_compose_79 : decode cX1_compose 79 = .ok (.aload_n 0, 1) := by decide +kernel
theorem dX1_compose_80 : decode cX1_compose 80 = .ok (.iload_n 1, 1) := by decide +kernel
theorem dX1_compose_81 : decode cX1_compose 81 = .ok (.aload_n 0, 1) := by decide +kernel
theorem dX1_compose_82 : decode cX1_compose 82 = .ok (.getfield 18, 3) := by decide +kernel
theorem dX1_compose_85 : decode cX1_compose 85 = .ok (.iload_n 1, 1) := by decide +kernel
theorem dX1_compose_86 : decode cX1_compose 86 = .ok (.iconst 0, 1) := by decide +kernel
theorem dX1_compose_87 : decode cX1_compose 87 = .ok (.invokevirtual 28, 3) := by decide +kernel
theorem dX1_compose_90 : decode cX1_compose 90 = .ok (.invokevirtual 36, 3) := by decide +kernel
theorem dX1_compose_93 : decode cX1_compose 93 = .ok (.aload_n 0, 1) := by decide +kernel
theorem dX1_compose_94 : decode cX1_compose 94 = .ok (.getfield 15, 3) := by decide +kernel
theorem dX1_compose_97 : decode cX1_compose 97 = .ok (.iload_n 1, 1) := by decide +kernel
theorem dX1_compose_98 : decode cX1_compose 98 = .ok (.iaload, 1) := by decide +kernel
theorem dX1_compose_99 : decode cX1_compose 99 = .ok (.ifCond .ne 23, 3) := by decide +kernel
theorem dX1_compose_102 : decode cX1_compose 102 = .ok (.aload_n 0, 1) := by decide +kernel
theorem dX1_compose_103 : decode cX1_compose 103 = .ok (.getfield 18, 3) := by decide +kernel
theorem dX1_compose_106 : decode cX1_compose 106 = .ok (.iload_n 1, 1) := by decide +kernel
theorem dX1_compose_107 : decode cX1_compose 107 = .ok (.bipush 10, 2) := by decide +kernel
theorem dX1_compose_109 : decode cX1_compose 109 = .ok (.invokevirtual 28, 3) := by decide +kernel
theorem dX1_compose_112 : decode cX1_compose 112 = .ok (.iconst 2, 1) := by decide +kernel
theorem dX1_compose_113 : decode cX1_compose 113 = .ok (.if_icmp .ne 9, 3) := by decide +kernel
theorem dX1_compose_116 : decode cX1_compose 116 = .ok (.aload_n 0, 1) := by decide +kernel
theorem dX1_compose_117 : decode cX1_compose 117 = .ok (.iload_n 1, 1) := by decide +kernel
theorem dX1_compose_118 : decode cX1_compose 118 = .ok (.iload_n 2, 1) := by decide +kernel
theorem dX1_compose_119 : decode cX1_compose 119 = .ok (.invokevirtual 39, 3) := by decide +kernel
theorem dX1_compose_122 : decode cX1_compose 122 = .ok (.aload_n 0, 1) := by decide +kernel
theorem dX1_compose_123 : decode cX1_compose 123 = .ok (.getfield 15, 3) := by decide +kernel
theorem dX1_compose_126 : decode cX1_compose 126 = .ok (.iload_n 1, 1) := by decide +kernel
theorem dX1_compose_127 : decode cX1_compose 127 = .ok (.iaload, 1) := by decide +kernel
theorem dX1_compose_128 : decode cX1_compose 128 = .ok (.ifCond .ne 17, 3) := by decide +kernel
theorem dX1_compose_131 : decode cX1_compose 131 = .ok (.aload_n 0, 1) := by decide +kernel
theorem dX1_compose_132 : decode cX1_compose 132 = .ok (.iload_n 1, 1) := by decide +kernel
theorem dX1_compose_133 : decode cX1_compose 133 = .ok (.aload_n 0, 1) := by decide +kernel
theorem dX1_compose_134 : decode cX1_compose 134 = .ok (.getfield 18, 3) := by decide +kernel
theorem dX1_compose_137 : decode cX1_compose 137 = .ok (.iload_n 1, 1) := by decide +kernel
theorem dX1_compose_138 : decode cX1_compose 138 = .ok (.iconst 2, 1) := by decide +kernel
theorem dX1_compose_139 : decode cX1_compose 139 = .ok (.invokevirtual 28, 3) := by decide +kernel
theorem dX1_compose_142 : decode cX1_compose 142 = .ok (.invokevirtual 36, 3) := by decide +kernel
theorem dX1_compose_145 : decode cX1_compose 145 = .ok (.return_, 1) := by decide +kernel
theorem dX1_addTextsIn_0 : decode cX1_addTextsIn 0 = .ok (.aload_n 0, 1) := by decide +kernel
theorem dX1_addTextsIn_1 : decode cX1_addTextsIn 1 = .ok (.getfield 18, 3) := by decide +kernel
theorem dX1_addTextsIn_4 : decode cX1_addTextsIn 4 = .ok (.iload_n 1, 1) := by decide +kernel
theorem dX1_addTextsIn_5 : decode cX1_addTextsIn 5 = .ok (.invokevirtual 42, 3) := by decide +kernel
theorem dX1_addTextsIn_8 : decode cX1_addTextsIn 8 = .ok (.aload_n 0, 1) := by decide +kernel
theorem dX1_addTextsIn_9 : decode cX1_addTextsIn 9 = .ok (.getfield 18, 3) := by decide +kernel
theorem dX1_addTextsIn_12 : decode cX1_addTextsIn 12 = .ok (.getfield 46, 3) := by decide +kernel
theorem dX1_addTextsIn_15 : decode cX1_addTextsIn 15 = .ok (.iconst 1, 1) := by decide +kernel
theorem dX1_addTextsIn_16 : decode cX1_addTextsIn 16 = .ok (.iaload, 1) := by decide +kernel
theorem dX1_addTextsIn_17 : decode cX1_addTextsIn 17 = .ok (.iand, 1) := by decide +kernel
theorem dX1_addTextsIn_18 : decode cX1_addTextsIn 18 = .ok (.iload_n 2, 1) := by decide +kernel
theorem dX1_addTextsIn_19 : decode cX1_addTextsIn 19 = .ok (.iand, 1) := by decide +kernel
theorem dX1_addTextsIn_20 : decode cX1_addTextsIn 20 = .ok (.istore_n 3, 1) := by decide +kernel
theorem dX1_addTextsIn_21 : decode cX1_addTextsIn 21 = .ok (.iconst 0, 1) := by decide +kernel
theorem dX1_addTextsIn_22 : decode cX1_addTextsIn 22 = .ok (.istore 4, 2) := by decide +kernel
theorem dX1_addTextsIn_24 : decode cX1_addTextsIn 24 = .ok (.iload 4, 2) := by decide +kernel
theorem dX1_addTextsIn_26 : decode cX1_addTextsIn 26 = .ok (.aload_n 0, 1) := by decide +kernel
theorem dX1_addTextsIn_27 : decode cX1_addTextsIn 27 = .ok (.getfield 18, 3) := by decide +kernel
theorem dX1_addTextsIn_30 : decode cX1_addTextsIn 30 = .ok (.getfield 49, 3) := by decide +kernel
theorem dX1_addTextsIn_33 : decode cX1_addTextsIn 33 = .ok (.if_icmp .ge 41, 3) := by decide +kernel
theorem dX1_addTextsIn_36 : decode cX1_addTextsIn 36 = .ok (.iload_n 3, 1) := by decide +kernel
theorem dX1_addTextsIn_37 : decode cX1_addTextsIn 37 = .ok (.aload_n 0, 1) := by decide +kernel
theorem dX1_addTextsIn_38 : decode cX1_addTextsIn 38 = .ok (.getfield 18, 3) := by decide +kernel
theorem dX1_addTextsIn_41 : decode cX1_addTextsIn 41 = .ok (.getfield 53, 3) := by decide +kernel
theorem dX1_addTextsIn_44 : decode cX1_addTextsIn 44 = .ok (.iload 4, 2) := by decide +kernel
theorem dX1_addTextsIn_46 : decode cX1_addTextsIn 46 = .ok (.iaload, 1) := by decide +kernel
theorem dX1_addTextsIn_47 : decode cX1_addTextsIn 47 = .ok (.invokestatic 56, 3) := by decide +kernel
theorem dX1_addTextsIn_50 : decode cX1_addTextsIn 50 = .ok (.ifCond .eq 18, 3) := by decide +kernel
theorem dX1_addTextsIn_53 : decode cX1_addTextsIn 53 = .ok (.aload_n 0, 1) := by decide +kernel
theorem dX1_addTextsIn_54 : decode cX1_addTextsIn 54 = .ok (.iload_n 1, 1) := by decide +kernel
theorem dX1_addTextsIn_55 : decode cX1_addTextsIn 55 = .ok (.aload_n 0, 1) := by decide +kernel
theorem dX1_addTextsIn_56 : decode cX1_addTextsIn 56 = .ok (.getfield 18, 3) := by decide +kernel
theorem dX1_addTextsIn_59 : decode cX1_addTextsIn 59 = .ok (.getfield 53, 3) := by decide +kernel
theorem dX1_addTextsIn_62 : decode cX1_addTextsIn 62 = .ok (.iload 4, 2) := by decide +kernel
theorem dX1_addTextsIn_64 : decode cX1_addTextsIn 64 = .ok (.iaload, 1) := by decide +kernel
theorem dX1_addTextsIn_65 : decode cX1_addTextsIn 65 = .ok (.invokevirtual 32, 3) := by decide +kernel
theorem dX1_addTextsIn_68 : decode cX1_addTextsIn 68 = .ok (.iinc 4 1, 3) := by decide +kernel
theorem dX1_addTextsIn_71 : decode cX1_addTextsIn 71 = .ok (.goto (-47), 3) := by decide +kernel
theorem dX1_addTextsIn_74 : decode cX1_addTextsIn 74 = .ok (.return_, 1) := by decide +kernel
theorem dX1_addOwnOf_0 : decode cX1_addOwnOf 0 = .ok (.aload_n 0, 1) := by decide +kernel
theorem dX1_addOwnOf_1 : decode cX1_addOwnOf 1 = .ok (.getfield 18, 3) := by decide +kernel
theorem dX1_addOwnOf_4 : decode cX1_addOwnOf 4 = .ok (.iload_n 2, 1) := by decide +kernel
theorem dX1_addOwnOf_5 : decode cX1_addOwnOf 5 = .ok (.invokevirtual 22, 3) := by decide +kernel
theorem dX1_addOwnOf_8 : decode cX1_addOwnOf 8 = .ok (.ifCond .eq 17, 3) := by decide +kernel
theorem dX1_addOwnOf_11 : decode cX1_addOwnOf 11 = .ok (.aload_n 0, 1) := by decide +kernel
theorem dX1_addOwnOf_12 : decode cX1_addOwnOf 12 = .ok (.iload_n 1, 1) := by decide +kernel
theorem dX1_addOwnOf_13 : decode cX1_addOwnOf 13 = .ok (.aload_n 0, 1) := by decide +kernel
theorem dX1_addOwnOf_14 : decode cX1_addOwnOf 14 = .ok (.getfield 18, 3) := by decide +kernel
theorem dX1_addOwnOf_17 : decode cX1_addOwnOf 17 = .ok (.iload_n 2, 1) := by decide +kernel
theorem dX1_addOwnOf_18 : decode cX1_addOwnOf 18 = .ok (.iconst 0, 1) := by decide +kernel
theorem dX1_addOwnOf_19 : decode cX1_addOwnOf 19 = .ok (.invokevirtual 28, 3) := by decide +kernel
theorem dX1_addOwnOf_22 : decode cX1_addOwnOf 22 = .ok (.invokevirtual 36, 3) := by decide +kernel
theorem dX1_addOwnOf_25 : decode cX1_addOwnOf 25 = .ok (.return_, 1) := by decide +kernel
theorem dX1_add_0 : decode cX1_add 0 = .ok (.iload_n 2, 1) := by decide +kernel
theorem dX1_add_1 : decode cX1_add 1 = .ok (.ifCond .eq 52, 3) := by decide +kernel
theorem dX1_add_4 : decode cX1_add 4 = .ok (.aload_n 0, 1) := by decide +kernel
theorem dX1_add_5 : decode cX1_add 5 = .ok (.getfield 18, 3) := by decide +kernel
theorem dX1_add_8 : decode cX1_add 8 = .ok (.iload_n 1, 1) := by decide +kernel
theorem dX1_add_9 : decode cX1_add 9 = .ok (.invokevirtual 22, 3) := by decide +kernel
theorem dX1_add_12 : decode cX1_add 12 = .ok (.ifCond .eq 41, 3) := by decide +kernel
theorem dX1_add_15 : decode cX1_add 15 = .ok (.aload_n 0, 1) := by decide +kernel
theorem dX1_add_16 : decode cX1_add 16 = .ok (.getfield 15, 3) := by decide +kernel
theorem dX1_add_19 : decode cX1_add 19 = .ok (.iload_n 1, 1) := by decide +kernel
theorem dX1_add_20 : decode cX1_add 20 = .ok (.iaload, 1) := by decide +kernel
theorem dX1_add_21 : decode cX1_add 21 = .ok (.bipush 8, 2) := by decide +kernel
theorem dX1_add_23 : decode cX1_add 23 = .ok (.if_icmp .ge 30, 3) := by decide +kernel
theorem dX1_add_26 : decode cX1_add 26 = .ok (.aload_n 0, 1) := by decide +kernel
theorem dX1_add_27 : decode cX1_add 27 = .ok (.getfield 9, 3) := by decide +kernel
theorem dX1_add_30 : decode cX1_add 30 = .ok (.iload_n 1, 1) := by decide +kernel
theorem dX1_add_31 : decode cX1_add 31 = .ok (.bipush 8, 2) := by decide +kernel
theorem dX1_add_33 : decode cX1_add 33 = .ok (.imul, 1) := by decide +kernel
theorem dX1_add_34 : decode cX1_add 34 = .ok (.aload_n 0, 1) := by decide +kernel
theorem dX1_add_35 : decode cX1_add 35 = .ok (.getfield 15, 3) := by decide +kernel
theorem dX1_add_38 : decode cX1_add 38 = .ok (.iload_n 1, 1) := by decide +kernel
theorem dX1_add_39 : decode cX1_add 39 = .ok (.iaload, 1) := by decide +kernel
theorem dX1_add_40 : decode cX1_add 40 = .ok (.iadd, 1) := by decide +kernel
theorem dX1_add_41 : decode cX1_add 41 = .ok (.iload_n 2, 1) := by decide +kernel
theorem dX1_add_42 : decode cX1_add 42 = .ok (.iastore, 1) := by decide +kernel
theorem dX1_add_43 : decode cX1_add 43 = .ok (.aload_n 0, 1) := by decide +kernel
theorem dX1_add_44 : decode cX1_add 44 = .ok (.getfield 15, 3) := by decide +kernel
theorem dX1_add_47 : decode cX1_add 47 = .ok (.iload_n 1, 1) := by decide +kernel
theorem dX1_add_48 : decode cX1_add 48 = .ok (.dup2, 1) := by decide +kernel
theorem dX1_add_49 : decode cX1_add 49 = .ok (.iaload, 1) := by decide +kernel
theorem dX1_add_50 : decode cX1_add 50 = .ok (.iconst 1, 1) := by decide +kernel
theorem dX1_add_51 : decode cX1_add 51 = .ok (.iadd, 1) := by decide +kernel
theorem dX1_add_52 : decode cX1_add 52 = .ok (.iastore, 1) := by decide +kernel
theorem dX1_add_53 : decode cX1_add 53 = .ok (.return_, 1) := by decide +kernel
theorem dX1_lengthOf_0 : decode cX1_lengthOf 0 = .ok (.aload_n 0, 1) := by decide +kernel
theorem dX1_lengthOf_1 : decode cX1_lengthOf 1 = .ok (.getfield 18, 3) := by decide +kernel
theorem dX1_lengthOf_4 : decode cX1_lengthOf 4 = .ok (.iload_n 1, 1) := by decide +kernel
theorem dX1_lengthOf_5 : decode cX1_lengthOf 5 = .ok (.invokevirtual 22, 3) := by decide +kernel
theorem dX1_lengthOf_8 : decode cX1_lengthOf 8 = .ok (.ifCond .eq 12, 3) := by decide +kernel
theorem dX1_lengthOf_11 : decode cX1_lengthOf 11 = .ok (.aload_n 0, 1) := by decide +kernel
theorem dX1_lengthOf_12 : decode cX1_lengthOf 12 = .ok (.getfield 15, 3) := by decide +kernel
theorem dX1_lengthOf_15 : decode cX1_lengthOf 15 = .ok (.iload_n 1, 1) := by decide +kernel
theorem dX1_lengthOf_16 : decode cX1_lengthOf 16 = .ok (.iaload, 1) := by decide +kernel
theorem dX1_lengthOf_17 : decode cX1_lengthOf 17 = .ok (.goto 4, 3) := by decide +kernel
theorem dX1_lengthOf_20 : decode cX1_lengthOf 20 = .ok (.iconst 0, 1) := by decide +kernel
theorem dX1_lengthOf_21 : decode cX1_lengthOf 21 = .ok (.ireturn, 1) := by decide +kernel
theorem dX1_wordOf_0 : decode cX1_wordOf 0 = .ok (.iload_n 2, 1) := by decide +kernel
theorem dX1_wordOf_1 : decode cX1_wordOf 1 = .ok (.ifCond .lt 26, 3) := by decide +kernel
theorem dX1_wordOf_4 : decode cX1_wordOf 4 = .ok (.iload_n 2, 1) := by decide +kernel
theorem dX1_wordOf_5 : decode cX1_wordOf 5 = .ok (.aload_n 0, 1) := by decide +kernel
theorem dX1_wordOf_6 : decode cX1_wordOf 6 = .ok (.iload_n 1, 1) := by decide +kernel
theorem dX1_wordOf_7 : decode cX1_wordOf 7 = .ok (.invokevirtual 60, 3) := by decide +kernel
theorem dX1_wordOf_10 : decode cX1_wordOf 10 = .ok (.if_icmp .ge 17, 3) := by decide +kernel
theorem dX1_wordOf_13 : decode cX1_wordOf 13 = .ok (.aload_n 0, 1) := by decide +kernel
theorem dX1_wordOf_14 : decode cX1_wordOf 14 = .ok (.getfield 9, 3) := by decide +kernel
theorem dX1_wordOf_17 : decode cX1_wordOf 17 = .ok (.iload_n 1, 1) := by decide +kernel
theorem dX1_wordOf_18 : decode cX1_wordOf 18 = .ok (.bipush 8, 2) := by decide +kernel
theorem dX1_wordOf_20 : decode cX1_wordOf 20 = .ok (.imul, 1) := by decide +kernel
theorem dX1_wordOf_21 : decode cX1_wordOf 21 = .ok (.iload_n 2, 1) := by decide +kernel
theorem dX1_wordOf_22 : decode cX1_wordOf 22 = .ok (.iadd, 1) := by decide +kernel
theorem dX1_wordOf_23 : decode cX1_wordOf 23 = .ok (.iaload, 1) := by decide +kernel
theorem dX1_wordOf_24 : decode cX1_wordOf 24 = .ok (.goto 4, 3) := by decide +kernel
theorem dX1_wordOf_27 : decode cX1_wordOf 27 = .ok (.iconst 0, 1) := by decide +kernel
theorem dX1_wordOf_28 : decode cX1_wordOf 28 = .ok (.ireturn, 1) := by decide +kernel
theorem dX1_areAlike_0 : decode cX1_areAlike 0 = .ok (.iconst 0, 1) := by decide +kernel
theorem dX1_areAlike_1 : decode cX1_areAlike 1 = .ok (.istore_n 3, 1) := by decide +kernel
theorem dX1_areAlike_2 : decode cX1_areAlike 2 = .ok (.iload_n 3, 1) := by decide +kernel
theorem dX1_areAlike_3 : decode cX1_areAlike 3 = .ok (.bipush 8, 2) := by decide +kernel
theorem dX1_areAlike_5 : decode cX1_areAlike 5 = .ok (.if_icmp .ge 26, 3) := by decide +kernel
theorem dX1_areAlike_8 : decode cX1_areAlike 8 = .ok (.aload_n 0, 1) := by decide +kernel
theorem dX1_areAlike_9 : decode cX1_areAlike 9 = .ok (.iload_n 1, 1) := by decide +kernel
theorem dX1_areAlike_10 : decode cX1_areAlike 10 = .ok (.iload_n 3, 1) := by decide +kernel
theorem dX1_areAlike_11 : decode cX1_areAlike 11 = .ok (.invokevirtual 63, 3) := by decide +kernel
theorem dX1_areAlike_14 : decode cX1_areAlike 14 = .ok (.aload_n 0, 1) := by decide +kernel
theorem dX1_areAlike_15 : decode cX1_areAlike 15 = .ok (.iload_n 2, 1) := by decide +kernel
theorem dX1_areAlike_16 : decode cX1_areAlike 16 = .ok (.iload_n 3, 1) := by decide +kernel
theorem dX1_areAlike_17 : decode cX1_areAlike 17 = .ok (.invokevirtual 63, 3) := by decide +kernel
theorem dX1_areAlike_20 : decode cX1_areAlike 20 = .ok (.if_icmp .eq 5, 3) := by decide +kernel
theorem dX1_areAlike_23 : decode cX1_areAlike 23 = .ok (.iconst 0, 1) := by decide +kernel
theorem dX1_areAlike_24 : decode cX1_areAlike 24 = .ok (.ireturn, 1) := by decide +kernel
theorem dX1_areAlike_25 : decode cX1_areAlike 25 = .ok (.iinc 3 1, 3) := by decide +kernel
theorem dX1_areAlike_28 : decode cX1_areAlike 28 = .ok (.goto (-26), 3) := by decide +kernel
theorem dX1_areAlike_31 : decode cX1_areAlike 31 = .ok (.iconst 1, 1) := by decide +kernel
theorem dX1_areAlike_32 : decode cX1_areAlike 32 = .ok (.ireturn, 1) := by decide +kernel
theorem dX2_init_0 : decode cX2_init 0 = .ok (.aload_n 0, 1) := by decide +kernel
theorem dX2_init_1 : decode cX2_init 1 = .ok (.invokespecial 3, 3) := by decide +kernel
theorem dX2_init_4 : decode cX2_init 4 = .ok (.aload_n 0, 1) := by decide +kernel
theorem dX2_init_5 : decode cX2_init 5 = .ok (.sipush 432, 3) := by decide +kernel
theorem dX2_init_8 : decode cX2_init 8 = .ok (.newarray .int, 2) := by decide +kernel
theorem dX2_init_10 : decode cX2_init 10 = .ok (.putfield 9, 3) := by decide +kernel
theorem dX2_init_13 : decode cX2_init 13 = .ok (.aload_n 0, 1) := by decide +kernel
theorem dX2_init_14 : decode cX2_init 14 = .ok (.bipush 24, 2) := by decide +kernel
theorem dX2_init_16 : decode cX2_init 16 = .ok (.newarray .int, 2) := by decide +kernel
theorem dX2_init_18 : decode cX2_init 18 = .ok (.putfield 15, 3) := by decide +kernel
theorem dX2_init_21 : decode cX2_init 21 = .ok (.aload_n 0, 1) := by decide +kernel
theorem dX2_init_22 : decode cX2_init 22 = .ok (.bipush 24, 2) := by decide +kernel
theorem dX2_init_24 : decode cX2_init 24 = .ok (.newarray .int, 2) := by decide +kernel
theorem dX2_init_26 : decode cX2_init 26 = .ok (.putfield 18, 3) := by decide +kernel
theorem dX2_init_29 : decode cX2_init 29 = .ok (.aload_n 0, 1) := by decide +kernel
theorem dX2_init_30 : decode cX2_init 30 = .ok (.bipush 7, 2) := by decide +kernel
theorem dX2_init_32 : decode cX2_init 32 = .ok (.newarray .int, 2) := by decide +kernel
theorem dX2_init_34 : decode cX2_init 34 = .ok (.putfield 21, 3) := by decide +kernel
theorem dX2_init_37 : decode cX2_init 37 = .ok (.aload_n 0, 1) := by decide +kernel
theorem dX2_init_38 : decode cX2_init 38 = .ok (.bipush 24, 2) := by decide +kernel
theorem dX2_init_40 : decode cX2_init 40 = .ok (.newarray .int, 2) := by decide +kernel
theorem dX2_init_42 : decode cX2_init 42 = .ok (.putfield 24, 3) := by decide +kernel
theorem dX2_init_45 : decode cX2_init 45 = .ok (.aload_n 0, 1) := by decide +kernel
theorem dX2_init_46 : decode cX2_init 46 = .ok (.iconst 0, 1) := by decide +kernel
theorem dX2_init_47 : decode cX2_init 47 = .ok (.putfield 27, 3) := by decide +kernel
theorem dX2_init_50 : decode cX2_init 50 = .ok (.aload_n 0, 1) := by decide +kernel
theorem dX2_init_51 : decode cX2_init 51 = .ok (.iconst (-1), 1) := by decide +kernel
theorem dX2_init_52 : decode cX2_init 52 = .ok (.iconst 0, 1) := by decide +kernel
theorem dX2_init_53 : decode cX2_init 53 = .ok (.invokevirtual 31, 3) := by decide +kernel
theorem dX2_init_56 : decode cX2_init 56 = .ok (.pop, 1) := by decide +kernel
theorem dX2_init_57 : decode cX2_init 57 = .ok (.return_, 1) := by decide +kernel
theorem dX2_has_0 : decode cX2_has 0 = .ok (.iload_n 1, 1) := by decide +kernel
theorem dX2_has_1 : decode cX2_has 1 = .ok (.ifCond .lt 15, 3) := by decide +kernel
theorem dX2_has_4 : decode cX2_has 4 = .ok (.iload_n 1, 1) := by decide +kernel
theorem dX2_has_5 : decode cX2_has 5 = .ok (.aload_n 0, 1) := by decide +kernel
theorem dX2_has_6 : decode cX2_has 6 = .ok (.getfield 27, 3) := by decide +kernel
theorem dX2_has_9 : decode cX2_has 9 = .ok (.if_icmp .ge 7, 3) := by decide +kernel
theorem dX2_has_12 : decode cX2_has 12 = .ok (.iconst 1, 1) := by decide +kernel
theorem dX2_has_13 : decode cX2_has 13 = .ok (.goto 4, 3) := by decide +kernel
theorem dX2_has_16 : decode cX2_has 16 = .ok (.iconst 0, 1) := by decide +kernel
theorem dX2_has_17 : decode cX2_has 17 = .ok (.ireturn, 1) := by decide +kernel
theorem dX2_isFull_0 : decode cX2_isFull 0 = .ok (.aload_n 0, 1) := by decide +kernel
theorem dX2_isFull_1 : decode cX2_isFull 1 = .ok (.getfield 27, 3) := by decide +kernel
theorem dX2_isFull_4 : decode cX2_isFull 4 = .ok (.bipush 24, 2) := by decide +kernel
theorem dX2_isFull_6 : decode cX2_isFull 6 = .ok (.if_icmp .lt 7, 3) := by decide +kernel
theorem dX2_isFull_9 : decode cX2_isFull 9 = .ok (.iconst 1, 1) := by decide +kernel
theorem dX2_isFull_10 : decode cX2_isFull 10 = .ok (.goto 4, 3) := by decide +kernel
theorem dX2_isFull_13 : decode cX2_isFull 13 = .ok (.iconst 0, 1) := by decide +kernel
theorem dX2_isFull_14 : decode cX2_isFull 14 = .ok (.ireturn, 1) := by decide +kernel
theorem dX2_get_0 : decode cX2_get 0 = .ok (.iload_n 1, 1) := by decide +kernel
theorem dX2_get_1 : decode cX2_get 1 = .ok (.bipush 18, 2) := by decide +kernel
theorem dX2_get_3 : decode cX2_get 3 = .ok (.imul, 1) := by decide +kernel
theorem dX2_get_4 : decode cX2_get 4 = .ok (.iload_n 2, 1) := by decide +kernel
theorem dX2_get_5 : decode cX2_get 5 = .ok (.iadd, 1) := by decide +kernel
theorem dX2_get_6 : decode cX2_get 6 = .ok (.istore_n 3, 1) := by decide +kernel
theorem dX2_get_7 : decode cX2_get 7 = .ok (.iload_n 3, 1) := by decide +kernel
theorem dX2_get_8 : decode cX2_get 8 = .ok (.ifCond .lt 21, 3) := by decide +kernel
theorem dX2_get_11 : decode cX2_get 11 = .ok (.iload_n 3, 1) := by decide +kernel
theorem dX2_get_12 : decode cX2_get 12 = .ok (.aload_n 0, 1) := by decide +kernel
theorem dX2_get_13 : decode cX2_get 13 = .ok (.getfield 9, 3) := by decide +kernel
theorem dX2_get_16 : decode cX2_get 16 = .ok (.arraylength, 1) := by decide +kernel
theorem dX2_get_17 : decode cX2_get 17 = .ok (.if_icmp .ge 12, 3) := by decide +kernel
theorem dX2_get_20 : decode cX2_get 20 = .ok (.aload_n 0, 1) := by decide +kernel
theorem dX2_get_21 : decode cX2_get 21 = .ok (.getfield 9, 3) := by decide +kernel
theorem dX2_get_24 : decode cX2_get 24 = .ok (.iload_n 3, 1) := by decide +kernel
theorem dX2_get_25 : decode cX2_get 25 = .ok (.iaload, 1) := by decide +kernel
theorem dX2_get_26 : decode cX2_get 26 = .ok (.goto 4, 3) := by decide +kernel
theorem dX2_get_29 : decode cX2_get 29 = .ok (.iconst (-1), 1) := by decide +kernel
theorem dX2_get_30 : decode cX2_get 30 = .ok (.ireturn, 1) := by decide +kernel
theorem dX2_put_0 : decode cX2_put 0 = .ok (.iload_n 1, 1) := by decide +kernel
theorem dX2_put_1 : decode cX2_put 1 = .ok (.bipush 18, 2) := by decide +kernel
theorem dX2_put_3 : decode cX2_put 3 = .ok (.imul, 1) := by decide +kernel
theorem dX2_put_4 : decode cX2_put 4 = .ok (.iload_n 2, 1) := by decide +kernel
theorem dX2_put_5 : decode cX2_put 5 = .ok (.iadd, 1) := by decide +kernel
theorem dX2_put_6 : decode cX2_put 6 = .ok (.istore 4, 2) := by decide +kernel
theorem dX2_put_8 : decode cX2_put 8 = .ok (.iload 4, 2) := by decide +kernel
theorem dX2_put_10 : decode cX2_put 10 = .ok (.ifCond .lt 21, 3) := by decide +kernel
theorem dX2_put_13 : decode cX2_put 13 = .ok (.iload 4, 2) := by decide +kernel
theorem dX2_put_15 : decode cX2_put 15 = .ok (.aload_n 0, 1) := by decide +kernel
theorem dX2_put_16 : decode cX2_put 16 = .ok (.getfield 9, 3) := by decide +kernel
theorem dX2_put_19 : decode cX2_put 19 = .ok (.arraylength, 1) := by decide +kernel
theorem dX2_put_20 : decode cX2_put 20 = .ok (.if_icmp .ge 11, 3) := by decide +kernel
theorem dX2_put_23 : decode cX2_put 23 = .ok (.aload_n 0, 1) := by decide +kernel
theorem dX2_put_24 : decode cX2_put 24 = .ok (.getfield 9, 3) := by decide +kernel
theorem dX2_put_27 : decode cX2_put 27 = .ok (.iload 4, 2) := by decide +kernel
theorem dX2_put_29 : decode cX2_put 29 = .ok (.iload_n 3, 1) := by decide +kernel
theorem dX2_put_30 : decode cX2_put 30 = .ok (.iastore, 1) := by decide +kernel
theorem dX2_put_31 : decode cX2_put 31 = .ok (.return_, 1) := by decide +kernel
theorem dX2_aroundOf_0 : decode cX2_aroundOf 0 = .ok (.iload_n 1, 1) := by decide +kernel
theorem dX2_aroundOf_1 : decode cX2_aroundOf 1 = .ok (.ifCond .lt 20, 3) := by decide +kernel
theorem dX2_aroundOf_4 : decode cX2_aroundOf 4 = .ok (.iload_n 1, 1) := by decide +kernel
theorem dX2_aroundOf_5 : decode cX2_aroundOf 5 = .ok (.aload_n 0, 1) := by decide +kernel
theorem dX2_aroundOf_6 : decode cX2_aroundOf 6 = .ok (.getfield 27, 3) := by decide +kernel
theorem dX2_aroundOf_9 : decode cX2_aroundOf 9 = .ok (.if_icmp .ge 12, 3) := by decide +kernel
theorem dX2_aroundOf_12 : decode cX2_aroundOf 12 = .ok (.aload_n 0, 1) := by decide +kernel
theorem dX2_aroundOf_13 : decode cX2_aroundOf 13 = .ok (.getfield 15, 3) := by decide +kernel
theorem dX2_aroundOf_16 : decode cX2_aroundOf 16 = .ok (.iload_n 1, 1) := by decide +kernel
theorem dX2_aroundOf_17 : decode cX2_aroundOf 17 = .ok (.iaload, 1) := by decide +kernel
theorem dX2_aroundOf_18 : decode cX2_aroundOf 18 = .ok (.goto 4, 3) := by decide +kernel
theorem dX2_aroundOf_21 : decode cX2_aroundOf 21 = .ok (.iconst 0, 1) := by decide +kernel
theorem dX2_aroundOf_22 : decode cX2_aroundOf 22 = .ok (.ireturn, 1) := by decide +kernel
theorem dX2_withinOf_0 : decode cX2_withinOf 0 = .ok (.iload_n 1, 1) := by decide +kernel
theorem dX2_withinOf_1 : decode cX2_withinOf 1 = .ok (.ifCond .lt 20, 3) := by decide +kernel
theorem dX2_withinOf_4 : decode cX2_withinOf 4 = .ok (.iload_n 1, 1) := by decide +kernel
theorem dX2_withinOf_5 : decode cX2_withinOf 5 = .ok (.aload_n 0, 1) := by decide +kernel
theorem dX2_withinOf_6 : decode cX2_withinOf 6 = .ok (.getfield 27, 3) := by decide +kernel
theorem dX2_withinOf_9 : decode cX2_withinOf 9 = .ok (.if_icmp .ge 12, 3) := by decide +kernel
theorem dX2_withinOf_12 : decode cX2_withinOf 12 = .ok (.aload_n 0, 1) := by decide +kernel
theorem dX2_withinOf_13 : decode cX2_withinOf 13 = .ok (.getfield 18, 3) := by decide +kernel
theorem dX2_withinOf_16 : decode cX2_withinOf 16 = .ok (.iload_n 1, 1) := by decide +kernel
theorem dX2_withinOf_17 : decode cX2_withinOf 17 = .ok (.iaload, 1) := by decide +kernel
theorem dX2_withinOf_18 : decode cX2_withinOf 18 = .ok (.goto 4, 3) := by decide +kernel
theorem dX2_withinOf_21 : decode cX2_withinOf 21 = .ok (.iconst 0, 1) := by decide +kernel
theorem dX2_withinOf_22 : decode cX2_withinOf 22 = .ok (.ireturn, 1) := by decide +kernel
theorem dX2_add_0 : decode cX2_add 0 = .ok (.aload_n 0, 1) := by decide +kernel
theorem dX2_add_1 : decode cX2_add 1 = .ok (.getfield 27, 3) := by decide +kernel
theorem dX2_add_4 : decode cX2_add 4 = .ok (.istore_n 3, 1) := by decide +kernel
theorem dX2_add_5 : decode cX2_add 5 = .ok (.iload_n 3, 1) := by decide +kernel
theorem dX2_add_6 : decode cX2_add 6 = .ok (.bipush 24, 2) := by decide +kernel
theorem dX2_add_8 : decode cX2_add 8 = .ok (.if_icmp .ge 13, 3) := by decide +kernel
theorem dX2_add_11 : decode cX2_add 11 = .ok (.iload_n 2, 1) := by decide +kernel
theorem dX2_add_12 : decode cX2_add 12 = .ok (.ifCond .lt 9, 3) := by decide +kernel
theorem dX2_add_15 : decode cX2_add 15 = .ok (.iload_n 2, 1) := by decide +kernel
theorem dX2_add_16 : decode cX2_add 16 = .ok (.bipush 7, 2) := by decide +kernel
theorem dX2_add_18 : decode cX2_add 18 = .ok (.if_icmp .lt 5, 3) := by decide +kernel
theorem dX2_add_21 : decode cX2_add 21 = .ok (.iconst (-1), 1) := by decide +kernel
theorem dX2_add_22 : decode cX2_add 22 = .ok (.ireturn, 1) := by decide +kernel
theorem dX2_add_23 : decode cX2_add 23 = .ok (.aload_n 0, 1) := by decide +kernel
theorem dX2_add_24 : decode cX2_add 24 = .ok (.iload_n 1, 1) := by decide +kernel
theorem dX2_add_25 : decode cX2_add 25 = .ok (.invokevirtual 35, 3) := by decide +kernel
theorem dX2_add_28 : decode cX2_add 28 = .ok (.aload_n 0, 1) := by decide +kernel
theorem dX2_add_29 : decode cX2_add 29 = .ok (.getfield 15, 3) := by decide +kernel
theorem dX2_add_32 : decode cX2_add 32 = .ok (.iload_n 3, 1) := by decide +kernel
theorem dX2_add_33 : decode cX2_add 33 = .ok (.aload_n 0, 1) := by decide +kernel
theorem dX2_add_34 : decode cX2_add 34 = .ok (.iload_n 1, 1) := by decide +kernel
theorem dX2_add_35 : decode cX2_add 35 = .ok (.invokevirtual 39, 3) := by decide +kernel
theorem dX2_add_38 : decode cX2_add 38 = .ok (.ifCond .eq 15, 3) := by decide +kernel
theorem dX2_add_41 : decode cX2_add 41 = .ok (.aload_n 0, 1) := by decide +kernel
theorem dX2_add_42 : decode cX2_add 42 = .ok (.iload_n 1, 1) := by decide +kernel
theorem dX2_add_43 : decode cX2_add 43 = .ok (.invokevirtual 43, 3) := by decide +kernel
theorem dX2_add_46 : decode cX2_add 46 = .ok (.iconst 1, 1) := by decide +kernel
theorem dX2_add_47 : decode cX2_add 47 = .ok (.iload_n 1, 1) := by decide +kernel
theorem dX2_add_48 : decode cX2_add 48 = .ok (.ishl, 1) := by decide +kernel
theorem dX2_add_49 : decode cX2_add 49 = .ok (.ior, 1) := by decide +kernel
theorem dX2_add_50 : decode cX2_add 50 = .ok (.goto 4, 3) := by decide +kernel
theorem dX2_add_53 : decode cX2_add 53 = .ok (.iconst 0, 1) := by decide +kernel
theorem dX2_add_54 : decode cX2_add 54 = .ok (.iastore, 1) := by decide +kernel
theorem dX2_add_55 : decode cX2_add 55 = .ok (.iconst 0, 1) := by decide +kernel
theorem dX2_add_56 : decode cX2_add 56 = .ok (.istore 4, 2) := by decide +kernel
theorem dX2_add_58 : decode cX2_add 58 = .ok (.iload 4, 2) := by decide +kernel
theorem dX2_add_60 : decode cX2_add 60 = .ok (.iload_n 3, 1) := by decide +kernel
theorem dX2_add_61 : decode cX2_add 61 = .ok (.if_icmp .ge 36, 3) := by decide +kernel
theorem dX2_add_64 : decode cX2_add 64 = .ok (.aload_n 0, 1) := by decide +kernel
theorem dX2_add_65 : decode cX2_add 65 = .ok (.getfield 15, 3) := by decide +kernel
theorem dX2_add_68 : decode cX2_add 68 = .ok (.iload_n 3, 1) := by decide +kernel
theorem dX2_add_69 : decode cX2_add 69 = .ok (.iaload, 1) := by decide +kernel
theorem dX2_add_70 : decode cX2_add 70 = .ok (.iload 4, 2) := by decide +kernel
theorem dX2_add_72 : decode cX2_add 72 = .ok (.invokestatic 47, 3) := by decide +kernel
theorem dX2_add_75 : decode cX2_add 75 = .ok (.ifCond .eq 16, 3) := by decide +kernel
theorem dX2_add_78 : decode cX2_add 78 = .ok (.aload_n 0, 1) := by decide +kernel
theorem dX2_add_79 : decode cX2_add 79 = .ok (.getfield 18, 3) := by decide +kernel
theorem dX2_add_82 : decode cX2_add 82 = .ok (.iload 4, 2) := by decide +kernel
theorem dX2_add_84 : decode cX2_add 84 = .ok (.dup2, 1) := by decide +kernel
theorem dX2_add_85 : decode cX2_add 85 = .ok (.iaload, 1) := by decide +kernel
theorem dX2_add_86 : decode cX2_add 86 = .ok (.iconst 1, 1) := by decide +kernel
theorem dX2_add_87 : decode cX2_add 87 = .ok (.iload_n 3, 1) := by decide +kernel
theorem dX2_add_88 : decode cX2_add 88 = .ok (.ishl, 1) := by decide +kernel
theorem dX2_add_89 : decode cX2_add 89 = .ok (.ior, 1) := by decide +kernel
theorem dX2_add_90 : decode cX2_add 90 = .ok (.iastore, 1) := by decide +kernel
theorem dX2_add_91 : decode cX2_add 91 = .ok (.iinc 4 1, 3) := by decide +kernel
theorem dX2_add_94 : decode cX2_add 94 = .ok (.goto (-36), 3) := by decide +kernel
theorem dX2_add_97 : decode cX2_add 97 = .ok (.aload_n 0, 1) := by decide +kernel
theorem dX2_add_98 : decode cX2_add 98 = .ok (.getfield 21, 3) := by decide +kernel
theorem dX2_add_101 : decode cX2_add 101 = .ok (.iload_n 2, 1) := by decide +kernel
theorem dX2_add_102 : decode cX2_add 102 = .ok (.dup2, 1) := by decide +kernel
theorem dX2_add_103 : decode cX2_add 103 = .ok (.iaload, 1) := by decide +kernel
theorem dX2_add_104 : decode cX2_add 104 = .ok (.iconst 1, 1) := by decide +kernel
theorem dX2_add_105 : decode cX2_add 105 = .ok (.iload_n 3, 1) := by decide +kernel
theorem dX2_add_106 : decode cX2_add 106 = .ok (.ishl, 1) := by decide +kernel
theorem dX2_add_107 : decode cX2_add 107 = .ok (.ior, 1) := by decide +kernel
theorem dX2_add_108 : decode cX2_add 108 = .ok (.iastore, 1) := by decide +kernel
theorem dX2_add_109 : decode cX2_add 109 = .ok (.aload_n 0, 1) := by decide +kernel
theorem dX2_add_110 : decode cX2_add 110 = .ok (.iload_n 3, 1) := by decide +kernel
theorem dX2_add_111 : decode cX2_add 111 = .ok (.iload_n 1, 1) := by decide +kernel
theorem dX2_add_112 : decode cX2_add 112 = .ok (.iload_n 2, 1) := by decide +kernel
theorem dX2_add_113 : decode cX2_add 113 = .ok (.invokevirtual 51, 3) := by decide +kernel
theorem dX2_add_116 : decode cX2_add 116 = .ok (.aload_n 0, 1) := by decide +kernel
theorem dX2_add_117 : decode cX2_add 117 = .ok (.dup, 1) := by decide +kernel
theorem dX2_add_118 : decode cX2_add 118 = .ok (.getfield 27, 3) := by decide +kernel
theorem dX2_add_121 : decode cX2_add 121 = .ok (.iconst 1, 1) := by decide +kernel
theorem dX2_add_122 : decode cX2_add 122 = .ok (.iadd, 1) := by decide +kernel
theorem dX2_add_123 : decode cX2_add 123 = .ok (.putfield 27, 3) := by decide +kernel
theorem dX2_add_126 : decode cX2_add 126 = .ok (.iload_n 3, 1) := by decide +kernel
theorem dX2_add_127 : decode cX2_add 127 = .ok (.ireturn, 1) := by decide +kernel
theorem dX2_insertInOrder_0 : decode cX2_insertInOrder 0 = .ok (.aload_n 0, 1) := by decide +kernel
theorem dX2_insertInOrder_1 : decode cX2_insertInOrder 1 = .ok (.iload_n 1, 1) := by decide +kernel
theorem dX2_insertInOrder_2 : decode cX2_insertInOrder 2 = .ok (.invokevirtual 39, 3) := by decide +kernel
theorem dX2_insertInOrder_5 : decode cX2_insertInOrder 5 = .ok (.ifCond .eq 22, 3) := by decide +kernel
theorem dX2_insertInOrder_8 : decode cX2_insertInOrder 8 = .ok (.aload_n 0, 1) := by decide +kernel
theorem dX2_insertInOrder_9 : decode cX2_insertInOrder 9 = .ok (.iload_n 1, 1) := by decide +kernel
theorem dX2_insertInOrder_10 : decode cX2_insertInOrder 10 = .ok (.invokevirtual 55, 3) := by decide +kernel
theorem dX2_insertInOrder_13 : decode cX2_insertInOrder 13 = .ok (.iconst 1, 1) := by decide +kernel
theorem dX2_insertInOrder_14 : decode cX2_insertInOrder 14 = .ok (.iadd, 1) := by decide +kernel
theorem dX2_insertInOrder_15 : decode cX2_insertInOrder 15 = .ok (.aload_n 0, 1) := by decide +kernel
theorem dX2_insertInOrder_16 : decode cX2_insertInOrder 16 = .ok (.iload_n 1, 1) := by decide +kernel
theorem dX2_insertInOrder_17 : decode cX2_insertInOrder 17 = .ok (.invokevirtual 58, 3) := by decide +kernel
theorem dX2_insertInOrder_20 : decode cX2_insertInOrder 20 = .ok (.invokestatic 61, 3) := by decide +kernel
theorem dX2_insertInOrder_23 : decode cX2_insertInOrder 23 = .ok (.iadd, 1) := by decide +kernel
theorem dX2_insertInOrder_24 : decode cX2_insertInOrder 24 = .ok (.goto 4, 3) := by decide +kernel
theorem dX2_insertInOrder_27 : decode cX2_insertInOrder 27 = .ok (.iconst 0, 1) := by decide +kernel
theorem dX2_insertInOrder_28 : decode cX2_insertInOrder 28 = .ok (.istore_n 2, 1) := by decide +kernel
theorem dX2_insertInOrder_29 : decode cX2_insertInOrder 29 = .ok (.aload_n 0, 1) := by decide +kernel
theorem dX2_insertInOrder_30 : decode cX2_insertInOrder 30 = .ok (.getfield 27, 3) := by decide +kernel
theorem dX2_insertInOrder_33 : decode cX2_insertInOrder 33 = .ok (.bipush 24, 2) := by decide +kernel
theorem dX2_insertInOrder_35 : decode cX2_insertInOrder 35 = .ok (.if_icmp .ge 11, 3) := by decide +kernel
theorem dX2_insertInOrder_38 : decode cX2_insertInOrder 38 = .ok (.iload_n 2, 1) := by decide +kernel
theorem dX2_insertInOrder_39 : decode cX2_insertInOrder 39 = .ok (.aload_n 0, 1) := by decide +kernel
theorem dX2_insertInOrder_40 : decode cX2_insertInOrder 40 = .ok (.getfield 27, 3) := by decide +kernel
theorem dX2_insertInOrder_43 : decode cX2_insertInOrder 43 = .ok (.if_icmp .le 4, 3) := by decide +kernel
theorem dX2_insertInOrder_46 : decode cX2_insertInOrder 46 = .ok (.return_, 1) := by decide +kernel
theorem dX2_insertInOrder_47 : decode cX2_insertInOrder 47 = .ok (.aload_n 0, 1) := by decide +kernel
theorem dX2_insertInOrder_48 : decode cX2_insertInOrder 48 = .ok (.getfield 27, 3) := by decide +kernel
theorem dX2_insertInOrder_51 : decode cX2_insertInOrder 51 = .ok (.istore_n 3, 1) := by decide +kernel
theorem dX2_insertInOrder_52 : decode cX2_insertInOrder 52 = .ok (.iload_n 3, 1) := by decide +kernel
theorem dX2_insertInOrder_53 : decode cX2_insertInOrder 53 = .ok (.iload_n 2, 1) := by decide +kernel
theorem dX2_insertInOrder_54 : decode cX2_insertInOrder 54 = .ok (.if_icmp .le 23, 3) := by decide +kernel
theorem dX2_insertInOrder_57 : decode cX2_insertInOrder 57 = .ok (.aload_n 0, 1) := by decide +kernel
theorem dX2_insertInOrder_58 : decode cX2_insertInOrder 58 = .ok (.getfield 24, 3) := by decide +kernel
theorem dX2_insertInOrder_61 : decode cX2_insertInOrder 61 = .ok (.iload_n 3, 1) := by decide +kernel
theorem dX2_insertInOrder_62 : decode cX2_insertInOrder 62 = .ok (.aload_n 0, 1) := by decide +kernel
theorem dX2_insertInOrder_63 : decode cX2_insertInOrder 63 = .ok (.getfield 24, 3) := by decide +kernel
theorem dX2_insertInOrder_66 : decode cX2_insertInOrder 66 = .ok (.iload_n 3, 1) := by decide +kernel
theorem dX2_insertInOrder_67 : decode cX2_insertInOrder 67 = .ok (.iconst 1, 1) := by decide +kernel
theorem dX2_insertInOrder_68 : decode cX2_insertInOrder 68 = .ok (.isub, 1) := by decide +kernel
theorem dX2_insertInOrder_69 : decode cX2_insertInOrder 69 = .ok (.iaload, 1) := by decide +kernel
theorem dX2_insertInOrder_70 : decode cX2_insertInOrder 70 = .ok (.iastore, 1) := by decide +kernel
theorem dX2_insertInOrder_71 : decode cX2_insertInOrder 71 = .ok (.iinc 3 (-1), 3) := by decide +kernel
theorem dX2_insertInOrder_74 : decode cX2_insertInOrder 74 = .ok (.goto (-22), 3) := by decide +kernel
theorem dX2_insertInOrder_77 : decode cX2_insertInOrder 77 = .ok (.aload_n 0, 1) := by decide +kernel
theorem dX2_insertInOrder_78 : decode cX2_insertInOrder 78 = .ok (.getfield 24, 3) := by decide +kernel
theorem dX2_insertInOrder_81 : decode cX2_insertInOrder 81 = .ok (.iload_n 2, 1) := by decide +kernel
theorem dX2_insertInOrder_82 : decode cX2_insertInOrder 82 = .ok (.aload_n 0, 1) := by decide +kernel
theorem dX2_insertInOrder_83 : decode cX2_insertInOrder 83 = .ok (.getfield 27, 3) := by decide +kernel
theorem dX2_insertInOrder_86 : decode cX2_insertInOrder 86 = .ok (.iastore, 1) := by decide +kernel
theorem dX2_insertInOrder_87 : decode cX2_insertInOrder 87 = .ok (.return_, 1) := by decide +kernel
theorem dX2_spotInOrder_0 : decode cX2_spotInOrder 0 = .ok (.iconst 0, 1) := by decide +kernel
theorem dX2_spotInOrder_1 : decode cX2_spotInOrder 1 = .ok (.istore_n 2, 1) := by decide +kernel
theorem dX2_spotInOrder_2 : decode cX2_spotInOrder 2 = .ok (.iconst 0, 1) := by decide +kernel
theorem dX2_spotInOrder_3 : decode cX2_spotInOrder 3 = .ok (.istore_n 3, 1) := by decide +kernel
theorem dX2_spotInOrder_4 : decode cX2_spotInOrder 4 = .ok (.iload_n 3, 1) := by decide +kernel
theorem dX2_spotInOrder_5 : decode cX2_spotInOrder 5 = .ok (.aload_n 0, 1) := by decide +kernel
theorem dX2_spotInOrder_6 : decode cX2_spotInOrder 6 = .ok (.getfield 27, 3) := by decide +kernel
theorem dX2_spotInOrder_9 : decode cX2_spotInOrder 9 = .ok (.if_icmp .ge 21, 3) := by decide +kernel
theorem dX2_spotInOrder_12 : decode cX2_spotInOrder 12 = .ok (.aload_n 0, 1) := by decide +kernel
theorem dX2_spotInOrder_13 : decode cX2_spotInOrder 13 = .ok (.getfield 24, 3) := by decide +kernel
theorem dX2_spotInOrder_16 : decode cX2_spotInOrder 16 = .ok (.iload_n 3, 1) := by decide +kernel
theorem dX2_spotInOrder_17 : decode cX2_spotInOrder 17 = .ok (.iaload, 1) := by decide +kernel
theorem dX2_spotInOrder_18 : decode cX2_spotInOrder 18 = .ok (.iload_n 1, 1) := by decide +kernel
theorem dX2_spotInOrder_19 : decode cX2_spotInOrder 19 = .ok (.if_icmp .ne 5, 3) := by decide +kernel
theorem dX2_spotInOrder_22 : decode cX2_spotInOrder 22 = .ok (.iload_n 3, 1) := by decide +kernel
theorem dX2_spotInOrder_23 : decode cX2_spotInOrder 23 = .ok (.istore_n 2, 1) := by decide +kernel
theorem dX2_spotInOrder_24 : decode cX2_spotInOrder 24 = .ok (.iinc 3 1, 3) := by decide +kernel
theorem dX2_spotInOrder_27 : decode cX2_spotInOrder 27 = .ok (.goto (-23), 3) := by decide +kernel
theorem dX2_spotInOrder_30 : decode cX2_spotInOrder 30 = .ok (.iload_n 2, 1) := by decide +kernel
theorem dX2_spotInOrder_31 : decode cX2_spotInOrder 31 = .ok (.ireturn, 1) := by decide +kernel
theorem dX2_putFirstValues_0 : decode cX2_putFirstValues 0 = .ok (.aload_n 0, 1) := by decide +kernel
theorem dX2_putFirstValues_1 : decode cX2_putFirstValues 1 = .ok (.iload_n 1, 1) := by decide +kernel
theorem dX2_putFirstValues_2 : decode cX2_putFirstValues 2 = .ok (.iconst 3, 1) := by decide +kernel
theorem dX2_putFirstValues_3 : decode cX2_putFirstValues 3 = .ok (.iconst (-1), 1) := by decide +kernel
theorem dX2_putFirstValues_4 : decode cX2_putFirstValues 4 = .ok (.invokevirtual 66, 3) := by decide +kernel
theorem dX2_putFirstValues_7 : decode cX2_putFirstValues 7 = .ok (.aload_n 0, 1) := by decide +kernel
theorem dX2_putFirstValues_8 : decode cX2_putFirstValues 8 = .ok (.iload_n 1, 1) := by decide +kernel
theorem dX2_putFirstValues_9 : decode cX2_putFirstValues 9 = .ok (.iconst 4, 1) := by decide +kernel
theorem dX2_putFirstValues_10 : decode cX2_putFirstValues 10 = .ok (.iconst (-1), 1) := by decide +kernel
theorem dX2_putFirstValues_11 : decode cX2_putFirstValues 11 = .ok (.invokevirtual 66, 3) := by decide +kernel
theorem dX2_putFirstValues_14 : decode cX2_putFirstValues 14 = .ok (.aload_n 0, 1) := by decide +kernel
theorem dX2_putFirstValues_15 : decode cX2_putFirstValues 15 = .ok (.iload_n 1, 1) := by decide +kernel
theorem dX2_putFirstValues_16 : decode cX2_putFirstValues 16 = .ok (.bipush 7, 2) := by decide +kernel
theorem dX2_putFirstValues_18 : decode cX2_putFirstValues 18 = .ok (.iconst (-1), 1) := by decide +kernel
theorem dX2_putFirstValues_19 : decode cX2_putFirstValues 19 = .ok (.invokevirtual 66, 3) := by decide +kernel
theorem dX2_putFirstValues_22 : decode cX2_putFirstValues 22 = .ok (.aload_n 0, 1) := by decide +kernel
theorem dX2_putFirstValues_23 : decode cX2_putFirstValues 23 = .ok (.iload_n 1, 1) := by decide +kernel
theorem dX2_putFirstValues_24 : decode cX2_putFirstValues 24 = .ok (.bipush 10, 2) := by decide +kernel
theorem dX2_putFirstValues_26 : decode cX2_putFirstValues 26 = .ok (.iload_n 3, 1) := by decide +kernel
theorem dX2_putFirstValues_27 : decode cX2_putFirstValues 27 = .ok (.invokevirtual 66, 3) := by decide +kernel
theorem dX2_putFirstValues_30 : decode cX2_putFirstValues 30 = .ok (.aload_n 0, 1) := by decide +kernel
theorem dX2_putFirstValues_31 : decode cX2_putFirstValues 31 = .ok (.iload_n 1, 1) := by decide +kernel
theorem dX2_putFirstValues_32 : decode cX2_putFirstValues 32 = .ok (.bipush 11, 2) := by decide +kernel
theorem dX2_putFirstValues_34 : decode cX2_putFirstValues 34 = .ok (.iload_n 2, 1) := by decide +kernel
theorem dX2_putFirstValues_35 : decode cX2_putFirstValues 35 = .ok (.invokevirtual 66, 3) := by decide +kernel
theorem dX2_putFirstValues_38 : decode cX2_putFirstValues 38 = .ok (.aload_n 0, 1) := by decide +kernel
theorem dX2_putFirstValues_39 : decode cX2_putFirstValues 39 = .ok (.iload_n 1, 1) := by decide +kernel
theorem dX2_putFirstValues_40 : decode cX2_putFirstValues 40 = .ok (.bipush 17, 2) := by decide +kernel
theorem dX2_putFirstValues_42 : decode cX2_putFirstValues 42 = .ok (.ldc 69, 2) := by decide +kernel
theorem dX2_putFirstValues_44 : decode cX2_putFirstValues 44 = .ok (.invokevirtual 66, 3) := by decide +kernel
theorem dX2_putFirstValues_47 : decode cX2_putFirstValues 47 = .ok (.return_, 1) := by decide +kernel
theorem dX2_allows_0 : decode cX2_allows 0 = .ok (.iload_n 1, 1) := by decide +kernel
theorem dX2_allows_1 : decode cX2_allows 1 = .ok (.tableswitch 147 0 9 #[55, 55, 55, 57, 57, 99, 114, 76, 130, 99], 55) := by decide +kernel
theorem dX2_allows_56 : decode cX2_allows 56 = .ok (.iconst 1, 1) := by decide +kernel
theorem dX2_allows_57 : decode cX2_allows 57 = .ok (.ireturn, 1) := by decide +kernel
theorem dX2_allows_58 : decode cX2_allows 58 = .ok (.iload_n 2, 1) := by decide +kernel
theorem dX2_allows_59 : decode cX2_allows 59 = .ok (.iconst (-1), 1) := by decide +kernel
theorem dX2_allows_60 : decode cX2_allows 60 = .ok (.if_icmp .eq 11, 3) := by decide +kernel
theorem dX2_allows_63 : decode cX2_allows 63 = .ok (.aload_n 0, 1) := by decide +kernel
theorem dX2_allows_64 : decode cX2_allows 64 = .ok (.iload_n 2, 1) := by decide +kernel
theorem dX2_allows_65 : decode cX2_allows 65 = .ok (.invokevirtual 39, 3) := by decide +kernel
theorem dX2_allows_68 : decode cX2_allows 68 = .ok (.ifCond .eq 7, 3) := by decide +kernel
theorem dX2_allows_71 : decode cX2_allows 71 = .ok (.iconst 1, 1) := by decide +kernel
theorem dX2_allows_72 : decode cX2_allows 72 = .ok (.goto 4, 3) := by decide +kernel
theorem dX2_allows_75 : decode cX2_allows 75 = .ok (.iconst 0, 1) := by decide +kernel
theorem dX2_allows_76 : decode cX2_allows 76 = .ok (.ireturn, 1) := by decide +kernel
theorem dX2_allows_77 : decode cX2_allows 77 = .ok (.iload_n 2, 1) := by decide +kernel
theorem dX2_allows_78 : decode cX2_allows 78 = .ok (.iconst (-1), 1) := by decide +kernel
theorem dX2_allows_79 : decode cX2_allows 79 = .ok (.if_icmp .eq 15, 3) := by decide +kernel
theorem dX2_allows_82 : decode cX2_allows 82 = .ok (.iload_n 2, 1) := by decide +kernel
theorem dX2_allows_83 : decode cX2_allows 83 = .ok (.ifCond .eq 15, 3) := by decide +kernel
theorem dX2_allows_86 : decode cX2_allows 86 = .ok (.aload_n 0, 1) := by decide +kernel
theorem dX2_allows_87 : decode cX2_allows 87 = .ok (.iload_n 2, 1) := by decide +kernel
theorem dX2_allows_88 : decode cX2_allows 88 = .ok (.invokevirtual 39, 3) := by decide +kernel
theorem dX2_allows_91 : decode cX2_allows 91 = .ok (.ifCond .eq 7, 3) := by decide +kernel
theorem dX2_allows_94 : decode cX2_allows 94 = .ok (.iconst 1, 1) := by decide +kernel
theorem dX2_allows_95 : decode cX2_allows 95 = .ok (.goto 4, 3) := by decide +kernel
theorem dX2_allows_98 : decode cX2_allows 98 = .ok (.iconst 0, 1) := by decide +kernel
theorem dX2_allows_99 : decode cX2_allows 99 = .ok (.ireturn, 1) := by decide +kernel
theorem dX2_allows_100 : decode cX2_allows 100 = .ok (.iload_n 2, 1) := by decide +kernel
theorem dX2_allows_101 : decode cX2_allows 101 = .ok (.ifCond .eq 8, 3) := by decide +kernel
theorem dX2_allows_104 : decode cX2_allows 104 = .ok (.iload_n 2, 1) := by decide +kernel
theorem dX2_allows_105 : decode cX2_allows 105 = .ok (.iconst 1, 1) := by decide +kernel
theorem dX2_allows_106 : decode cX2_allows 106 = .ok (.if_icmp .ne 7, 3) := by decide +kernel
theorem dX2_allows_109 : decode cX2_allows 109 = .ok (.iconst 1, 1) := by decide +kernel
theorem dX2_allows_110 : decode cX2_allows 110 = .ok (.goto 4, 3) := by decide +kernel
theorem dX2_allows_113 : decode cX2_allows 113 = .ok (.iconst 0, 1) := by decide +kernel
theorem dX2_allows_114 : decode cX2_allows 114 = .ok (.ireturn, 1) := by decide +kernel
theorem dX2_allows_115 : decode cX2_allows 115 = .ok (.iload_n 2, 1) := by decide +kernel
theorem dX2_allows_116 : decode cX2_allows 116 = .ok (.ifCond .lt 13, 3) := by decide +kernel
theorem dX2_allows_119 : decode cX2_allows 119 = .ok (.iload_n 2, 1) := by decide +kernel
theorem dX2_allows_120 : decode cX2_allows 120 = .ok (.bipush 100, 2) := by decide +kernel
theorem dX2_allows_122 : decode cX2_allows 122 = .ok (.if_icmp .gt 7, 3) := by decide +kernel
theorem dX2_allows_125 : decode cX2_allows 125 = .ok (.iconst 1, 1) := by decide +kernel
theorem dX2_allows_126 : decode cX2_allows 126 = .ok (.goto 4, 3) := by decide +kernel
theorem dX2_allows_129 : decode cX2_allows 129 = .ok (.iconst 0, 1) := by decide +kernel
theorem dX2_allows_130 : decode cX2_allows 130 = .ok (.ireturn, 1) := by decide +kernel
theorem dX2_allows_131 : decode cX2_allows 131 = .ok (.iload_n 2, 1) := by decide +kernel
theorem dX2_allows_132 : decode cX2_allows 132 = .ok (.ifCond .lt 14, 3) := by decide +kernel
theorem dX2_allows_135 : decode cX2_allows 135 = .ok (.iload_n 2, 1) := by decide +kernel
theorem dX2_allows_136 : decode cX2_allows 136 = .ok (.sipush 1000, 3) := by decide +kernel
theorem dX2_allows_139 : decode cX2_allows 139 = .ok (.if_icmp .gt 7, 3) := by decide +kernel
theorem dX2_allows_142 : decode cX2_allows 142 = .ok (.iconst 1, 1) := by decide +kernel
theorem dX2_allows_143 : decode cX2_allows 143 = .ok (.goto 4, 3) := by decide +kernel
theorem dX2_allows_146 : decode cX2_allows 146 = .ok (.iconst 0, 1) := by decide +kernel
theorem dX2_allows_147 : decode cX2_allows 147 = .ok (.ireturn, 1) := by decide +kernel
theorem dX2_allows_148 : decode cX2_allows 148 = .ok (.iconst 0, 1) := by decide +kernel
theorem dX2_allows_149 : decode cX2_allows 149 = .ok (.ireturn, 1) := by decide +kernel
theorem dX2_hiddenNow_0 : decode cX2_hiddenNow 0 = .ok (.iconst 0, 1) := by decide +kernel
theorem dX2_hiddenNow_1 : decode cX2_hiddenNow 1 = .ok (.istore_n 1, 1) := by decide +kernel
theorem dX2_hiddenNow_2 : decode cX2_hiddenNow 2 = .ok (.iconst 0, 1) := by decide +kernel
theorem dX2_hiddenNow_3 : decode cX2_hiddenNow 3 = .ok (.istore_n 2, 1) := by decide +kernel
theorem dX2_hiddenNow_4 : decode cX2_hiddenNow 4 = .ok (.iload_n 2, 1) := by decide +kernel
theorem dX2_hiddenNow_5 : decode cX2_hiddenNow 5 = .ok (.aload_n 0, 1) := by decide +kernel
theorem dX2_hiddenNow_6 : decode cX2_hiddenNow 6 = .ok (.getfield 27, 3) := by decide +kernel
theorem dX2_hiddenNow_9 : decode cX2_hiddenNow 9 = .ok (.if_icmp .ge 24, 3) := by decide +kernel
theorem dX2_hiddenNow_12 : decode cX2_hiddenNow 12 = .ok (.aload_n 0, 1) := by decide +kernel
theorem dX2_hiddenNow_13 : decode cX2_hiddenNow 13 = .ok (.iload_n 2, 1) := by decide +kernel
theorem dX2_hiddenNow_14 : decode cX2_hiddenNow 14 = .ok (.iconst 5, 1) := by decide +kernel
theorem dX2_hiddenNow_15 : decode cX2_hiddenNow 15 = .ok (.invokevirtual 70, 3) := by decide +kernel
theorem dX2_hiddenNow_18 : decode cX2_hiddenNow 18 = .ok (.ifCond .eq 9, 3) := by decide +kernel
theorem dX2_hiddenNow_21 : decode cX2_hiddenNow 21 = .ok (.iload_n 1, 1) := by decide +kernel
theorem dX2_hiddenNow_22 : decode cX2_hiddenNow 22 = .ok (.iconst 1, 1) := by decide +kernel
theorem dX2_hiddenNow_23 : decode cX2_hiddenNow 23 = .ok (.iload_n 2, 1) := by decide +kernel
theorem dX2_hiddenNow_24 : decode cX2_hiddenNow 24 = .ok (.ishl, 1) := by decide +kernel
theorem dX2_hiddenNow_25 : decode cX2_hiddenNow 25 = .ok (.ior, 1) := by decide +kernel
theorem dX2_hiddenNow_26 : decode cX2_hiddenNow 26 = .ok (.istore_n 1, 1) := by decide +kernel
theorem dX2_hiddenNow_27 : decode cX2_hiddenNow 27 = .ok (.iinc 2 1, 3) := by decide +kernel
theorem dX2_hiddenNow_30 : decode cX2_hiddenNow 30 = .ok (.goto (-26), 3) := by decide +kernel
theorem dX2_hiddenNow_33 : decode cX2_hiddenNow 33 = .ok (.iload_n 1, 1) := by decide +kernel
theorem dX2_hiddenNow_34 : decode cX2_hiddenNow 34 = .ok (.ireturn, 1) := by decide +kernel
theorem dX2_shownNow_0 : decode cX2_shownNow 0 = .ok (.aload_n 0, 1) := by decide +kernel
theorem dX2_shownNow_1 : decode cX2_shownNow 1 = .ok (.aload_n 0, 1) := by decide +kernel
theorem dX2_shownNow_2 : decode cX2_shownNow 2 = .ok (.invokevirtual 73, 3) := by decide +kernel
theorem dX2_shownNow_5 : decode cX2_shownNow 5 = .ok (.invokevirtual 77, 3) := by decide +kernel
theorem dX2_shownNow_8 : decode cX2_shownNow 8 = .ok (.ireturn, 1) := by decide +kernel
theorem dX2_shownUnder_0 : decode cX2_shownUnder 0 = .ok (.iconst 0, 1) := by decide +kernel
theorem dX2_shownUnder_1 : decode cX2_shownUnder 1 = .ok (.istore_n 2, 1) := by decide +kernel
theorem dX2_shownUnder_2 : decode cX2_shownUnder 2 = .ok (.iconst 0, 1) := by decide +kernel
theorem dX2_shownUnder_3 : decode cX2_shownUnder 3 = .ok (.istore_n 3, 1) := by decide +kernel
theorem dX2_shownUnder_4 : decode cX2_shownUnder 4 = .ok (.iload_n 3, 1) := by decide +kernel
theorem dX2_shownUnder_5 : decode cX2_shownUnder 5 = .ok (.aload_n 0, 1) := by decide +kernel
theorem dX2_shownUnder_6 : decode cX2_shownUnder 6 = .ok (.getfield 27, 3) := by decide +kernel
theorem dX2_shownUnder_9 : decode cX2_shownUnder 9 = .ok (.if_icmp .ge 34, 3) := by decide +kernel
theorem dX2_shownUnder_12 : decode cX2_shownUnder 12 = .ok (.aload_n 0, 1) := by decide +kernel
theorem dX2_shownUnder_13 : decode cX2_shownUnder 13 = .ok (.getfield 15, 3) := by decide +kernel
theorem dX2_shownUnder_16 : decode cX2_shownUnder 16 = .ok (.iload_n 3, 1) := by decide +kernel
theorem dX2_shownUnder_17 : decode cX2_shownUnder 17 = .ok (.iaload, 1) := by decide +kernel
theorem dX2_shownUnder_18 : decode cX2_shownUnder 18 = .ok (.iconst 1, 1) := by decide +kernel
theorem dX2_shownUnder_19 : decode cX2_shownUnder 19 = .ok (.iload_n 3, 1) := by decide +kernel
theorem dX2_shownUnder_20 : decode cX2_shownUnder 20 = .ok (.ishl, 1) := by decide +kernel
theorem dX2_shownUnder_21 : decode cX2_shownUnder 21 = .ok (.ior, 1) := by decide +kernel
theorem dX2_shownUnder_22 : decode cX2_shownUnder 22 = .ok (.istore 4, 2) := by decide +kernel
theorem dX2_shownUnder_24 : decode cX2_shownUnder 24 = .ok (.iload 4, 2) := by decide +kernel
theorem dX2_shownUnder_26 : decode cX2_shownUnder 26 = .ok (.iload_n 1, 1) := by decide +kernel
theorem dX2_shownUnder_27 : decode cX2_shownUnder 27 = .ok (.iand, 1) := by decide +kernel
theorem dX2_shownUnder_28 : decode cX2_shownUnder 28 = .ok (.ifCond .ne 9, 3) := by decide +kernel
theorem dX2_shownUnder_31 : decode cX2_shownUnder 31 = .ok (.iload_n 2, 1) := by decide +kernel
theorem dX2_shownUnder_32 : decode cX2_shownUnder 32 = .ok (.iconst 1, 1) := by decide +kernel
theorem dX2_shownUnder_33 : decode cX2_shownUnder 33 = .ok (.iload_n 3, 1) := by decide +kernel
theorem dX2_shownUnder_34 : decode cX2_shownUnder 34 = .ok (.ishl, 1) := by decide +kernel
theorem dX2_shownUnder_35 : decode cX2_shownUnder 35 = .ok (.ior, 1) := by decide +kernel
theorem dX2_shownUnder_36 : decode cX2_shownUnder 36 = .ok (.istore_n 2, 1) := by decide +kernel
theorem dX2_shownUnder_37 : decode cX2_shownUnder 37 = .ok (.iinc 3 1, 3) := by decide +kernel
theorem dX2_shownUnder_40 : decode cX2_shownUnder 40 = .ok (.goto (-36), 3) := by decide +kernel
theorem dX2_shownUnder_43 : decode cX2_shownUnder 43 = .ok (.iload_n 2, 1) := by decide +kernel
theorem dX2_shownUnder_44 : decode cX2_shownUnder 44 = .ok (.ireturn, 1) := by decide +kernel
theorem dX2_stopsAmong_0 : decode cX2_stopsAmong 0 = .ok (.iload_n 1, 1) := by decide +kernel
theorem dX2_stopsAmong_1 : decode cX2_stopsAmong 1 = .ok (.aload_n 0, 1) := by decide +kernel
theorem dX2_stopsAmong_2 : decode cX2_stopsAmong 2 = .ok (.getfield 21, 3) := by decide +kernel
theorem dX2_stopsAmong_5 : decode cX2_stopsAmong 5 = .ok (.iconst 2, 1) := by decide +kernel
theorem dX2_stopsAmong_6 : decode cX2_stopsAmong 6 = .ok (.iaload, 1) := by decide +kernel
theorem dX2_stopsAmong_7 : decode cX2_stopsAmong 7 = .ok (.aload_n 0, 1) := by decide +kernel
theorem dX2_stopsAmong_8 : decode cX2_stopsAmong 8 = .ok (.getfield 21, 3) := by decide +kernel
theorem dX2_stopsAmong_11 : decode cX2_stopsAmong 11 = .ok (.iconst 3, 1) := by decide +kernel
theorem dX2_stopsAmong_12 : decode cX2_stopsAmong 12 = .ok (.iaload, 1) := by decide +kernel
theorem dX2_stopsAmong_13 : decode cX2_stopsAmong 13 = .ok (.ior, 1) := by decide +kernel
theorem dX2_stopsAmong_14 : decode cX2_stopsAmong 14 = .ok (.iand, 1) := by decide +kernel
theorem dX2_stopsAmong_15 : decode cX2_stopsAmong 15 = .ok (.ireturn, 1) := by decide +kernel
theorem dX2_openedBesides_0 : decode cX2_openedBesides 0 = .ok (.iconst 0, 1) := by decide +kernel
theorem dX2_openedBesides_1 : decode cX2_openedBesides 1 = .ok (.istore_n 2, 1) := by decide +kernel
theorem dX2_openedBesides_2 : decode cX2_openedBesides 2 = .ok (.iconst 0, 1) := by decide +kernel
theorem dX2_openedBesides_3 : decode cX2_openedBesides 3 = .ok (.istore_n 3, 1) := by decide +kernel
theorem dX2_openedBesides_4 : decode cX2_openedBesides 4 = .ok (.iload_n 3, 1) := by decide +kernel
theorem dX2_openedBesides_5 : decode cX2_openedBesides 5 = .ok (.aload_n 0, 1) := by decide +kernel
theorem dX2_openedBesides_6 : decode cX2_openedBesides 6 = .ok (.getfield 27, 3) := by decide +kernel
theorem dX2_openedBesides_9 : decode cX2_openedBesides 9 = .ok (.if_icmp .ge 36, 3) := by decide +kernel
theorem dX2_openedBesides_12 : decode cX2_openedBesides 12 = .ok (.aload_n 0, 1) := by decide +kernel
theorem dX2_openedBesides_13 : decode cX2_openedBesides 13 = .ok (.iload_n 3, 1) := by decide +kernel
theorem dX2_openedBesides_14 : decode cX2_openedBesides 14 = .ok (.bipush 7, 2) := by decide +kernel
theorem dX2_openedBesides_16 : decode cX2_openedBesides 16 = .ok (.invokevirtual 70, 3) := by decide +kernel
theorem dX2_openedBesides_19 : decode cX2_openedBesides 19 = .ok (.istore 4, 2) := by decide +kernel
theorem dX2_openedBesides_21 : decode cX2_openedBesides 21 = .ok (.iload_n 3, 1) := by decide +kernel
theorem dX2_openedBesides_22 : decode cX2_openedBesides 22 = .ok (.iload_n 1, 1) := by decide +kernel
theorem dX2_openedBesides_23 : decode cX2_openedBesides 23 = .ok (.if_icmp .eq 16, 3) := by decide +kernel
theorem dX2_openedBesides_26 : decode cX2_openedBesides 26 = .ok (.iload 4, 2) := by decide +kernel
theorem dX2_openedBesides_28 : decode cX2_openedBesides 28 = .ok (.iconst (-1), 1) := by decide +kernel
theorem dX2_openedBesides_29 : decode cX2_openedBesides 29 = .ok (.if_icmp .eq 10, 3) := by decide +kernel
theorem dX2_openedBesides_32 : decode cX2_openedBesides 32 = .ok (.iload_n 2, 1) := by decide +kernel
theorem dX2_openedBesides_33 : decode cX2_openedBesides 33 = .ok (.iconst 1, 1) := by decide +kernel
theorem dX2_openedBesides_34 : decode cX2_openedBesides 34 = .ok (.iload 4, 2) := by decide +kernel
theorem dX2_openedBesides_36 : decode cX2_openedBesides 36 = .ok (.ishl, 1) := by decide +kernel
theorem dX2_openedBesides_37 : decode cX2_openedBesides 37 = .ok (.ior, 1) := by decide +kernel
theorem dX2_openedBesides_38 : decode cX2_openedBesides 38 = .ok (.istore_n 2, 1) := by decide +kernel
theorem dX2_openedBesides_39 : decode cX2_openedBesides 39 = .ok (.iinc 3 1, 3) := by decide +kernel
theorem dX2_openedBesides_42 : decode cX2_openedBesides 42 = .ok (.goto (-38), 3) := by decide +kernel
theorem dX2_openedBesides_45 : decode cX2_openedBesides 45 = .ok (.iload_n 2, 1) := by decide +kernel
theorem dX2_openedBesides_46 : decode cX2_openedBesides 46 = .ok (.ireturn, 1) := by decide +kernel
theorem dX2_openedByButton_0 : decode cX2_openedByButton 0 = .ok (.aload_n 0, 1) := by decide +kernel
theorem dX2_openedByButton_1 : decode cX2_openedByButton 1 = .ok (.getfield 21, 3) := by decide +kernel
theorem dX2_openedByButton_4 : decode cX2_openedByButton 4 = .ok (.iconst 2, 1) := by decide +kernel
theorem dX2_openedByButton_5 : decode cX2_openedByButton 5 = .ok (.iaload, 1) := by decide +kernel
theorem dX2_openedByButton_6 : decode cX2_openedByButton 6 = .ok (.iload_n 1, 1) := by decide +kernel
theorem dX2_openedByButton_7 : decode cX2_openedByButton 7 = .ok (.invokestatic 47, 3) := by decide +kernel
theorem dX2_openedByButton_10 : decode cX2_openedByButton 10 = .ok (.ifCond .eq 13, 3) := by decide +kernel
theorem dX2_openedByButton_13 : decode cX2_openedByButton 13 = .ok (.aload_n 0, 1) := by decide +kernel
theorem dX2_openedByButton_14 : decode cX2_openedByButton 14 = .ok (.iload_n 1, 1) := by decide +kernel
theorem dX2_openedByButton_15 : decode cX2_openedByButton 15 = .ok (.bipush 7, 2) := by decide +kernel
theorem dX2_openedByButton_17 : decode cX2_openedByButton 17 = .ok (.invokevirtual 70, 3) := by decide +kernel
theorem dX2_openedByButton_20 : decode cX2_openedByButton 20 = .ok (.goto 4, 3) := by decide +kernel
theorem dX2_openedByButton_23 : decode cX2_openedByButton 23 = .ok (.iconst (-1), 1) := by decide +kernel
theorem dX2_openedByButton_24 : decode cX2_openedByButton 24 = .ok (.ireturn, 1) := by decide +kernel
theorem dX2_trapAround_0 : decode cX2_trapAround 0 = .ok (.aload_n 0, 1) := by decide +kernel
theorem dX2_trapAround_1 : decode cX2_trapAround 1 = .ok (.iload_n 1, 1) := by decide +kernel
theorem dX2_trapAround_2 : decode cX2_trapAround 2 = .ok (.invokevirtual 43, 3) := by decide +kernel
theorem dX2_trapAround_5 : decode cX2_trapAround 5 = .ok (.aload_n 0, 1) := by decide +kernel
theorem dX2_trapAround_6 : decode cX2_trapAround 6 = .ok (.getfield 21, 3) := by decide +kernel
theorem dX2_trapAround_9 : decode cX2_trapAround 9 = .ok (.iconst 5, 1) := by decide +kernel
theorem dX2_trapAround_10 : decode cX2_trapAround 10 = .ok (.iaload, 1) := by decide +kernel
theorem dX2_trapAround_11 : decode cX2_trapAround 11 = .ok (.iand, 1) := by decide +kernel
theorem dX2_trapAround_12 : decode cX2_trapAround 12 = .ok (.iload_n 2, 1) := by decide +kernel
theorem dX2_trapAround_13 : decode cX2_trapAround 13 = .ok (.iand, 1) := by decide +kernel
theorem dX2_trapAround_14 : decode cX2_trapAround 14 = .ok (.invokestatic 80, 3) := by decide +kernel
theorem dX2_trapAround_17 : decode cX2_trapAround 17 = .ok (.ireturn, 1) := by decide +kernel
theorem dX2_liveAround_0 : decode cX2_liveAround 0 = .ok (.aload_n 0, 1) := by decide +kernel
theorem dX2_liveAround_1 : decode cX2_liveAround 1 = .ok (.iload_n 1, 1) := by decide +kernel
theorem dX2_liveAround_2 : decode cX2_liveAround 2 = .ok (.invokevirtual 43, 3) := by decide +kernel
theorem dX2_liveAround_5 : decode cX2_liveAround 5 = .ok (.aload_n 0, 1) := by decide +kernel
theorem dX2_liveAround_6 : decode cX2_liveAround 6 = .ok (.getfield 21, 3) := by decide +kernel
theorem dX2_liveAround_9 : decode cX2_liveAround 9 = .ok (.bipush 6, 2) := by decide +kernel
theorem dX2_liveAround_11 : decode cX2_liveAround 11 = .ok (.iaload, 1) := by decide +kernel
theorem dX2_liveAround_12 : decode cX2_liveAround 12 = .ok (.iand, 1) := by decide +kernel
theorem dX2_liveAround_13 : decode cX2_liveAround 13 = .ok (.invokestatic 80, 3) := by decide +kernel
theorem dX2_liveAround_16 : decode cX2_liveAround 16 = .ok (.ireturn, 1) := by decide +kernel
theorem dX2_contrastOf_0 : decode cX2_contrastOf 0 = .ok (.aload_n 0, 1) := by decide +kernel
theorem dX2_contrastOf_1 : decode cX2_contrastOf 1 = .ok (.iload_n 1, 1) := by decide +kernel
theorem dX2_contrastOf_2 : decode cX2_contrastOf 2 = .ok (.bipush 16, 2) := by decide +kernel
theorem dX2_contrastOf_4 : decode cX2_contrastOf 4 = .ok (.invokevirtual 70, 3) := by decide +kernel
theorem dX2_contrastOf_7 : decode cX2_contrastOf 7 = .ok (.aload_n 0, 1) := by decide +kernel
theorem dX2_contrastOf_8 : decode cX2_contrastOf 8 = .ok (.iload_n 1, 1) := by decide +kernel
theorem dX2_contrastOf_9 : decode cX2_contrastOf 9 = .ok (.bipush 17, 2) := by decide +kernel
theorem dX2_contrastOf_11 : decode cX2_contrastOf 11 = .ok (.invokevirtual 70, 3) := by decide +kernel
theorem dX2_contrastOf_14 : decode cX2_contrastOf 14 = .ok (.invokestatic 83, 3) := by decide +kernel
theorem dX2_contrastOf_17 : decode cX2_contrastOf 17 = .ok (.ireturn, 1) := by decide +kernel
theorem dX3_init_0 : decode cX3_init 0 = .ok (.aload_n 0, 1) := by decide +kernel
theorem dX3_init_1 : decode cX3_init 1 = .ok (.invokespecial 3, 3) := by decide +kernel
theorem dX3_init_4 : decode cX3_init 4 = .ok (.aload_n 0, 1) := by decide +kernel
theorem dX3_init_5 : decode cX3_init 5 = .ok (.bipush 24, 2) := by decide +kernel
theorem dX3_init_7 : decode cX3_init 7 = .ok (.newarray .int, 2) := by decide +kernel
theorem dX3_init_9 : decode cX3_init 9 = .ok (.putfield 9, 3) := by decide +kernel
theorem dX3_init_12 : decode cX3_init 12 = .ok (.aload_n 0, 1) := by decide +kernel
theorem dX3_init_13 : decode cX3_init 13 = .ok (.aload_n 1, 1) := by decide +kernel
theorem dX3_init_14 : decode cX3_init 14 = .ok (.putfield 15, 3) := by decide +kernel
theorem dX3_init_17 : decode cX3_init 17 = .ok (.aload_n 0, 1) := by decide +kernel
theorem dX3_init_18 : decode cX3_init 18 = .ok (.iconst 0, 1) := by decide +kernel
theorem dX3_init_19 : decode cX3_init 19 = .ok (.putfield 19, 3) := by decide +kernel
theorem dX3_init_22 : decode cX3_init 22 = .ok (.aload_n 0, 1) := by decide +kernel
theorem dX3_init_23 : decode cX3_init 23 = .ok (.iconst 0, 1) := by decide +kernel
theorem dX3_init_24 : decode cX3_init 24 = .ok (.putfield 23, 3) := by decide +kernel
theorem dX3_init_27 : decode cX3_init 27 = .ok (.aload_n 0, 1) := by decide +kernel
theorem dX3_init_28 : decode cX3_init 28 = .ok (.iconst 0, 1) := by decide +kernel
theorem dX3_init_29 : decode cX3_init 29 = .ok (.putfield 26, 3) := by decide +kernel
theorem dX3_init_32 : decode cX3_init 32 = .ok (.return_, 1) := by decide +kernel
theorem dX3_gather_0 : decode cX3_gather 0 = .ok (.aload_n 0, 1) := by decide +kernel
theorem dX3_gather_1 : decode cX3_gather 1 = .ok (.iconst 0, 1) := by decide +kernel
theorem dX3_gather_2 : decode cX3_gather 2 = .ok (.putfield 19, 3) := by decide +kernel
theorem dX3_gather_5 : decode cX3_gather 5 = .ok (.iconst 0, 1) := by decide +kernel
theorem dX3_gather_6 : decode cX3_gather 6 = .ok (.istore_n 2, 1) := by decide +kernel
theorem dX3_gather_7 : decode cX3_gather 7 = .ok (.iload_n 2, 1) := by decide +kernel
theorem dX3_gather_8 : decode cX3_gather 8 = .ok (.aload_n 0, 1) := by decide +kernel
theorem dX3_gather_9 : decode cX3_gather 9 = .ok (.getfield 15, 3) := by decide +kernel
theorem dX3_gather_12 : decode cX3_gather 12 = .ok (.getfield 29, 3) := by decide +kernel
theorem dX3_gather_15 : decode cX3_gather 15 = .ok (.if_icmp .ge 55, 3) := by decide +kernel
theorem dX3_gather_18 : decode cX3_gather 18 = .ok (.aload_n 0, 1) := by decide +kernel
theorem dX3_gather_19 : decode cX3_gather 19 = .ok (.getfield 15, 3) := by decide +kernel
theorem dX3_gather_22 : decode cX3_gather 22 = .ok (.getfield 32, 3) := by decide +kernel
theorem dX3_gather_25 : decode cX3_gather 25 = .ok (.iload_n 2, 1) := by decide +kernel
theorem dX3_gather_26 : decode cX3_gather 26 = .ok (.iaload, 1) := by decide +kernel
theorem dX3_gather_27 : decode cX3_gather 27 = .ok (.istore_n 3, 1) := by decide +kernel
theorem dX3_gather_28 : decode cX3_gather 28 = .ok (.iload_n 1, 1) := by decide +kernel
theorem dX3_gather_29 : decode cX3_gather 29 = .ok (.iload_n 3, 1) := by decide +kernel
theorem dX3_gather_30 : decode cX3_gather 30 = .ok (.invokestatic 35, 3) := by decide +kernel
theorem dX3_gather_33 : decode cX3_gather 33 = .ok (.ifCond .eq 31, 3) := by decide +kernel
theorem dX3_gather_36 : decode cX3_gather 36 = .ok (.aload_n 0, 1) := by decide +kernel
theorem dX3_gather_37 : decode cX3_gather 37 = .ok (.iload_n 3, 1) := by decide +kernel
theorem dX3_gather_38 : decode cX3_gather 38 = .ok (.invokevirtual 39, 3) := by decide +kernel
theorem dX3_gather_41 : decode cX3_gather 41 = .ok (.ifCond .eq 23, 3) := by decide +kernel
theorem dX3_gather_44 : decode cX3_gather 44 = .ok (.aload_n 0, 1) := by decide +kernel
theorem dX3_gather_45 : decode cX3_gather 45 = .ok (.getfield 9, 3) := by decide +kernel
theorem dX3_gather_48 : decode cX3_gather 48 = .ok (.aload_n 0, 1) := by decide +kernel
theorem dX3_gather_49 : decode cX3_gather 49 = .ok (.getfield 19, 3) := by decide +kernel
theorem dX3_gather_52 : decode cX3_gather 52 = .ok (.iload_n 3, 1) := by decide +kernel
theorem dX3_gather_53 : decode cX3_gather 53 = .ok (.iastore, 1) := by decide +kernel
theorem dX3_gather_54 : decode cX3_gather 54 = .ok (.aload_n 0, 1) := by decide +kernel
theorem dX3_gather_55 : decode cX3_gather 55 = .ok (.dup, 1) := by decide +kernel
theorem dX3_gather_56 : decode cX3_gather 56 = .ok (.getfield 19, 3) := by decide +kernel
theorem dX3_gather_59 : decode cX3_gather 59 = .ok (.iconst 1, 1) := by decide +kernel
theorem dX3_gather_60 : decode cX3_gather 60 = .ok (.iadd, 1) := by decide +kernel
theorem dX3_gather_61 : decode cX3_gather 61 = .ok (.putfield 19, 3) := by decide +kernel
theorem dX3_gather_64 : decode cX3_gather 64 = .ok (.iinc 2 1, 3) := by decide +kernel
theorem dX3_gather_67 : decode cX3_gather 67 = .ok (.goto (-60), 3) := by decide +kernel
theorem dX3_gather_70 : decode cX3_gather 70 = .ok (.return_, 1) := by decide +kernel
theorem dX3_isToBeSaid_0 : decode cX3_isToBeSaid 0 = .ok (.aload_n 0, 1) := by decide +kernel
theorem dX3_isToBeSaid_1 : decode cX3_isToBeSaid 1 = .ok (.getfield 15, 3) := by decide +kernel
theorem dX3_isToBeSaid_4 : decode cX3_isToBeSaid 4 = .ok (.iload_n 1, 1) := by decide +kernel
theorem dX3_isToBeSaid_5 : decode cX3_isToBeSaid 5 = .ok (.bipush 10, 2) := by decide +kernel
theorem dX3_isToBeSaid_7 : decode cX3_isToBeSaid 7 = .ok (.invokevirtual 43, 3) := by decide +kernel
theorem dX3_isToBeSaid_10 : decode cX3_isToBeSaid 10 = .ok (.istore_n 2, 1) := by decide +kernel
theorem dX3_isToBeSaid_11 : decode cX3_isToBeSaid 11 = .ok (.iload_n 2, 1) := by decide +kernel
theorem dX3_isToBeSaid_12 : decode cX3_isToBeSaid 12 = .ok (.iconst 1, 1) := by decide +kernel
theorem dX3_isToBeSaid_13 : decode cX3_isToBeSaid 13 = .ok (.if_icmp .ne 42, 3) := by decide +kernel
theorem dX3_isToBeSaid_16 : decode cX3_isToBeSaid 16 = .ok (.aload_n 0, 1) := by decide +kernel
theorem dX3_isToBeSaid_17 : decode cX3_isToBeSaid 17 = .ok (.getfield 15, 3) := by decide +kernel
theorem dX3_isToBeSaid_20 : decode cX3_isToBeSaid 20 = .ok (.iload_n 1, 1) := by decide +kernel
theorem dX3_isToBeSaid_21 : decode cX3_isToBeSaid 21 = .ok (.iconst 0, 1) := by decide +kernel
theorem dX3_isToBeSaid_22 : decode cX3_isToBeSaid 22 = .ok (.invokevirtual 43, 3) := by decide +kernel
theorem dX3_isToBeSaid_25 : decode cX3_isToBeSaid 25 = .ok (.ifCond .eq 28, 3) := by decide +kernel
theorem dX3_isToBeSaid_28 : decode cX3_isToBeSaid 28 = .ok (.aload_n 0, 1) := by decide +kernel
theorem dX3_isToBeSaid_29 : decode cX3_isToBeSaid 29 = .ok (.getfield 15, 3) := by decide +kernel
theorem dX3_isToBeSaid_32 : decode cX3_isToBeSaid 32 = .ok (.iload_n 1, 1) := by decide +kernel
theorem dX3_isToBeSaid_33 : decode cX3_isToBeSaid 33 = .ok (.invokevirtual 47, 3) := by decide +kernel
theorem dX3_isToBeSaid_36 : decode cX3_isToBeSaid 36 = .ok (.aload_n 0, 1) := by decide +kernel
theorem dX3_isToBeSaid_37 : decode cX3_isToBeSaid 37 = .ok (.getfield 15, 3) := by decide +kernel
theorem dX3_isToBeSaid_40 : decode cX3_isToBeSaid 40 = .ok (.getfield 51, 3) := by decide +kernel
theorem dX3_isToBeSaid_43 : decode cX3_isToBeSaid 43 = .ok (.iconst 2, 1) := by decide +kernel
theorem dX3_isToBeSaid_44 : decode cX3_isToBeSaid 44 = .ok (.iaload, 1) := by decide +kernel
theorem dX3_isToBeSaid_45 : decode cX3_isToBeSaid 45 = .ok (.iand, 1) := by decide +kernel
theorem dX3_isToBeSaid_46 : decode cX3_isToBeSaid 46 = .ok (.ifCond .ne 7, 3) := by decide +kernel
theorem dX3_isToBeSaid_49 : decode cX3_isToBeSaid 49 = .ok (.iconst 1, 1) := by decide +kernel
theorem dX3_isToBeSaid_50 : decode cX3_isToBeSaid 50 = .ok (.goto 4, 3) := by decide +kernel
theorem dX3_isToBeSaid_53 : decode cX3_isToBeSaid 53 = .ok (.iconst 0, 1) := by decide +kernel
theorem dX3_isToBeSaid_54 : decode cX3_isToBeSaid 54 = .ok (.ireturn, 1) := by decide +kernel
theorem dX3_isToBeSaid_55 : decode cX3_isToBeSaid 55 = .ok (.iload_n 2, 1) := by decide +kernel
theorem dX3_isToBeSaid_56 : decode cX3_isToBeSaid 56 = .ok (.iconst 2, 1) := by decide +kernel
theorem dX3_isToBeSaid_57 : decode cX3_isToBeSaid 57 = .ok (.if_icmp .eq 13, 3) := by decide +kernel
theorem dX3_isToBeSaid_60 : decode cX3_isToBeSaid 60 = .ok (.iload_n 2, 1) := by decide +kernel
theorem dX3_isToBeSaid_61 : decode cX3_isToBeSaid 61 = .ok (.iconst 3, 1) := by decide +kernel
theorem dX3_isToBeSaid_62 : decode cX3_isToBeSaid 62 = .ok (.if_icmp .eq 8, 3) := by decide +kernel
theorem dX3_isToBeSaid_65 : decode cX3_isToBeSaid 65 = .ok (.iload_n 2, 1) := by decide +kernel
theorem dX3_isToBeSaid_66 : decode cX3_isToBeSaid 66 = .ok (.iconst 4, 1) := by decide +kernel
theorem dX3_isToBeSaid_67 : decode cX3_isToBeSaid 67 = .ok (.if_icmp .ne 7, 3) := by decide +kernel
theorem dX3_isToBeSaid_70 : decode cX3_isToBeSaid 70 = .ok (.iconst 1, 1) := by decide +kernel
theorem dX3_isToBeSaid_71 : decode cX3_isToBeSaid 71 = .ok (.goto 4, 3) := by decide +kernel
theorem dX3_isToBeSaid_74 : decode cX3_isToBeSaid 74 = .ok (.iconst 0, 1) := by decide +kernel
theorem dX3_isToBeSaid_75 : decode cX3_isToBeSaid 75 = .ok (.ireturn, 1) := by decide +kernel
theorem dX3_at_0 : decode cX3_at 0 = .ok (.iload_n 1, 1) := by decide +kernel
theorem dX3_at_1 : decode cX3_at 1 = .ok (.ifCond .lt 20, 3) := by decide +kernel
theorem dX3_at_4 : decode cX3_at 4 = .ok (.iload_n 1, 1) := by decide +kernel
theorem dX3_at_5 : decode cX3_at 5 = .ok (.aload_n 0, 1) := by decide +kernel
theorem dX3_at_6 : decode cX3_at 6 = .ok (.getfield 19, 3) := by decide +kernel
theorem dX3_at_9 : decode cX3_at 9 = .ok (.if_icmp .ge 12, 3) := by decide +kernel
theorem dX3_at_12 : decode cX3_at 12 = .ok (.aload_n 0, 1) := by decide +kernel
theorem dX3_at_13 : decode cX3_at 13 = .ok (.getfield 9, 3) := by decide +kernel
theorem dX3_at_16 : decode cX3_at 16 = .ok (.iload_n 1, 1) := by decide +kernel
theorem dX3_at_17 : decode cX3_at 17 = .ok (.iaload, 1) := by decide +kernel
theorem dX3_at_18 : decode cX3_at 18 = .ok (.goto 4, 3) := by decide +kernel
theorem dX3_at_21 : decode cX3_at 21 = .ok (.iconst (-1), 1) := by decide +kernel
theorem dX3_at_22 : decode cX3_at 22 = .ok (.ireturn, 1) := by decide +kernel
theorem dX3_compare_0 : decode cX3_compare 0 = .ok (.aload_n 0, 1) := by decide +kernel
theorem dX3_compare_1 : decode cX3_compare 1 = .ok (.iconst 0, 1) := by decide +kernel
theorem dX3_compare_2 : decode cX3_compare 2 = .ok (.putfield 23, 3) := by decide +kernel
theorem dX3_compare_5 : decode cX3_compare 5 = .ok (.aload_n 0, 1) := by decide +kernel
theorem dX3_compare_6 : decode cX3_compare 6 = .ok (.iconst 0, 1) := by decide +kernel
theorem dX3_compare_7 : decode cX3_compare 7 = .ok (.putfield 26, 3) := by decide +kernel
theorem dX3_compare_10 : decode cX3_compare 10 = .ok (.iconst 0, 1) := by decide +kernel
theorem dX3_compare_11 : decode cX3_compare 11 = .ok (.istore_n 1, 1) := by decide +kernel
theorem dX3_compare_12 : decode cX3_compare 12 = .ok (.iload_n 1, 1) := by decide +kernel
theorem dX3_compare_13 : decode cX3_compare 13 = .ok (.aload_n 0, 1) := by decide +kernel
theorem dX3_compare_14 : decode cX3_compare 14 = .ok (.getfield 19, 3) := by decide +kernel
theorem dX3_compare_17 : decode cX3_compare 17 = .ok (.if_icmp .ge 73, 3) := by decide +kernel
theorem dX3_compare_20 : decode cX3_compare 20 = .ok (.iload_n 1, 1) := by decide +kernel
theorem dX3_compare_21 : decode cX3_compare 21 = .ok (.iconst 1, 1) := by decide +kernel
theorem dX3_compare_22 : decode cX3_compare 22 = .ok (.iadd, 1) := by decide +kernel
theorem dX3_compare_23 : decode cX3_compare 23 = .ok (.istore_n 2, 1) := by decide +kernel
theorem dX3_compare_24 : decode cX3_compare 24 = .ok (.iload_n 2, 1) := by decide +kernel
theorem dX3_compare_25 : decode cX3_compare 25 = .ok (.aload_n 0, 1) := by decide +kernel
theorem dX3_compare_26 : decode cX3_compare 26 = .ok (.getfield 19, 3) := by decide +kernel
theorem dX3_compare_29 : decode cX3_compare 29 = .ok (.if_icmp .ge 55, 3) := by decide +kernel
theorem dX3_compare_32 : decode cX3_compare 32 = .ok (.aload_n 0, 1) := by decide +kernel
theorem dX3_compare_33 : decode cX3_compare 33 = .ok (.aload_n 0, 1) := by decide +kernel
theorem dX3_compare_34 : decode cX3_compare 34 = .ok (.getfield 9, 3) := by decide +kernel
theorem dX3_compare_37 : decode cX3_compare 37 = .ok (.iload_n 1, 1) := by decide +kernel
theorem dX3_compare_38 : decode cX3_compare 38 = .ok (.iaload, 1) := by decide +kernel
theorem dX3_compare_39 : decode cX3_compare 39 = .ok (.aload_n 0, 1) := by decide +kernel
theorem dX3_compare_40 : decode cX3_compare 40 = .ok (.getfield 9, 3) := by decide +kernel
theorem dX3_compare_43 : decode cX3_compare 43 = .ok (.iload_n 2, 1) := by decide +kernel
theorem dX3_compare_44 : decode cX3_compare 44 = .ok (.iaload, 1) := by decide +kernel
theorem dX3_compare_45 : decode cX3_compare 45 = .ok (.invokevirtual 54, 3) := by decide +kernel
theorem dX3_compare_48 : decode cX3_compare 48 = .ok (.ifCond .eq 30, 3) := by decide +kernel
theorem dX3_compare_51 : decode cX3_compare 51 = .ok (.aload_n 0, 1) := by decide +kernel
theorem dX3_compare_52 : decode cX3_compare 52 = .ok (.dup, 1) := by decide +kernel
theorem dX3_compare_53 : decode cX3_compare 53 = .ok (.getfield 23, 3) := by decide +kernel
theorem dX3_compare_56 : decode cX3_compare 56 = .ok (.iconst 1, 1) := by decide +kernel
theorem dX3_compare_57 : decode cX3_compare 57 = .ok (.aload_n 0, 1) := by decide +kernel
theorem dX3_compare_58 : decode cX3_compare 58 = .ok (.getfield 9, 3) := by decide +kernel
theorem dX3_compare_61 : decode cX3_compare 61 = .ok (.iload_n 1, 1) := by decide +kernel
theorem dX3_compare_62 : decode cX3_compare 62 = .ok (.iaload, 1) := by decide +kernel
theorem dX3_compare_63 : decode cX3_compare 63 = .ok (.ishl, 1) := by decide +kernel
theorem dX3_compare_64 : decode cX3_compare 64 = .ok (.ior, 1) := by decide +kernel
theorem dX3_compare_65 : decode cX3_compare 65 = .ok (.putfield 23, 3) := by decide +kernel
theorem dX3_compare_68 : decode cX3_compare 68 = .ok (.aload_n 0, 1) := by decide +kernel
theorem dX3_compare_69 : decode cX3_compare 69 = .ok (.dup, 1) := by decide +kernel
theorem dX3_compare_70 : decode cX3_compare 70 = .ok (.getfield 26, 3) := by decide +kernel
theorem dX3_compare_73 : decode cX3_compare 73 = .ok (.iconst 1, 1) := by decide +kernel
theorem dX3_compare_74 : decode cX3_compare 74 = .ok (.iadd, 1) := by decide +kernel
theorem dX3_compare_75 : decode cX3_compare 75 = .ok (.putfield 26, 3) := by decide +kernel
theorem dX3_compare_78 : decode cX3_compare 78 = .ok (.iinc 2 1, 3) := by decide +kernel
theorem dX3_compare_81 : decode cX3_compare 81 = .ok (.goto (-57), 3) := by decide +kernel
theorem dX3_compare_84 : decode cX3_compare 84 = .ok (.iinc 1 1, 3) := by decide +kernel
theorem dX3_compare_87 : decode cX3_compare 87 = .ok (.goto (-75), 3) := by decide +kernel
theorem dX3_compare_90 : decode cX3_compare 90 = .ok (.return_, 1) := by decide +kernel
theorem dX3_isAstray_0 : decode cX3_isAstray 0 = .ok (.aload_n 0, 1) := by decide +kernel
theorem dX3_isAstray_1 : decode cX3_isAstray 1 = .ok (.iload_n 1, 1) := by decide +kernel
theorem dX3_isAstray_2 : decode cX3_isAstray 2 = .ok (.invokevirtual 57, 3) := by decide +kernel
theorem dX3_isAstray_5 : decode cX3_isAstray 5 = .ok (.ifCond .eq 11, 3) := by decide +kernel
theorem dX3_isAstray_8 : decode cX3_isAstray 8 = .ok (.aload_n 0, 1) := by decide +kernel
theorem dX3_isAstray_9 : decode cX3_isAstray 9 = .ok (.iload_n 2, 1) := by decide +kernel
theorem dX3_isAstray_10 : decode cX3_isAstray 10 = .ok (.invokevirtual 57, 3) := by decide +kernel
theorem dX3_isAstray_13 : decode cX3_isAstray 13 = .ok (.ifCond .ne 5, 3) := by decide +kernel
theorem dX3_isAstray_16 : decode cX3_isAstray 16 = .ok (.iconst 0, 1) := by decide +kernel
theorem dX3_isAstray_17 : decode cX3_isAstray 17 = .ok (.ireturn, 1) := by decide +kernel
theorem dX3_isAstray_18 : decode cX3_isAstray 18 = .ok (.aload_n 0, 1) := by decide +kernel
theorem dX3_isAstray_19 : decode cX3_isAstray 19 = .ok (.iload_n 2, 1) := by decide +kernel
theorem dX3_isAstray_20 : decode cX3_isAstray 20 = .ok (.iload_n 1, 1) := by decide +kernel
theorem dX3_isAstray_21 : decode cX3_isAstray 21 = .ok (.invokevirtual 60, 3) := by decide +kernel
theorem dX3_isAstray_24 : decode cX3_isAstray 24 = .ok (.ifCond .ne 21, 3) := by decide +kernel
theorem dX3_isAstray_27 : decode cX3_isAstray 27 = .ok (.aload_n 0, 1) := by decide +kernel
theorem dX3_isAstray_28 : decode cX3_isAstray 28 = .ok (.iload_n 2, 1) := by decide +kernel
theorem dX3_isAstray_29 : decode cX3_isAstray 29 = .ok (.iload_n 1, 1) := by decide +kernel
theorem dX3_isAstray_30 : decode cX3_isAstray 30 = .ok (.invokevirtual 63, 3) := by decide +kernel
theorem dX3_isAstray_33 : decode cX3_isAstray 33 = .ok (.ifCond .eq 16, 3) := by decide +kernel
theorem dX3_isAstray_36 : decode cX3_isAstray 36 = .ok (.aload_n 0, 1) := by decide +kernel
theorem dX3_isAstray_37 : decode cX3_isAstray 37 = .ok (.iload_n 1, 1) := by decide +kernel
theorem dX3_isAstray_38 : decode cX3_isAstray 38 = .ok (.iload_n 2, 1) := by decide +kernel
theorem dX3_isAstray_39 : decode cX3_isAstray 39 = .ok (.invokevirtual 60, 3) := by decide +kernel
theorem dX3_isAstray_42 : decode cX3_isAstray 42 = .ok (.ifCond .ne 7, 3) := by decide +kernel
theorem dX3_isAstray_45 : decode cX3_isAstray 45 = .ok (.iconst 1, 1) := by decide +kernel
theorem dX3_isAstray_46 : decode cX3_isAstray 46 = .ok (.goto 4, 3) := by decide +kernel
theorem dX3_isAstray_49 : decode cX3_isAstray 49 = .ok (.iconst 0, 1) := by decide +kernel
theorem dX3_isAstray_50 : decode cX3_isAstray 50 = .ok (.ireturn, 1) := by decide +kernel
theorem dX3_hasArea_0 : decode cX3_hasArea 0 = .ok (.aload_n 0, 1) := by decide +kernel
theorem dX3_hasArea_1 : decode cX3_hasArea 1 = .ok (.getfield 15, 3) := by decide +kernel
theorem dX3_hasArea_4 : decode cX3_hasArea 4 = .ok (.iload_n 1, 1) := by decide +kernel
theorem dX3_hasArea_5 : decode cX3_hasArea 5 = .ok (.bipush 14, 2) := by decide +kernel
theorem dX3_hasArea_7 : decode cX3_hasArea 7 = .ok (.invokevirtual 43, 3) := by decide +kernel
theorem dX3_hasArea_10 : decode cX3_hasArea 10 = .ok (.ifCond .le 20, 3) := by decide +kernel
theorem dX3_hasArea_13 : decode cX3_hasArea 13 = .ok (.aload_n 0, 1) := by decide +kernel
theorem dX3_hasArea_14 : decode cX3_hasArea 14 = .ok (.getfield 15, 3) := by decide +kernel
theorem dX3_hasArea_17 : decode cX3_hasArea 17 = .ok (.iload_n 1, 1) := by decide +kernel
theorem dX3_hasArea_18 : decode cX3_hasArea 18 = .ok (.bipush 15, 2) := by decide +kernel
theorem dX3_hasArea_20 : decode cX3_hasArea 20 = .ok (.invokevirtual 43, 3) := by decide +kernel
theorem dX3_hasArea_23 : decode cX3_hasArea 23 = .ok (.ifCond .le 7, 3) := by decide +kernel
theorem dX3_hasArea_26 : decode cX3_hasArea 26 = .ok (.iconst 1, 1) := by decide +kernel
theorem dX3_hasArea_27 : decode cX3_hasArea 27 = .ok (.goto 4, 3) := by decide +kernel
theorem dX3_hasArea_30 : decode cX3_hasArea 30 = .ok (.iconst 0, 1) := by decide +kernel
theorem dX3_hasArea_31 : decode cX3_hasArea 31 = .ok (.ireturn, 1) := by decide +kernel
theorem dX3_isAbove_0 : decode cX3_isAbove 0 = .ok (.aload_n 0, 1) := by decide +kernel
theorem dX3_isAbove_1 : decode cX3_isAbove 1 = .ok (.getfield 15, 3) := by decide +kernel
theorem dX3_isAbove_4 : decode cX3_isAbove 4 = .ok (.iload_n 1, 1) := by decide +kernel
theorem dX3_isAbove_5 : decode cX3_isAbove 5 = .ok (.bipush 13, 2) := by decide +kernel
theorem dX3_isAbove_7 : decode cX3_isAbove 7 = .ok (.invokevirtual 43, 3) := by decide +kernel
theorem dX3_isAbove_10 : decode cX3_isAbove 10 = .ok (.aload_n 0, 1) := by decide +kernel
theorem dX3_isAbove_11 : decode cX3_isAbove 11 = .ok (.getfield 15, 3) := by decide +kernel
theorem dX3_isAbove_14 : decode cX3_isAbove 14 = .ok (.iload_n 1, 1) := by decide +kernel
theorem dX3_isAbove_15 : decode cX3_isAbove 15 = .ok (.bipush 15, 2) := by decide +kernel
theorem dX3_isAbove_17 : decode cX3_isAbove 17 = .ok (.invokevirtual 43, 3) := by decide +kernel
theorem dX3_isAbove_20 : decode cX3_isAbove 20 = .ok (.iadd, 1) := by decide +kernel
theorem dX3_isAbove_21 : decode cX3_isAbove 21 = .ok (.aload_n 0, 1) := by decide +kernel
theorem dX3_isAbove_22 : decode cX3_isAbove 22 = .ok (.getfield 15, 3) := by decide +kernel
theorem dX3_isAbove_25 : decode cX3_isAbove 25 = .ok (.iload_n 2, 1) := by decide +kernel
theorem dX3_isAbove_26 : decode cX3_isAbove 26 = .ok (.bipush 13, 2) := by decide +kernel
theorem dX3_isAbove_28 : decode cX3_isAbove 28 = .ok (.invokevirtual 43, 3) := by decide +kernel
theorem dX3_isAbove_31 : decode cX3_isAbove 31 = .ok (.if_icmp .gt 7, 3) := by decide +kernel
theorem dX3_isAbove_34 : decode cX3_isAbove 34 = .ok (.iconst 1, 1) := by decide +kernel
theorem dX3_isAbove_35 : decode cX3_isAbove 35 = .ok (.goto 4, 3) := by decide +kernel
theorem dX3_isAbove_38 : decode cX3_isAbove 38 = .ok (.iconst 0, 1) := by decide +kernel
theorem dX3_isAbove_39 : decode cX3_isAbove 39 = .ok (.ireturn, 1) := by decide +kernel
theorem dX3_isLeftOf_0 : decode cX3_isLeftOf 0 = .ok (.aload_n 0, 1) := by decide +kernel
theorem dX3_isLeftOf_1 : decode cX3_isLeftOf 1 = .ok (.getfield 15, 3) := by decide +kernel
theorem dX3_isLeftOf_4 : decode cX3_isLeftOf 4 = .ok (.iload_n 1, 1) := by decide +kernel
theorem dX3_isLeftOf_5 : decode cX3_isLeftOf 5 = .ok (.bipush 12, 2) := by decide +kernel
theorem dX3_isLeftOf_7 : decode cX3_isLeftOf 7 = .ok (.invokevirtual 43, 3) := by decide +kernel
theorem dX3_isLeftOf_10 : decode cX3_isLeftOf 10 = .ok (.aload_n 0, 1) := by decide +kernel
theorem dX3_isLeftOf_11 : decode cX3_isLeftOf 11 = .ok (.getfield 15, 3) := by decide +kernel
theorem dX3_isLeftOf_14 : decode cX3_isLeftOf 14 = .ok (.iload_n 1, 1) := by decide +kernel
theorem dX3_isLeftOf_15 : decode cX3_isLeftOf 15 = .ok (.bipush 14, 2) := by decide +kernel
theorem dX3_isLeftOf_17 : decode cX3_isLeftOf 17 = .ok (.invokevirtual 43, 3) := by decide +kernel
theorem dX3_isLeftOf_20 : decode cX3_isLeftOf 20 = .ok (.iadd, 1) := by decide +kernel
theorem dX3_isLeftOf_21 : decode cX3_isLeftOf 21 = .ok (.aload_n 0, 1) := by decide +kernel
theorem dX3_isLeftOf_22 : decode cX3_isLeftOf 22 = .ok (.getfield 15, 3) := by decide +kernel
theorem dX3_isLeftOf_25 : decode cX3_isLeftOf 25 = .ok (.iload_n 2, 1) := by decide +kernel
theorem dX3_isLeftOf_26 : decode cX3_isLeftOf 26 = .ok (.bipush 12, 2) := by decide +kernel
theorem dX3_isLeftOf_28 : decode cX3_isLeftOf 28 = .ok (.invokevirtual 43, 3) := by decide +kernel
theorem dX3_isLeftOf_31 : decode cX3_isLeftOf 31 = .ok (.if_icmp .gt 7, 3) := by decide +kernel
theorem dX3_isLeftOf_34 : decode cX3_isLeftOf 34 = .ok (.iconst 1, 1) := by decide +kernel
theorem dX3_isLeftOf_35 : decode cX3_isLeftOf 35 = .ok (.goto 4, 3) := by decide +kernel
theorem dX3_isLeftOf_38 : decode cX3_isLeftOf 38 = .ok (.iconst 0, 1) := by decide +kernel
theorem dX3_isLeftOf_39 : decode cX3_isLeftOf 39 = .ok (.ireturn, 1) := by decide +kernel
