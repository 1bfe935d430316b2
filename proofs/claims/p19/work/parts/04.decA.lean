theorem dX0_init_0 : decode cX0_init 0 = .ok (.aload_n 0, 1) := by decide +kernel
theorem dX0_init_1 : decode cX0_init 1 = .ok (.invokespecial 1, 3) := by decide +kernel
theorem dX0_init_4 : decode cX0_init 4 = .ok (.aload_n 0, 1) := by decide +kernel
theorem dX0_init_5 : decode cX0_init 5 = .ok (.iload_n 1, 1) := by decide +kernel
theorem dX0_init_6 : decode cX0_init 6 = .ok (.putfield 7, 3) := by decide +kernel
theorem dX0_init_9 : decode cX0_init 9 = .ok (.return_, 1) := by decide +kernel
theorem dX0_copyFrom_0 : decode cX0_copyFrom 0 = .ok (.aload_n 0, 1) := by decide +kernel
theorem dX0_copyFrom_1 : decode cX0_copyFrom 1 = .ok (.aload_n 1, 1) := by decide +kernel
theorem dX0_copyFrom_2 : decode cX0_copyFrom 2 = .ok (.getfield 13, 3) := by decide +kernel
theorem dX0_copyFrom_5 : decode cX0_copyFrom 5 = .ok (.putfield 13, 3) := by decide +kernel
theorem dX0_copyFrom_8 : decode cX0_copyFrom 8 = .ok (.aload_n 0, 1) := by decide +kernel
theorem dX0_copyFrom_9 : decode cX0_copyFrom 9 = .ok (.aload_n 1, 1) := by decide +kernel
theorem dX0_copyFrom_10 : decode cX0_copyFrom 10 = .ok (.getfield 16, 3) := by decide +kernel
theorem dX0_copyFrom_13 : decode cX0_copyFrom 13 = .ok (.putfield 16, 3) := by decide +kernel
theorem dX0_copyFrom_16 : decode cX0_copyFrom 16 = .ok (.aload_n 0, 1) := by decide +kernel
theorem dX0_copyFrom_17 : decode cX0_copyFrom 17 = .ok (.aload_n 1, 1) := by decide +kernel
theorem dX0_copyFrom_18 : decode cX0_copyFrom 18 = .ok (.getfield 20, 3) := by decide +kernel
theorem dX0_copyFrom_21 : decode cX0_copyFrom 21 = .ok (.putfield 20, 3) := by decide +kernel
theorem dX0_copyFrom_24 : decode cX0_copyFrom 24 = .ok (.aload_n 0, 1) := by decide +kernel
theorem dX0_copyFrom_25 : decode cX0_copyFrom 25 = .ok (.aload_n 1, 1) := by decide +kernel
theorem dX0_copyFrom_26 : decode cX0_copyFrom 26 = .ok (.getfield 23, 3) := by decide +kernel
theorem dX0_copyFrom_29 : decode cX0_copyFrom 29 = .ok (.putfield 23, 3) := by decide +kernel
theorem dX0_copyFrom_32 : decode cX0_copyFrom 32 = .ok (.aload_n 0, 1) := by decide +kernel
theorem dX0_copyFrom_33 : decode cX0_copyFrom 33 = .ok (.aload_n 1, 1) := by decide +kernel
theorem dX0_copyFrom_34 : decode cX0_copyFrom 34 = .ok (.getfield 26, 3) := by decide +kernel
theorem dX0_copyFrom_37 : decode cX0_copyFrom 37 = .ok (.putfield 26, 3) := by decide +kernel
theorem dX0_copyFrom_40 : decode cX0_copyFrom 40 = .ok (.aload_n 0, 1) := by decide +kernel
theorem dX0_copyFrom_41 : decode cX0_copyFrom 41 = .ok (.aload_n 1, 1) := by decide +kernel
theorem dX0_copyFrom_42 : decode cX0_copyFrom 42 = .ok (.getfield 29, 3) := by decide +kernel
theorem dX0_copyFrom_45 : decode cX0_copyFrom 45 = .ok (.putfield 29, 3) := by decide +kernel
theorem dX0_copyFrom_48 : decode cX0_copyFrom 48 = .ok (.return_, 1) := by decide +kernel
theorem dX0_isBunchedWith_0 : decode cX0_isBunchedWith 0 = .ok (.aload_n 0, 1) := by decide +kernel
theorem dX0_isBunchedWith_1 : decode cX0_isBunchedWith 1 = .ok (.getfield 13, 3) := by decide +kernel
theorem dX0_isBunchedWith_4 : decode cX0_isBunchedWith 4 = .ok (.aload_n 1, 1) := by decide +kernel
theorem dX0_isBunchedWith_5 : decode cX0_isBunchedWith 5 = .ok (.getfield 13, 3) := by decide +kernel
theorem dX0_isBunchedWith_8 : decode cX0_isBunchedWith 8 = .ok (.if_icmp .ne 18, 3) := by decide +kernel
theorem dX0_isBunchedWith_11 : decode cX0_isBunchedWith 11 = .ok (.aload_n 0, 1) := by decide +kernel
theorem dX0_isBunchedWith_12 : decode cX0_isBunchedWith 12 = .ok (.getfield 16, 3) := by decide +kernel
theorem dX0_isBunchedWith_15 : decode cX0_isBunchedWith 15 = .ok (.aload_n 1, 1) := by decide +kernel
theorem dX0_isBunchedWith_16 : decode cX0_isBunchedWith 16 = .ok (.getfield 16, 3) := by decide +kernel
theorem dX0_isBunchedWith_19 : decode cX0_isBunchedWith 19 = .ok (.if_icmp .ne 7, 3) := by decide +kernel
theorem dX0_isBunchedWith_22 : decode cX0_isBunchedWith 22 = .ok (.iconst 1, 1) := by decide +kernel
theorem dX0_isBunchedWith_23 : decode cX0_isBunchedWith 23 = .ok (.goto 4, 3) := by decide +kernel
theorem dX0_isBunchedWith_26 : decode cX0_isBunchedWith 26 = .ok (.iconst 0, 1) := by decide +kernel
theorem dX0_isBunchedWith_27 : decode cX0_isBunchedWith 27 = .ok (.ireturn, 1) := by decide +kernel
theorem dX0_tell_0 : decode cX0_tell 0 = .ok (.iload_n 1, 1) := by decide +kernel
theorem dX0_tell_1 : decode cX0_tell 1 = .ok (.tableswitch 68 0 4 #[35, 40, 53, 58, 63], 35) := by decide +kernel
theorem dX0_tell_36 : decode cX0_tell 36 = .ok (.aload_n 0, 1) := by decide +kernel
theorem dX0_tell_37 : decode cX0_tell 37 = .ok (.getfield 13, 3) := by decide +kernel
theorem dX0_tell_40 : decode cX0_tell 40 = .ok (.ireturn, 1) := by decide +kernel
theorem dX0_tell_41 : decode cX0_tell 41 = .ok (.aload_n 0, 1) := by decide +kernel
theorem dX0_tell_42 : decode cX0_tell 42 = .ok (.getfield 16, 3) := by decide +kernel
theorem dX0_tell_45 : decode cX0_tell 45 = .ok (.ifCond .eq 7, 3) := by decide +kernel
theorem dX0_tell_48 : decode cX0_tell 48 = .ok (.iconst 1, 1) := by decide +kernel
theorem dX0_tell_49 : decode cX0_tell 49 = .ok (.goto 4, 3) := by decide +kernel
theorem dX0_tell_52 : decode cX0_tell 52 = .ok (.iconst 0, 1) := by decide +kernel
theorem dX0_tell_53 : decode cX0_tell 53 = .ok (.ireturn, 1) := by decide +kernel
theorem dX0_tell_54 : decode cX0_tell 54 = .ok (.aload_n 0, 1) := by decide +kernel
theorem dX0_tell_55 : decode cX0_tell 55 = .ok (.getfield 20, 3) := by decide +kernel
theorem dX0_tell_58 : decode cX0_tell 58 = .ok (.ireturn, 1) := by decide +kernel
theorem dX0_tell_59 : decode cX0_tell 59 = .ok (.aload_n 0, 1) := by decide +kernel
theorem dX0_tell_60 : decode cX0_tell 60 = .ok (.getfield 23, 3) := by decide +kernel
theorem dX0_tell_63 : decode cX0_tell 63 = .ok (.ireturn, 1) := by decide +kernel
theorem dX0_tell_64 : decode cX0_tell 64 = .ok (.aload_n 0, 1) := by decide +kernel
theorem dX0_tell_65 : decode cX0_tell 65 = .ok (.getfield 26, 3) := by decide +kernel
theorem dX0_tell_68 : decode cX0_tell 68 = .ok (.ireturn, 1) := by decide +kernel
theorem dX0_tell_69 : decode cX0_tell 69 = .ok (.aload_n 0, 1) := by decide +kernel
theorem dX0_tell_70 : decode cX0_tell 70 = .ok (.getfield 29, 3) := by decide +kernel
theorem dX0_tell_73 : decode cX0_tell 73 = .ok (.ireturn, 1) := by decide +kernel
theorem dX1_init_0 : decode cX1_init 0 = .ok (.aload_n 0, 1) := by decide +kernel
theorem dX1_init_1 : decode cX1_init 1 = .ok (.invokespecial 3, 3) := by decide +kernel
theorem dX1_init_4 : decode cX1_init 4 = .ok (.aload_n 0, 1) := by decide +kernel
theorem dX1_init_5 : decode cX1_init 5 = .ok (.bipush 10, 2) := by decide +kernel
theorem dX1_init_7 : decode cX1_init 7 = .ok (.anewarray 9, 3) := by decide +kernel
theorem dX1_init_10 : decode cX1_init 10 = .ok (.putfield 11, 3) := by decide +kernel
theorem dX1_init_13 : decode cX1_init 13 = .ok (.aload_n 0, 1) := by decide +kernel
theorem dX1_init_14 : decode cX1_init 14 = .ok (.bipush 6, 2) := by decide +kernel
theorem dX1_init_16 : decode cX1_init 16 = .ok (.anewarray 17, 3) := by decide +kernel
theorem dX1_init_19 : decode cX1_init 19 = .ok (.putfield 19, 3) := by decide +kernel
theorem dX1_init_22 : decode cX1_init 22 = .ok (.aload_n 0, 1) := by decide +kernel
theorem dX1_init_23 : decode cX1_init 23 = .ok (.bipush 50, 2) := by decide +kernel
theorem dX1_init_25 : decode cX1_init 25 = .ok (.anewarray 23, 3) := by decide +kernel
theorem dX1_init_28 : decode cX1_init 28 = .ok (.putfield 25, 3) := by decide +kernel
theorem dX1_init_31 : decode cX1_init 31 = .ok (.iconst 0, 1) := by decide +kernel
theorem dX1_init_32 : decode cX1_init 32 = .ok (.istore_n 1, 1) := by decide +kernel
theorem dX1_init_33 : decode cX1_init 33 = .ok (.iload_n 1, 1) := by decide +kernel
theorem dX1_init_34 : decode cX1_init 34 = .ok (.bipush 10, 2) := by decide +kernel
theorem dX1_init_36 : decode cX1_init 36 = .ok (.if_icmp .ge 25, 3) := by decide +kernel
theorem dX1_init_39 : decode cX1_init 39 = .ok (.aload_n 0, 1) := by decide +kernel
theorem dX1_init_40 : decode cX1_init 40 = .ok (.getfield 11, 3) := by decide +kernel
theorem dX1_init_43 : decode cX1_init 43 = .ok (.iload_n 1, 1) := by decide +kernel
theorem dX1_init_44 : decode cX1_init 44 = .ok (.new 9, 3) := by decide +kernel
theorem dX1_init_47 : decode cX1_init 47 = .ok (.dup, 1) := by decide +kernel
theorem dX1_init_48 : decode cX1_init 48 = .ok (.iload_n 1, 1) := by decide +kernel
theorem dX1_init_49 : decode cX1_init 49 = .ok (.iconst 2, 1) := by decide +kernel
theorem dX1_init_50 : decode cX1_init 50 = .ok (.idiv, 1) := by decide +kernel
theorem dX1_init_51 : decode cX1_init 51 = .ok (.invokespecial 29, 3) := by decide +kernel
theorem dX1_init_54 : decode cX1_init 54 = .ok (.aastore, 1) := by decide +kernel
theorem dX1_init_55 : decode cX1_init 55 = .ok (.iinc 1 1, 3) := by decide +kernel
theorem dX1_init_58 : decode cX1_init 58 = .ok (.goto (-25), 3) := by decide +kernel
theorem dX1_init_61 : decode cX1_init 61 = .ok (.iconst 0, 1) := by decide +kernel
theorem dX1_init_62 : decode cX1_init 62 = .ok (.istore_n 1, 1) := by decide +kernel
theorem dX1_init_63 : decode cX1_init 63 = .ok (.iload_n 1, 1) := by decide +kernel
theorem dX1_init_64 : decode cX1_init 64 = .ok (.bipush 6, 2) := by decide +kernel
theorem dX1_init_66 : decode cX1_init 66 = .ok (.if_icmp .ge 23, 3) := by decide +kernel
theorem dX1_init_69 : decode cX1_init 69 = .ok (.aload_n 0, 1) := by decide +kernel
theorem dX1_init_70 : decode cX1_init 70 = .ok (.getfield 19, 3) := by decide +kernel
theorem dX1_init_73 : decode cX1_init 73 = .ok (.iload_n 1, 1) := by decide +kernel
theorem dX1_init_74 : decode cX1_init 74 = .ok (.new 17, 3) := by decide +kernel
theorem dX1_init_77 : decode cX1_init 77 = .ok (.dup, 1) := by decide +kernel
theorem dX1_init_78 : decode cX1_init 78 = .ok (.iload_n 1, 1) := by decide +kernel
theorem dX1_init_79 : decode cX1_init 79 = .ok (.invokespecial 32, 3) := by decide +kernel
theorem dX1_init_82 : decode cX1_init 82 = .ok (.aastore, 1) := by decide +kernel
theorem dX1_init_83 : decode cX1_init 83 = .ok (.iinc 1 1, 3) := by decide +kernel
theorem dX1_init_86 : decode cX1_init 86 = .ok (.goto (-23), 3) := by decide +kernel
theorem dX1_init_89 : decode cX1_init 89 = .ok (.iconst 0, 1) := by decide +kernel
theorem dX1_init_90 : decode cX1_init 90 = .ok (.istore_n 1, 1) := by decide +kernel
theorem dX1_init_91 : decode cX1_init 91 = .ok (.iload_n 1, 1) := by decide +kernel
theorem dX1_init_92 : decode cX1_init 92 = .ok (.bipush 50, 2) := by decide +kernel
theorem dX1_init_94 : decode cX1_init 94 = .ok (.if_icmp .ge 22, 3) := by decide +kernel
theorem dX1_init_97 : decode cX1_init 97 = .ok (.aload_n 0, 1) := by decide +kernel
theorem dX1_init_98 : decode cX1_init 98 = .ok (.getfield 25, 3) := by decide +kernel
theorem dX1_init_101 : decode cX1_init 101 = .ok (.iload_n 1, 1) := by decide +kernel
theorem dX1_init_102 : decode cX1_init 102 = .ok (.new 23, 3) := by decide +kernel
theorem dX1_init_105 : decode cX1_init 105 = .ok (.dup, 1) := by decide +kernel
theorem dX1_init_106 : decode cX1_init 106 = .ok (.invokespecial 33, 3) := by decide +kernel
theorem dX1_init_109 : decode cX1_init 109 = .ok (.aastore, 1) := by decide +kernel
theorem dX1_init_110 : decode cX1_init 110 = .ok (.iinc 1 1, 3) := by decide +kernel
theorem dX1_init_113 : decode cX1_init 113 = .ok (.goto (-22), 3) := by decide +kernel
theorem dX1_init_116 : decode cX1_init 116 = .ok (.return_, 1) := by decide +kernel
theorem dX1_copyFrom_0 : decode cX1_copyFrom 0 = .ok (.iconst 0, 1) := by decide +kernel
theorem dX1_copyFrom_1 : decode cX1_copyFrom 1 = .ok (.istore_n 2, 1) := by decide +kernel
theorem dX1_copyFrom_2 : decode cX1_copyFrom 2 = .ok (.iload_n 2, 1) := by decide +kernel
theorem dX1_copyFrom_3 : decode cX1_copyFrom 3 = .ok (.bipush 10, 2) := by decide +kernel
theorem dX1_copyFrom_5 : decode cX1_copyFrom 5 = .ok (.if_icmp .ge 24, 3) := by decide +kernel
theorem dX1_copyFrom_8 : decode cX1_copyFrom 8 = .ok (.aload_n 0, 1) := by decide +kernel
theorem dX1_copyFrom_9 : decode cX1_copyFrom 9 = .ok (.getfield 11, 3) := by decide +kernel
theorem dX1_copyFrom_12 : decode cX1_copyFrom 12 = .ok (.iload_n 2, 1) := by decide +kernel
theorem dX1_copyFrom_13 : decode cX1_copyFrom 13 = .ok (.aaload, 1) := by decide +kernel
theorem dX1_copyFrom_14 : decode cX1_copyFrom 14 = .ok (.aload_n 1, 1) := by decide +kernel
theorem dX1_copyFrom_15 : decode cX1_copyFrom 15 = .ok (.getfield 11, 3) := by decide +kernel
theorem dX1_copyFrom_18 : decode cX1_copyFrom 18 = .ok (.iload_n 2, 1) := by decide +kernel
theorem dX1_copyFrom_19 : decode cX1_copyFrom 19 = .ok (.aaload, 1) := by decide +kernel
theorem dX1_copyFrom_20 : decode cX1_copyFrom 20 = .ok (.invokevirtual 34, 3) := by decide +kernel
theorem dX1_copyFrom_23 : decode cX1_copyFrom 23 = .ok (.iinc 2 1, 3) := by decide +kernel
theorem dX1_copyFrom_26 : decode cX1_copyFrom 26 = .ok (.goto (-24), 3) := by decide +kernel
theorem dX1_copyFrom_29 : decode cX1_copyFrom 29 = .ok (.iconst 0, 1) := by decide +kernel
theorem dX1_copyFrom_30 : decode cX1_copyFrom 30 = .ok (.istore_n 2, 1) := by decide +kernel
theorem dX1_copyFrom_31 : decode cX1_copyFrom 31 = .ok (.iload_n 2, 1) := by decide +kernel
theorem dX1_copyFrom_32 : decode cX1_copyFrom 32 = .ok (.aload_n 1, 1) := by decide +kernel
theorem dX1_copyFrom_33 : decode cX1_copyFrom 33 = .ok (.getfield 38, 3) := by decide +kernel
theorem dX1_copyFrom_36 : decode cX1_copyFrom 36 = .ok (.if_icmp .ge 24, 3) := by decide +kernel
theorem dX1_copyFrom_39 : decode cX1_copyFrom 39 = .ok (.aload_n 0, 1) := by decide +kernel
theorem dX1_copyFrom_40 : decode cX1_copyFrom 40 = .ok (.getfield 19, 3) := by decide +kernel
theorem dX1_copyFrom_43 : decode cX1_copyFrom 43 = .ok (.iload_n 2, 1) := by decide +kernel
theorem dX1_copyFrom_44 : decode cX1_copyFrom 44 = .ok (.aaload, 1) := by decide +kernel
theorem dX1_copyFrom_45 : decode cX1_copyFrom 45 = .ok (.aload_n 1, 1) := by decide +kernel
theorem dX1_copyFrom_46 : decode cX1_copyFrom 46 = .ok (.getfield 19, 3) := by decide +kernel
theorem dX1_copyFrom_49 : decode cX1_copyFrom 49 = .ok (.iload_n 2, 1) := by decide +kernel
theorem dX1_copyFrom_50 : decode cX1_copyFrom 50 = .ok (.aaload, 1) := by decide +kernel
theorem dX1_copyFrom_51 : decode cX1_copyFrom 51 = .ok (.invokevirtual 42, 3) := by decide +kernel
theorem dX1_copyFrom_54 : decode cX1_copyFrom 54 = .ok (.iinc 2 1, 3) := by decide +kernel
theorem dX1_copyFrom_57 : decode cX1_copyFrom 57 = .ok (.goto (-26), 3) := by decide +kernel
theorem dX1_copyFrom_60 : decode cX1_copyFrom 60 = .ok (.iconst 0, 1) := by decide +kernel
theorem dX1_copyFrom_61 : decode cX1_copyFrom 61 = .ok (.istore_n 2, 1) := by decide +kernel
theorem dX1_copyFrom_62 : decode cX1_copyFrom 62 = .ok (.iload_n 2, 1) := by decide +kernel
theorem dX1_copyFrom_63 : decode cX1_copyFrom 63 = .ok (.aload_n 1, 1) := by decide +kernel
theorem dX1_copyFrom_64 : decode cX1_copyFrom 64 = .ok (.getfield 45, 3) := by decide +kernel
theorem dX1_copyFrom_67 : decode cX1_copyFrom 67 = .ok (.if_icmp .ge 24, 3) := by decide +kernel
theorem dX1_copyFrom_70 : decode cX1_copyFrom 70 = .ok (.aload_n 0, 1) := by decide +kernel
theorem dX1_copyFrom_71 : decode cX1_copyFrom 71 = .ok (.getfield 25, 3) := by decide +kernel
theorem dX1_copyFrom_74 : decode cX1_copyFrom 74 = .ok (.iload_n 2, 1) := by decide +kernel
theorem dX1_copyFrom_75 : decode cX1_copyFrom 75 = .ok (.aaload, 1) := by decide +kernel
theorem dX1_copyFrom_76 : decode cX1_copyFrom 76 = .ok (.aload_n 1, 1) := by decide +kernel
theorem dX1_copyFrom_77 : decode cX1_copyFrom 77 = .ok (.getfield 25, 3) := by decide +kernel
theorem dX1_copyFrom_80 : decode cX1_copyFrom 80 = .ok (.iload_n 2, 1) := by decide +kernel
theorem dX1_copyFrom_81 : decode cX1_copyFrom 81 = .ok (.aaload, 1) := by decide +kernel
theorem dX1_copyFrom_82 : decode cX1_copyFrom 82 = .ok (.invokevirtual 48, 3) := by decide +kernel
theorem dX1_copyFrom_85 : decode cX1_copyFrom 85 = .ok (.iinc 2 1, 3) := by decide +kernel
theorem dX1_copyFrom_88 : decode cX1_copyFrom 88 = .ok (.goto (-26), 3) := by decide +kernel
theorem dX1_copyFrom_91 : decode cX1_copyFrom 91 = .ok (.aload_n 0, 1) := by decide +kernel
theorem dX1_copyFrom_92 : decode cX1_copyFrom 92 = .ok (.aload_n 1, 1) := by decide +kernel
theorem dX1_copyFrom_93 : decode cX1_copyFrom 93 = .ok (.getfield 38, 3) := by decide +kernel
theorem dX1_copyFrom_96 : decode cX1_copyFrom 96 = .ok (.putfield 38, 3) := by decide +kernel
theorem dX1_copyFrom_99 : decode cX1_copyFrom 99 = .ok (.aload_n 0, 1) := by decide +kernel
theorem dX1_copyFrom_100 : decode cX1_copyFrom 100 = .ok (.aload_n 1, 1) := by decide +kernel
theorem dX1_copyFrom_101 : decode cX1_copyFrom 101 = .ok (.getfield 45, 3) := by decide +kernel
theorem dX1_copyFrom_104 : decode cX1_copyFrom 104 = .ok (.putfield 45, 3) := by decide +kernel
theorem dX1_copyFrom_107 : decode cX1_copyFrom 107 = .ok (.aload_n 0, 1) := by decide +kernel
theorem dX1_copyFrom_108 : decode cX1_copyFrom 108 = .ok (.aload_n 1, 1) := by decide +kernel
theorem dX1_copyFrom_109 : decode cX1_copyFrom 109 = .ok (.getfield 51, 3) := by decide +kernel
theorem dX1_copyFrom_112 : decode cX1_copyFrom 112 = .ok (.putfield 51, 3) := by decide +kernel
theorem dX1_copyFrom_115 : decode cX1_copyFrom 115 = .ok (.aload_n 0, 1) := by decide +kernel
theorem dX1_copyFrom_116 : decode cX1_copyFrom 116 = .ok (.aload_n 1, 1) := by decide +kernel
theorem dX1_copyFrom_117 : decode cX1_copyFrom 117 = .ok (.getfield 54, 3) := by decide +kernel
theorem dX1_copyFrom_120 : decode cX1_copyFrom 120 = .ok (.putfield 54, 3) := by decide +kernel
theorem dX1_copyFrom_123 : decode cX1_copyFrom 123 = .ok (.return_, 1) := by decide +kernel
theorem dX1_stopAt_0 : decode cX1_stopAt 0 = .ok (.iload_n 1, 1) := by decide +kernel
theorem dX1_stopAt_1 : decode cX1_stopAt 1 = .ok (.bipush 10, 2) := by decide +kernel
theorem dX1_stopAt_3 : decode cX1_stopAt 3 = .ok (.irem, 1) := by decide +kernel
theorem dX1_stopAt_4 : decode cX1_stopAt 4 = .ok (.istore_n 2, 1) := by decide +kernel
theorem dX1_stopAt_5 : decode cX1_stopAt 5 = .ok (.aload_n 0, 1) := by decide +kernel
theorem dX1_stopAt_6 : decode cX1_stopAt 6 = .ok (.getfield 11, 3) := by decide +kernel
theorem dX1_stopAt_9 : decode cX1_stopAt 9 = .ok (.iload_n 2, 1) := by decide +kernel
theorem dX1_stopAt_10 : decode cX1_stopAt 10 = .ok (.ifCond .ge 10, 3) := by decide +kernel
theorem dX1_stopAt_13 : decode cX1_stopAt 13 = .ok (.iload_n 2, 1) := by decide +kernel
theorem dX1_stopAt_14 : decode cX1_stopAt 14 = .ok (.bipush 10, 2) := by decide +kernel
theorem dX1_stopAt_16 : decode cX1_stopAt 16 = .ok (.iadd, 1) := by decide +kernel
theorem dX1_stopAt_17 : decode cX1_stopAt 17 = .ok (.goto 4, 3) := by decide +kernel
theorem dX1_stopAt_20 : decode cX1_stopAt 20 = .ok (.iload_n 2, 1) := by decide +kernel
theorem dX1_stopAt_21 : decode cX1_stopAt 21 = .ok (.aaload, 1) := by decide +kernel
theorem dX1_stopAt_22 : decode cX1_stopAt 22 = .ok (.areturn, 1) := by decide +kernel
theorem dX1_addBus_0 : decode cX1_addBus 0 = .ok (.aload_n 0, 1) := by decide +kernel
theorem dX1_addBus_1 : decode cX1_addBus 1 = .ok (.getfield 19, 3) := by decide +kernel
theorem dX1_addBus_4 : decode cX1_addBus 4 = .ok (.aload_n 0, 1) := by decide +kernel
theorem dX1_addBus_5 : decode cX1_addBus 5 = .ok (.getfield 38, 3) := by decide +kernel
theorem dX1_addBus_8 : decode cX1_addBus 8 = .ok (.aaload, 1) := by decide +kernel
theorem dX1_addBus_9 : decode cX1_addBus 9 = .ok (.astore_n 3, 1) := by decide +kernel
theorem dX1_addBus_10 : decode cX1_addBus 10 = .ok (.aload_n 3, 1) := by decide +kernel
theorem dX1_addBus_11 : decode cX1_addBus 11 = .ok (.iload_n 1, 1) := by decide +kernel
theorem dX1_addBus_12 : decode cX1_addBus 12 = .ok (.putfield 57, 3) := by decide +kernel
theorem dX1_addBus_15 : decode cX1_addBus 15 = .ok (.aload_n 3, 1) := by decide +kernel
theorem dX1_addBus_16 : decode cX1_addBus 16 = .ok (.iconst 1, 1) := by decide +kernel
theorem dX1_addBus_17 : decode cX1_addBus 17 = .ok (.putfield 60, 3) := by decide +kernel
theorem dX1_addBus_20 : decode cX1_addBus 20 = .ok (.aload_n 3, 1) := by decide +kernel
theorem dX1_addBus_21 : decode cX1_addBus 21 = .ok (.iload_n 2, 1) := by decide +kernel
theorem dX1_addBus_22 : decode cX1_addBus 22 = .ok (.putfield 63, 3) := by decide +kernel
theorem dX1_addBus_25 : decode cX1_addBus 25 = .ok (.aload_n 0, 1) := by decide +kernel
theorem dX1_addBus_26 : decode cX1_addBus 26 = .ok (.dup, 1) := by decide +kernel
theorem dX1_addBus_27 : decode cX1_addBus 27 = .ok (.getfield 38, 3) := by decide +kernel
theorem dX1_addBus_30 : decode cX1_addBus 30 = .ok (.iconst 1, 1) := by decide +kernel
theorem dX1_addBus_31 : decode cX1_addBus 31 = .ok (.iadd, 1) := by decide +kernel
theorem dX1_addBus_32 : decode cX1_addBus 32 = .ok (.putfield 38, 3) := by decide +kernel
theorem dX1_addBus_35 : decode cX1_addBus 35 = .ok (.aload_n 3, 1) := by decide +kernel
theorem dX1_addBus_36 : decode cX1_addBus 36 = .ok (.getfield 66, 3) := by decide +kernel
theorem dX1_addBus_39 : decode cX1_addBus 39 = .ok (.ireturn, 1) := by decide +kernel
theorem dX1_addPassenger_0 : decode cX1_addPassenger 0 = .ok (.aload_n 0, 1) := by decide +kernel
theorem dX1_addPassenger_1 : decode cX1_addPassenger 1 = .ok (.getfield 25, 3) := by decide +kernel
theorem dX1_addPassenger_4 : decode cX1_addPassenger 4 = .ok (.aload_n 0, 1) := by decide +kernel
theorem dX1_addPassenger_5 : decode cX1_addPassenger 5 = .ok (.getfield 45, 3) := by decide +kernel
theorem dX1_addPassenger_8 : decode cX1_addPassenger 8 = .ok (.aaload, 1) := by decide +kernel
theorem dX1_addPassenger_9 : decode cX1_addPassenger 9 = .ok (.astore_n 3, 1) := by decide +kernel
theorem dX1_addPassenger_10 : decode cX1_addPassenger 10 = .ok (.aload_n 3, 1) := by decide +kernel
theorem dX1_addPassenger_11 : decode cX1_addPassenger 11 = .ok (.iload_n 1, 1) := by decide +kernel
theorem dX1_addPassenger_12 : decode cX1_addPassenger 12 = .ok (.putfield 69, 3) := by decide +kernel
theorem dX1_addPassenger_15 : decode cX1_addPassenger 15 = .ok (.aload_n 3, 1) := by decide +kernel
theorem dX1_addPassenger_16 : decode cX1_addPassenger 16 = .ok (.iload_n 2, 1) := by decide +kernel
theorem dX1_addPassenger_17 : decode cX1_addPassenger 17 = .ok (.putfield 70, 3) := by decide +kernel
theorem dX1_addPassenger_20 : decode cX1_addPassenger 20 = .ok (.aload_n 0, 1) := by decide +kernel
theorem dX1_addPassenger_21 : decode cX1_addPassenger 21 = .ok (.dup, 1) := by decide +kernel
theorem dX1_addPassenger_22 : decode cX1_addPassenger 22 = .ok (.getfield 45, 3) := by decide +kernel
theorem dX1_addPassenger_25 : decode cX1_addPassenger 25 = .ok (.iconst 1, 1) := by decide +kernel
theorem dX1_addPassenger_26 : decode cX1_addPassenger 26 = .ok (.iadd, 1) := by decide +kernel
theorem dX1_addPassenger_27 : decode cX1_addPassenger 27 = .ok (.putfield 45, 3) := by decide +kernel
theorem dX1_addPassenger_30 : decode cX1_addPassenger 30 = .ok (.aload_n 0, 1) := by decide +kernel
theorem dX1_addPassenger_31 : decode cX1_addPassenger 31 = .ok (.getfield 45, 3) := by decide +kernel
theorem dX1_addPassenger_34 : decode cX1_addPassenger 34 = .ok (.iconst 1, 1) := by decide +kernel
theorem dX1_addPassenger_35 : decode cX1_addPassenger 35 = .ok (.isub, 1) := by decide +kernel
theorem dX1_addPassenger_36 : decode cX1_addPassenger 36 = .ok (.ireturn, 1) := by decide +kernel
theorem dX1_fareBetween_0 : decode cX1_fareBetween 0 = .ok (.iload_n 1, 1) := by decide +kernel
theorem dX1_fareBetween_1 : decode cX1_fareBetween 1 = .ok (.iload_n 2, 1) := by decide +kernel
theorem dX1_fareBetween_2 : decode cX1_fareBetween 2 = .ok (.if_icmp .ne 5, 3) := by decide +kernel
theorem dX1_fareBetween_5 : decode cX1_fareBetween 5 = .ok (.iconst 0, 1) := by decide +kernel
theorem dX1_fareBetween_6 : decode cX1_fareBetween 6 = .ok (.ireturn, 1) := by decide +kernel
theorem dX1_fareBetween_7 : decode cX1_fareBetween 7 = .ok (.iconst 2, 1) := by decide +kernel
theorem dX1_fareBetween_8 : decode cX1_fareBetween 8 = .ok (.istore_n 3, 1) := by decide +kernel
theorem dX1_fareBetween_9 : decode cX1_fareBetween 9 = .ok (.iload_n 1, 1) := by decide +kernel
theorem dX1_fareBetween_10 : decode cX1_fareBetween 10 = .ok (.iload_n 2, 1) := by decide +kernel
theorem dX1_fareBetween_11 : decode cX1_fareBetween 11 = .ok (.if_icmp .ge 7, 3) := by decide +kernel
theorem dX1_fareBetween_14 : decode cX1_fareBetween 14 = .ok (.iload_n 2, 1) := by decide +kernel
theorem dX1_fareBetween_15 : decode cX1_fareBetween 15 = .ok (.goto 7, 3) := by decide +kernel
theorem dX1_fareBetween_18 : decode cX1_fareBetween 18 = .ok (.iload_n 2, 1) := by decide +kernel
theorem dX1_fareBetween_19 : decode cX1_fareBetween 19 = .ok (.bipush 10, 2) := by decide +kernel
theorem dX1_fareBetween_21 : decode cX1_fareBetween 21 = .ok (.iadd, 1) := by decide +kernel
theorem dX1_fareBetween_22 : decode cX1_fareBetween 22 = .ok (.istore 4, 2) := by decide +kernel
theorem dX1_fareBetween_24 : decode cX1_fareBetween 24 = .ok (.iload_n 1, 1) := by decide +kernel
theorem dX1_fareBetween_25 : decode cX1_fareBetween 25 = .ok (.istore 5, 2) := by decide +kernel
theorem dX1_fareBetween_27 : decode cX1_fareBetween 27 = .ok (.iload 5, 2) := by decide +kernel
theorem dX1_fareBetween_29 : decode cX1_fareBetween 29 = .ok (.iload 4, 2) := by decide +kernel
theorem dX1_fareBetween_31 : decode cX1_fareBetween 31 = .ok (.if_icmp .ge 35, 3) := by decide +kernel
theorem dX1_fareBetween_34 : decode cX1_fareBetween 34 = .ok (.aload_n 0, 1) := by decide +kernel
theorem dX1_fareBetween_35 : decode cX1_fareBetween 35 = .ok (.iload 5, 2) := by decide +kernel
theorem dX1_fareBetween_37 : decode cX1_fareBetween 37 = .ok (.invokevirtual 73, 3) := by decide +kernel
theorem dX1_fareBetween_40 : decode cX1_fareBetween 40 = .ok (.getfield 77, 3) := by decide +kernel
theorem dX1_fareBetween_43 : decode cX1_fareBetween 43 = .ok (.aload_n 0, 1) := by decide +kernel
theorem dX1_fareBetween_44 : decode cX1_fareBetween 44 = .ok (.iload 5, 2) := by decide +kernel
theorem dX1_fareBetween_46 : decode cX1_fareBetween 46 = .ok (.iconst 1, 1) := by decide +kernel
theorem dX1_fareBetween_47 : decode cX1_fareBetween 47 = .ok (.iadd, 1) := by decide +kernel
theorem dX1_fareBetween_48 : decode cX1_fareBetween 48 = .ok (.invokevirtual 73, 3) := by decide +kernel
theorem dX1_fareBetween_51 : decode cX1_fareBetween 51 = .ok (.getfield 77, 3) := by decide +kernel
theorem dX1_fareBetween_54 : decode cX1_fareBetween 54 = .ok (.if_icmp .eq 6, 3) := by decide +kernel
theorem dX1_fareBetween_57 : decode cX1_fareBetween 57 = .ok (.iinc 3 1, 3) := by decide +kernel
theorem dX1_fareBetween_60 : decode cX1_fareBetween 60 = .ok (.iinc 5 1, 3) := by decide +kernel
theorem dX1_fareBetween_63 : decode cX1_fareBetween 63 = .ok (.goto (-36), 3) := by decide +kernel
theorem dX1_fareBetween_66 : decode cX1_fareBetween 66 = .ok (.iload_n 3, 1) := by decide +kernel
theorem dX1_fareBetween_67 : decode cX1_fareBetween 67 = .ok (.ireturn, 1) := by decide +kernel
theorem dX1_passMinutes_0 : decode cX1_passMinutes 0 = .ok (.iconst 0, 1) := by decide +kernel
theorem dX1_passMinutes_1 : decode cX1_passMinutes 1 = .ok (.istore_n 2, 1) := by decide +kernel
theorem dX1_passMinutes_2 : decode cX1_passMinutes 2 = .ok (.iload_n 2, 1) := by decide +kernel
theorem dX1_passMinutes_3 : decode cX1_passMinutes 3 = .ok (.iload_n 1, 1) := by decide +kernel
theorem dX1_passMinutes_4 : decode cX1_passMinutes 4 = .ok (.if_icmp .ge 13, 3) := by decide +kernel
theorem dX1_passMinutes_7 : decode cX1_passMinutes 7 = .ok (.aload_n 0, 1) := by decide +kernel
theorem dX1_passMinutes_8 : decode cX1_passMinutes 8 = .ok (.invokevirtual 80, 3) := by decide +kernel
theorem dX1_passMinutes_11 : decode cX1_passMinutes 11 = .ok (.iinc 2 1, 3) := by decide +kernel
theorem dX1_passMinutes_14 : decode cX1_passMinutes 14 = .ok (.goto (-12), 3) := by decide +kernel
theorem dX1_passMinutes_17 : decode cX1_passMinutes 17 = .ok (.return_, 1) := by decide +kernel
theorem dX1_passMinute_0 : decode cX1_passMinute 0 = .ok (.iconst 0, 1) := by decide +kernel
theorem dX1_passMinute_1 : decode cX1_passMinute 1 = .ok (.istore_n 1, 1) := by decide +kernel
theorem dX1_passMinute_2 : decode cX1_passMinute 2 = .ok (.iload_n 1, 1) := by decide +kernel
theorem dX1_passMinute_3 : decode cX1_passMinute 3 = .ok (.aload_n 0, 1) := by decide +kernel
theorem dX1_passMinute_4 : decode cX1_passMinute 4 = .ok (.getfield 38, 3) := by decide +kernel
theorem dX1_passMinute_7 : decode cX1_passMinute 7 = .ok (.if_icmp .ge 36, 3) := by decide +kernel
theorem dX1_passMinute_10 : decode cX1_passMinute 10 = .ok (.aload_n 0, 1) := by decide +kernel
theorem dX1_passMinute_11 : decode cX1_passMinute 11 = .ok (.getfield 19, 3) := by decide +kernel
theorem dX1_passMinute_14 : decode cX1_passMinute 14 = .ok (.iload_n 1, 1) := by decide +kernel
theorem dX1_passMinute_15 : decode cX1_passMinute 15 = .ok (.aaload, 1) := by decide +kernel
theorem dX1_passMinute_16 : decode cX1_passMinute 16 = .ok (.astore_n 2, 1) := by decide +kernel
theorem dX1_passMinute_17 : decode cX1_passMinute 17 = .ok (.aload_n 2, 1) := by decide +kernel
theorem dX1_passMinute_18 : decode cX1_passMinute 18 = .ok (.getfield 83, 3) := by decide +kernel
theorem dX1_passMinute_21 : decode cX1_passMinute 21 = .ok (.ifCond .eq 11, 3) := by decide +kernel
theorem dX1_passMinute_24 : decode cX1_passMinute 24 = .ok (.aload_n 0, 1) := by decide +kernel
theorem dX1_passMinute_25 : decode cX1_passMinute 25 = .ok (.aload_n 2, 1) := by decide +kernel
theorem dX1_passMinute_26 : decode cX1_passMinute 26 = .ok (.invokevirtual 87, 3) := by decide +kernel
theorem dX1_passMinute_29 : decode cX1_passMinute 29 = .ok (.goto 8, 3) := by decide +kernel
theorem dX1_passMinute_32 : decode cX1_passMinute 32 = .ok (.aload_n 0, 1) := by decide +kernel
theorem dX1_passMinute_33 : decode cX1_passMinute 33 = .ok (.aload_n 2, 1) := by decide +kernel
theorem dX1_passMinute_34 : decode cX1_passMinute 34 = .ok (.invokevirtual 90, 3) := by decide +kernel
theorem dX1_passMinute_37 : decode cX1_passMinute 37 = .ok (.iinc 1 1, 3) := by decide +kernel
theorem dX1_passMinute_40 : decode cX1_passMinute 40 = .ok (.goto (-38), 3) := by decide +kernel
theorem dX1_passMinute_43 : decode cX1_passMinute 43 = .ok (.iconst 0, 1) := by decide +kernel
theorem dX1_passMinute_44 : decode cX1_passMinute 44 = .ok (.istore_n 1, 1) := by decide +kernel
theorem dX1_passMinute_45 : decode cX1_passMinute 45 = .ok (.iload_n 1, 1) := by decide +kernel
theorem dX1_passMinute_46 : decode cX1_passMinute 46 = .ok (.aload_n 0, 1) := by decide +kernel
theorem dX1_passMinute_47 : decode cX1_passMinute 47 = .ok (.getfield 45, 3) := by decide +kernel
theorem dX1_passMinute_50 : decode cX1_passMinute 50 = .ok (.if_icmp .ge 36, 3) := by decide +kernel
theorem dX1_passMinute_53 : decode cX1_passMinute 53 = .ok (.aload_n 0, 1) := by decide +kernel
theorem dX1_passMinute_54 : decode cX1_passMinute 54 = .ok (.getfield 25, 3) := by decide +kernel
theorem dX1_passMinute_57 : decode cX1_passMinute 57 = .ok (.iload_n 1, 1) := by decide +kernel
theorem dX1_passMinute_58 : decode cX1_passMinute 58 = .ok (.aaload, 1) := by decide +kernel
theorem dX1_passMinute_59 : decode cX1_passMinute 59 = .ok (.getfield 93, 3) := by decide +kernel
theorem dX1_passMinute_62 : decode cX1_passMinute 62 = .ok (.ifCond .ne 18, 3) := by decide +kernel
theorem dX1_passMinute_65 : decode cX1_passMinute 65 = .ok (.aload_n 0, 1) := by decide +kernel
theorem dX1_passMinute_66 : decode cX1_passMinute 66 = .ok (.getfield 25, 3) := by decide +kernel
theorem dX1_passMinute_69 : decode cX1_passMinute 69 = .ok (.iload_n 1, 1) := by decide +kernel
theorem dX1_passMinute_70 : decode cX1_passMinute 70 = .ok (.aaload, 1) := by decide +kernel
theorem dX1_passMinute_71 : decode cX1_passMinute 71 = .ok (.dup, 1) := by decide +kernel
theorem dX1_passMinute_72 : decode cX1_passMinute 72 = .ok (.getfield 96, 3) := by decide +kernel
theorem dX1_passMinute_75 : decode cX1_passMinute 75 = .ok (.iconst 1, 1) := by decide +kernel
theorem dX1_passMinute_76 : decode cX1_passMinute 76 = .ok (.iadd, 1) := by decide +kernel
theorem dX1_passMinute_77 : decode cX1_passMinute 77 = .ok (.putfield 96, 3) := by decide +kernel
theorem dX1_passMinute_80 : decode cX1_passMinute 80 = .ok (.iinc 1 1, 3) := by decide +kernel
theorem dX1_passMinute_83 : decode cX1_passMinute 83 = .ok (.goto (-38), 3) := by decide +kernel
theorem dX1_passMinute_86 : decode cX1_passMinute 86 = .ok (.aload_n 0, 1) := by decide +kernel
theorem dX1_passMinute_87 : decode cX1_passMinute 87 = .ok (.dup, 1) := by decide +kernel
theorem dX1_passMinute_88 : decode cX1_passMinute 88 = .ok (.getfield 51, 3) := by decide +kernel
theorem dX1_passMinute_91 : decode cX1_passMinute 91 = .ok (.iconst 1, 1) := by decide +kernel
theorem dX1_passMinute_92 : decode cX1_passMinute 92 = .ok (.iadd, 1) := by decide +kernel
theorem dX1_passMinute_93 : decode cX1_passMinute 93 = .ok (.putfield 51, 3) := by decide +kernel
theorem dX1_passMinute_96 : decode cX1_passMinute 96 = .ok (.return_, 1) := by decide +kernel
theorem dX1_driveOn_0 : decode cX1_driveOn 0 = .ok (.aload_n 1, 1) := by decide +kernel
theorem dX1_driveOn_1 : decode cX1_driveOn 1 = .ok (.dup, 1) := by decide +kernel
theorem dX1_driveOn_2 : decode cX1_driveOn 2 = .ok (.getfield 60, 3) := by decide +kernel
theorem dX1_driveOn_5 : decode cX1_driveOn 5 = .ok (.iconst 1, 1) := by decide +kernel
theorem dX1_driveOn_6 : decode cX1_driveOn 6 = .ok (.isub, 1) := by decide +kernel
theorem dX1_driveOn_7 : decode cX1_driveOn 7 = .ok (.putfield 60, 3) := by decide +kernel
theorem dX1_driveOn_10 : decode cX1_driveOn 10 = .ok (.aload_n 1, 1) := by decide +kernel
theorem dX1_driveOn_11 : decode cX1_driveOn 11 = .ok (.getfield 60, 3) := by decide +kernel
theorem dX1_driveOn_14 : decode cX1_driveOn 14 = .ok (.ifCond .le 4, 3) := by decide +kernel
theorem dX1_driveOn_17 : decode cX1_driveOn 17 = .ok (.return_, 1) := by decide +kernel
theorem dX1_driveOn_18 : decode cX1_driveOn 18 = .ok (.aload_n 1, 1) := by decide +kernel
theorem dX1_driveOn_19 : decode cX1_driveOn 19 = .ok (.aload_n 1, 1) := by decide +kernel
theorem dX1_driveOn_20 : decode cX1_driveOn 20 = .ok (.getfield 57, 3) := by decide +kernel
theorem dX1_driveOn_23 : decode cX1_driveOn 23 = .ok (.iconst 1, 1) := by decide +kernel
theorem dX1_driveOn_24 : decode cX1_driveOn 24 = .ok (.iadd, 1) := by decide +kernel
theorem dX1_driveOn_25 : decode cX1_driveOn 25 = .ok (.bipush 10, 2) := by decide +kernel
theorem dX1_driveOn_27 : decode cX1_driveOn 27 = .ok (.irem, 1) := by decide +kernel
theorem dX1_driveOn_28 : decode cX1_driveOn 28 = .ok (.putfield 57, 3) := by decide +kernel
theorem dX1_driveOn_31 : decode cX1_driveOn 31 = .ok (.aload_n 1, 1) := by decide +kernel
theorem dX1_driveOn_32 : decode cX1_driveOn 32 = .ok (.iconst 0, 1) := by decide +kernel
theorem dX1_driveOn_33 : decode cX1_driveOn 33 = .ok (.putfield 83, 3) := by decide +kernel
theorem dX1_driveOn_36 : decode cX1_driveOn 36 = .ok (.aload_n 0, 1) := by decide +kernel
theorem dX1_driveOn_37 : decode cX1_driveOn 37 = .ok (.aload_n 1, 1) := by decide +kernel
theorem dX1_driveOn_38 : decode cX1_driveOn 38 = .ok (.invokevirtual 99, 3) := by decide +kernel
theorem dX1_driveOn_41 : decode cX1_driveOn 41 = .ok (.istore_n 2, 1) := by decide +kernel
theorem dX1_driveOn_42 : decode cX1_driveOn 42 = .ok (.aload_n 0, 1) := by decide +kernel
theorem dX1_driveOn_43 : decode cX1_driveOn 43 = .ok (.aload_n 1, 1) := by decide +kernel
theorem dX1_driveOn_44 : decode cX1_driveOn 44 = .ok (.invokevirtual 103, 3) := by decide +kernel
theorem dX1_driveOn_47 : decode cX1_driveOn 47 = .ok (.istore_n 3, 1) := by decide +kernel
theorem dX1_driveOn_48 : decode cX1_driveOn 48 = .ok (.aload_n 1, 1) := by decide +kernel
theorem dX1_driveOn_49 : decode cX1_driveOn 49 = .ok (.iconst 1, 1) := by decide +kernel
theorem dX1_driveOn_50 : decode cX1_driveOn 50 = .ok (.iload_n 3, 1) := by decide +kernel
theorem dX1_driveOn_51 : decode cX1_driveOn 51 = .ok (.iconst 2, 1) := by decide +kernel
theorem dX1_driveOn_52 : decode cX1_driveOn 52 = .ok (.idiv, 1) := by decide +kernel
theorem dX1_driveOn_53 : decode cX1_driveOn 53 = .ok (.iadd, 1) := by decide +kernel
theorem dX1_driveOn_54 : decode cX1_driveOn 54 = .ok (.iload_n 2, 1) := by decide +kernel
theorem dX1_driveOn_55 : decode cX1_driveOn 55 = .ok (.iconst 4, 1) := by decide +kernel
theorem dX1_driveOn_56 : decode cX1_driveOn 56 = .ok (.idiv, 1) := by decide +kernel
theorem dX1_driveOn_57 : decode cX1_driveOn 57 = .ok (.iadd, 1) := by decide +kernel
theorem dX1_driveOn_58 : decode cX1_driveOn 58 = .ok (.putfield 60, 3) := by decide +kernel
theorem dX1_driveOn_61 : decode cX1_driveOn 61 = .ok (.return_, 1) := by decide +kernel
theorem dX1_standOn_0 : decode cX1_standOn 0 = .ok (.aload_n 1, 1) := by decide +kernel
theorem dX1_standOn_1 : decode cX1_standOn 1 = .ok (.getfield 60, 3) := by decide +kernel
theorem dX1_standOn_4 : decode cX1_standOn 4 = .ok (.ifCond .le 13, 3) := by decide +kernel
theorem dX1_standOn_7 : decode cX1_standOn 7 = .ok (.aload_n 1, 1) := by decide +kernel
theorem dX1_standOn_8 : decode cX1_standOn 8 = .ok (.dup, 1) := by decide +kernel
theorem dX1_standOn_9 : decode cX1_standOn 9 = .ok (.getfield 60, 3) := by decide +kernel
theorem dX1_standOn_12 : decode cX1_standOn 12 = .ok (.iconst 1, 1) := by decide +kernel
theorem dX1_standOn_13 : decode cX1_standOn 13 = .ok (.isub, 1) := by decide +kernel
theorem dX1_standOn_14 : decode cX1_standOn 14 = .ok (.putfield 60, 3) := by decide +kernel
theorem dX1_standOn_17 : decode cX1_standOn 17 = .ok (.aload_n 0, 1) := by decide +kernel
theorem dX1_standOn_18 : decode cX1_standOn 18 = .ok (.aload_n 1, 1) := by decide +kernel
theorem dX1_standOn_19 : decode cX1_standOn 19 = .ok (.getfield 57, 3) := by decide +kernel
theorem dX1_standOn_22 : decode cX1_standOn 22 = .ok (.invokevirtual 73, 3) := by decide +kernel
theorem dX1_standOn_25 : decode cX1_standOn 25 = .ok (.astore_n 2, 1) := by decide +kernel
theorem dX1_standOn_26 : decode cX1_standOn 26 = .ok (.aload_n 1, 1) := by decide +kernel
theorem dX1_standOn_27 : decode cX1_standOn 27 = .ok (.getfield 60, 3) := by decide +kernel
theorem dX1_standOn_30 : decode cX1_standOn 30 = .ok (.ifCond .ne 39, 3) := by decide +kernel
theorem dX1_standOn_33 : decode cX1_standOn 33 = .ok (.aload_n 2, 1) := by decide +kernel
theorem dX1_standOn_34 : decode cX1_standOn 34 = .ok (.aload_n 0, 1) := by decide +kernel
theorem dX1_standOn_35 : decode cX1_standOn 35 = .ok (.getfield 51, 3) := by decide +kernel
theorem dX1_standOn_38 : decode cX1_standOn 38 = .ok (.aload_n 0, 1) := by decide +kernel
theorem dX1_standOn_39 : decode cX1_standOn 39 = .ok (.getfield 54, 3) := by decide +kernel
theorem dX1_standOn_42 : decode cX1_standOn 42 = .ok (.invokevirtual 106, 3) := by decide +kernel
theorem dX1_standOn_45 : decode cX1_standOn 45 = .ok (.ifCond .eq 24, 3) := by decide +kernel
theorem dX1_standOn_48 : decode cX1_standOn 48 = .ok (.aload_n 2, 1) := by decide +kernel
theorem dX1_standOn_49 : decode cX1_standOn 49 = .ok (.aload_n 0, 1) := by decide +kernel
theorem dX1_standOn_50 : decode cX1_standOn 50 = .ok (.getfield 51, 3) := by decide +kernel
theorem dX1_standOn_53 : decode cX1_standOn 53 = .ok (.putfield 110, 3) := by decide +kernel
theorem dX1_standOn_56 : decode cX1_standOn 56 = .ok (.aload_n 1, 1) := by decide +kernel
theorem dX1_standOn_57 : decode cX1_standOn 57 = .ok (.iconst 1, 1) := by decide +kernel
theorem dX1_standOn_58 : decode cX1_standOn 58 = .ok (.putfield 83, 3) := by decide +kernel
theorem dX1_standOn_61 : decode cX1_standOn 61 = .ok (.aload_n 1, 1) := by decide +kernel
theorem dX1_standOn_62 : decode cX1_standOn 62 = .ok (.aload_n 2, 1) := by decide +kernel
theorem dX1_standOn_63 : decode cX1_standOn 63 = .ok (.getfield 113, 3) := by decide +kernel
theorem dX1_standOn_66 : decode cX1_standOn 66 = .ok (.putfield 60, 3) := by decide +kernel
theorem dX1_standOn_69 : decode cX1_standOn 69 = .ok (.return_, 1) := by decide +kernel
theorem dX1_letOff_0 : decode cX1_letOff 0 = .ok (.iconst 0, 1) := by decide +kernel
theorem dX1_letOff_1 : decode cX1_letOff 1 = .ok (.istore_n 2, 1) := by decide +kernel
theorem dX1_letOff_2 : decode cX1_letOff 2 = .ok (.iconst 0, 1) := by decide +kernel
theorem dX1_letOff_3 : decode cX1_letOff 3 = .ok (.istore_n 3, 1) := by decide +kernel
theorem dX1_letOff_4 : decode cX1_letOff 4 = .ok (.iload_n 3, 1) := by decide +kernel
theorem dX1_letOff_5 : decode cX1_letOff 5 = .ok (.aload_n 0, 1) := by decide +kernel
theorem dX1_letOff_6 : decode cX1_letOff 6 = .ok (.getfield 45, 3) := by decide +kernel
theorem dX1_letOff_9 : decode cX1_letOff 9 = .ok (.if_icmp .ge 42, 3) := by decide +kernel
theorem dX1_letOff_12 : decode cX1_letOff 12 = .ok (.aload_n 0, 1) := by decide +kernel
theorem dX1_letOff_13 : decode cX1_letOff 13 = .ok (.getfield 25, 3) := by decide +kernel
theorem dX1_letOff_16 : decode cX1_letOff 16 = .ok (.iload_n 3, 1) := by decide +kernel
theorem dX1_letOff_17 : decode cX1_letOff 17 = .ok (.aaload, 1) := by decide +kernel
theorem dX1_letOff_18 : decode cX1_letOff 18 = .ok (.aload_n 1, 1) := by decide +kernel
theorem dX1_letOff_19 : decode cX1_letOff 19 = .ok (.getfield 57, 3) := by decide +kernel
theorem dX1_letOff_22 : decode cX1_letOff 22 = .ok (.aload_n 1, 1) := by decide +kernel
theorem dX1_letOff_23 : decode cX1_letOff 23 = .ok (.invokevirtual 116, 3) := by decide +kernel
theorem dX1_letOff_26 : decode cX1_letOff 26 = .ok (.ifCond .eq 19, 3) := by decide +kernel
theorem dX1_letOff_29 : decode cX1_letOff 29 = .ok (.aload_n 0, 1) := by decide +kernel
theorem dX1_letOff_30 : decode cX1_letOff 30 = .ok (.getfield 25, 3) := by decide +kernel
theorem dX1_letOff_33 : decode cX1_letOff 33 = .ok (.iload_n 3, 1) := by decide +kernel
theorem dX1_letOff_34 : decode cX1_letOff 34 = .ok (.aaload, 1) := by decide +kernel
theorem dX1_letOff_35 : decode cX1_letOff 35 = .ok (.aload_n 0, 1) := by decide +kernel
theorem dX1_letOff_36 : decode cX1_letOff 36 = .ok (.getfield 51, 3) := by decide +kernel
theorem dX1_letOff_39 : decode cX1_letOff 39 = .ok (.invokevirtual 120, 3) := by decide +kernel
theorem dX1_letOff_42 : decode cX1_letOff 42 = .ok (.iinc 2 1, 3) := by decide +kernel
theorem dX1_letOff_45 : decode cX1_letOff 45 = .ok (.iinc 3 1, 3) := by decide +kernel
theorem dX1_letOff_48 : decode cX1_letOff 48 = .ok (.goto (-44), 3) := by decide +kernel
theorem dX1_letOff_51 : decode cX1_letOff 51 = .ok (.aload_n 1, 1) := by decide +kernel
theorem dX1_letOff_52 : decode cX1_letOff 52 = .ok (.dup, 1) := by decide +kernel
theorem dX1_letOff_53 : decode cX1_letOff 53 = .ok (.getfield 123, 3) := by decide +kernel
theorem dX1_letOff_56 : decode cX1_letOff 56 = .ok (.iload_n 2, 1) := by decide +kernel
theorem dX1_letOff_57 : decode cX1_letOff 57 = .ok (.isub, 1) := by decide +kernel
theorem dX1_letOff_58 : decode cX1_letOff 58 = .ok (.putfield 123, 3) := by decide +kernel
theorem dX1_letOff_61 : decode cX1_letOff 61 = .ok (.iload_n 2, 1) := by decide +kernel
theorem dX1_letOff_62 : decode cX1_letOff 62 = .ok (.ireturn, 1) := by decide +kernel
theorem dX1_letOn_0 : decode cX1_letOn 0 = .ok (.iconst 0, 1) := by decide +kernel
theorem dX1_letOn_1 : decode cX1_letOn 1 = .ok (.istore_n 2, 1) := by decide +kernel
theorem dX1_letOn_2 : decode cX1_letOn 2 = .ok (.iconst 0, 1) := by decide +kernel
theorem dX1_letOn_3 : decode cX1_letOn 3 = .ok (.istore_n 3, 1) := by decide +kernel
theorem dX1_letOn_4 : decode cX1_letOn 4 = .ok (.iload_n 3, 1) := by decide +kernel
theorem dX1_letOn_5 : decode cX1_letOn 5 = .ok (.aload_n 0, 1) := by decide +kernel
theorem dX1_letOn_6 : decode cX1_letOn 6 = .ok (.getfield 45, 3) := by decide +kernel
theorem dX1_letOn_9 : decode cX1_letOn 9 = .ok (.if_icmp .ge 82, 3) := by decide +kernel
theorem dX1_letOn_12 : decode cX1_letOn 12 = .ok (.aload_n 1, 1) := by decide +kernel
theorem dX1_letOn_13 : decode cX1_letOn 13 = .ok (.getfield 123, 3) := by decide +kernel
theorem dX1_letOn_16 : decode cX1_letOn 16 = .ok (.aload_n 1, 1) := by decide +kernel
theorem dX1_letOn_17 : decode cX1_letOn 17 = .ok (.getfield 63, 3) := by decide +kernel
theorem dX1_letOn_20 : decode cX1_letOn 20 = .ok (.if_icmp .ge 71, 3) := by decide +kernel
theorem dX1_letOn_23 : decode cX1_letOn 23 = .ok (.aload_n 0, 1) := by decide +kernel
theorem dX1_letOn_24 : decode cX1_letOn 24 = .ok (.getfield 25, 3) := by decide +kernel
theorem dX1_letOn_27 : decode cX1_letOn 27 = .ok (.iload_n 3, 1) := by decide +kernel
theorem dX1_letOn_28 : decode cX1_letOn 28 = .ok (.aaload, 1) := by decide +kernel
theorem dX1_letOn_29 : decode cX1_letOn 29 = .ok (.astore 4, 2) := by decide +kernel
theorem dX1_letOn_31 : decode cX1_letOn 31 = .ok (.aload 4, 2) := by decide +kernel
theorem dX1_letOn_33 : decode cX1_letOn 33 = .ok (.aload_n 1, 1) := by decide +kernel
theorem dX1_letOn_34 : decode cX1_letOn 34 = .ok (.getfield 57, 3) := by decide +kernel
theorem dX1_letOn_37 : decode cX1_letOn 37 = .ok (.invokevirtual 126, 3) := by decide +kernel
theorem dX1_letOn_40 : decode cX1_letOn 40 = .ok (.ifCond .eq 45, 3) := by decide +kernel
theorem dX1_letOn_43 : decode cX1_letOn 43 = .ok (.aload_n 1, 1) := by decide +kernel
theorem dX1_letOn_44 : decode cX1_letOn 44 = .ok (.dup, 1) := by decide +kernel
theorem dX1_letOn_45 : decode cX1_letOn 45 = .ok (.getfield 130, 3) := by decide +kernel
theorem dX1_letOn_48 : decode cX1_letOn 48 = .ok (.aload 4, 2) := by decide +kernel
theorem dX1_letOn_50 : decode cX1_letOn 50 = .ok (.aload_n 1, 1) := by decide +kernel
theorem dX1_letOn_51 : decode cX1_letOn 51 = .ok (.aload_n 0, 1) := by decide +kernel
theorem dX1_letOn_52 : decode cX1_letOn 52 = .ok (.aload 4, 2) := by decide +kernel
theorem dX1_letOn_54 : decode cX1_letOn 54 = .ok (.getfield 69, 3) := by decide +kernel
theorem dX1_letOn_57 : decode cX1_letOn 57 = .ok (.aload 4, 2) := by decide +kernel
theorem dX1_letOn_59 : decode cX1_letOn 59 = .ok (.getfield 70, 3) := by decide +kernel
theorem dX1_letOn_62 : decode cX1_letOn 62 = .ok (.invokevirtual 133, 3) := by decide +kernel
theorem dX1_letOn_65 : decode cX1_letOn 65 = .ok (.invokevirtual 137, 3) := by decide +kernel
theorem dX1_letOn_68 : decode cX1_letOn 68 = .ok (.iadd, 1) := by decide +kernel
theorem dX1_letOn_69 : decode cX1_letOn 69 = .ok (.putfield 130, 3) := by decide +kernel
theorem dX1_letOn_72 : decode cX1_letOn 72 = .ok (.aload_n 1, 1) := by decide +kernel
theorem dX1_letOn_73 : decode cX1_letOn 73 = .ok (.dup, 1) := by decide +kernel
theorem dX1_letOn_74 : decode cX1_letOn 74 = .ok (.getfield 123, 3) := by decide +kernel
theorem dX1_letOn_77 : decode cX1_letOn 77 = .ok (.iconst 1, 1) := by decide +kernel
theorem dX1_letOn_78 : decode cX1_letOn 78 = .ok (.iadd, 1) := by decide +kernel
theorem dX1_letOn_79 : decode cX1_letOn 79 = .ok (.putfield 123, 3) := by decide +kernel
theorem dX1_letOn_82 : decode cX1_letOn 82 = .ok (.iinc 2 1, 3) := by decide +kernel
theorem dX1_letOn_85 : decode cX1_letOn 85 = .ok (.iinc 3 1, 3) := by decide +kernel
theorem dX1_letOn_88 : decode cX1_letOn 88 = .ok (.goto (-84), 3) := by decide +kernel
theorem dX1_letOn_91 : decode cX1_letOn 91 = .ok (.iload_n 2, 1) := by decide +kernel
theorem dX1_letOn_92 : decode cX1_letOn 92 = .ok (.ireturn, 1) := by decide +kernel
theorem dX1_tellStop_0 : decode cX1_tellStop 0 = .ok (.iload_n 2, 1) := by decide +kernel
theorem dX1_tellStop_1 : decode cX1_tellStop 1 = .ok (.tableswitch 61 0 3 #[31, 40, 49, 55], 31) := by decide +kernel
theorem dX1_tellStop_32 : decode cX1_tellStop 32 = .ok (.aload_n 0, 1) := by decide +kernel
theorem dX1_tellStop_33 : decode cX1_tellStop 33 = .ok (.iload_n 1, 1) := by decide +kernel
theorem dX1_tellStop_34 : decode cX1_tellStop 34 = .ok (.invokevirtual 73, 3) := by decide +kernel
theorem dX1_tellStop_37 : decode cX1_tellStop 37 = .ok (.getfield 113, 3) := by decide +kernel
theorem dX1_tellStop_40 : decode cX1_tellStop 40 = .ok (.ireturn, 1) := by decide +kernel
theorem dX1_tellStop_41 : decode cX1_tellStop 41 = .ok (.aload_n 0, 1) := by decide +kernel
theorem dX1_tellStop_42 : decode cX1_tellStop 42 = .ok (.iload_n 1, 1) := by decide +kernel
theorem dX1_tellStop_43 : decode cX1_tellStop 43 = .ok (.invokevirtual 73, 3) := by decide +kernel
theorem dX1_tellStop_46 : decode cX1_tellStop 46 = .ok (.getfield 77, 3) := by decide +kernel
theorem dX1_tellStop_49 : decode cX1_tellStop 49 = .ok (.ireturn, 1) := by decide +kernel
theorem dX1_tellStop_50 : decode cX1_tellStop 50 = .ok (.aload_n 0, 1) := by decide +kernel
theorem dX1_tellStop_51 : decode cX1_tellStop 51 = .ok (.iload_n 1, 1) := by decide +kernel
theorem dX1_tellStop_52 : decode cX1_tellStop 52 = .ok (.invokevirtual 141, 3) := by decide +kernel
theorem dX1_tellStop_55 : decode cX1_tellStop 55 = .ok (.ireturn, 1) := by decide +kernel
theorem dX1_tellStop_56 : decode cX1_tellStop 56 = .ok (.aload_n 0, 1) := by decide +kernel
theorem dX1_tellStop_57 : decode cX1_tellStop 57 = .ok (.iload_n 1, 1) := by decide +kernel
theorem dX1_tellStop_58 : decode cX1_tellStop 58 = .ok (.invokevirtual 145, 3) := by decide +kernel
theorem dX1_tellStop_61 : decode cX1_tellStop 61 = .ok (.ireturn, 1) := by decide +kernel
theorem dX1_tellStop_62 : decode cX1_tellStop 62 = .ok (.aload_n 0, 1) := by decide +kernel
theorem dX1_tellStop_63 : decode cX1_tellStop 63 = .ok (.iload_n 1, 1) := by decide +kernel
theorem dX1_tellStop_64 : decode cX1_tellStop 64 = .ok (.invokevirtual 73, 3) := by decide +kernel
theorem dX1_tellStop_67 : decode cX1_tellStop 67 = .ok (.getfield 110, 3) := by decide +kernel
theorem dX1_tellStop_70 : decode cX1_tellStop 70 = .ok (.ireturn, 1) := by decide +kernel
theorem dX1_tellCount_0 : decode cX1_tellCount 0 = .ok (.iload_n 1, 1) := by decide +kernel
theorem dX1_tellCount_1 : decode cX1_tellCount 1 = .ok (.tableswitch 99 0 8 #[51, 56, 61, 66, 71, 77, 83, 89, 94], 51) := by decide +kernel
theorem dX1_tellCount_52 : decode cX1_tellCount 52 = .ok (.aload_n 0, 1) := by decide +kernel
theorem dX1_tellCount_53 : decode cX1_tellCount 53 = .ok (.getfield 51, 3) := by decide +kernel
theorem dX1_tellCount_56 : decode cX1_tellCount 56 = .ok (.ireturn, 1) := by decide +kernel
theorem dX1_tellCount_57 : decode cX1_tellCount 57 = .ok (.aload_n 0, 1) := by decide +kernel
theorem dX1_tellCount_58 : decode cX1_tellCount 58 = .ok (.getfield 54, 3) := by decide +kernel
theorem dX1_tellCount_61 : decode cX1_tellCount 61 = .ok (.ireturn, 1) := by decide +kernel
theorem dX1_tellCount_62 : decode cX1_tellCount 62 = .ok (.aload_n 0, 1) := by decide +kernel
theorem dX1_tellCount_63 : decode cX1_tellCount 63 = .ok (.getfield 38, 3) := by decide +kernel
theorem dX1_tellCount_66 : decode cX1_tellCount 66 = .ok (.ireturn, 1) := by decide +kernel
theorem dX1_tellCount_67 : decode cX1_tellCount 67 = .ok (.aload_n 0, 1) := by decide +kernel
theorem dX1_tellCount_68 : decode cX1_tellCount 68 = .ok (.getfield 45, 3) := by decide +kernel
theorem dX1_tellCount_71 : decode cX1_tellCount 71 = .ok (.ireturn, 1) := by decide +kernel
theorem dX1_tellCount_72 : decode cX1_tellCount 72 = .ok (.aload_n 0, 1) := by decide +kernel
theorem dX1_tellCount_73 : decode cX1_tellCount 73 = .ok (.iconst 0, 1) := by decide +kernel
theorem dX1_tellCount_74 : decode cX1_tellCount 74 = .ok (.invokevirtual 148, 3) := by decide +kernel
theorem dX1_tellCount_77 : decode cX1_tellCount 77 = .ok (.ireturn, 1) := by decide +kernel
theorem dX1_tellCount_78 : decode cX1_tellCount 78 = .ok (.aload_n 0, 1) := by decide +kernel
theorem dX1_tellCount_79 : decode cX1_tellCount 79 = .ok (.iconst 1, 1) := by decide +kernel
theorem dX1_tellCount_80 : decode cX1_tellCount 80 = .ok (.invokevirtual 148, 3) := by decide +kernel
theorem dX1_tellCount_83 : decode cX1_tellCount 83 = .ok (.ireturn, 1) := by decide +kernel
theorem dX1_tellCount_84 : decode cX1_tellCount 84 = .ok (.aload_n 0, 1) := by decide +kernel
theorem dX1_tellCount_85 : decode cX1_tellCount 85 = .ok (.iconst 2, 1) := by decide +kernel
theorem dX1_tellCount_86 : decode cX1_tellCount 86 = .ok (.invokevirtual 148, 3) := by decide +kernel
theorem dX1_tellCount_89 : decode cX1_tellCount 89 = .ok (.ireturn, 1) := by decide +kernel
theorem dX1_tellCount_90 : decode cX1_tellCount 90 = .ok (.aload_n 0, 1) := by decide +kernel
theorem dX1_tellCount_91 : decode cX1_tellCount 91 = .ok (.invokevirtual 151, 3) := by decide +kernel
theorem dX1_tellCount_94 : decode cX1_tellCount 94 = .ok (.ireturn, 1) := by decide +kernel
theorem dX1_tellCount_95 : decode cX1_tellCount 95 = .ok (.aload_n 0, 1) := by decide +kernel
theorem dX1_tellCount_96 : decode cX1_tellCount 96 = .ok (.invokevirtual 155, 3) := by decide +kernel
theorem dX1_tellCount_99 : decode cX1_tellCount 99 = .ok (.ireturn, 1) := by decide +kernel
theorem dX1_tellCount_100 : decode cX1_tellCount 100 = .ok (.aload_n 0, 1) := by decide +kernel
theorem dX1_tellCount_101 : decode cX1_tellCount 101 = .ok (.invokevirtual 158, 3) := by decide +kernel
theorem dX1_tellCount_104 : decode cX1_tellCount 104 = .ok (.ireturn, 1) := by decide +kernel
theorem dX1_waitingAt_0 : decode cX1_waitingAt 0 = .ok (.iconst 0, 1) := by decide +kernel
theorem dX1_waitingAt_1 : decode cX1_waitingAt 1 = .ok (.istore_n 2, 1) := by decide +kernel
theorem dX1_waitingAt_2 : decode cX1_waitingAt 2 = .ok (.iconst 0, 1) := by decide +kernel
theorem dX1_waitingAt_3 : decode cX1_waitingAt 3 = .ok (.istore_n 3, 1) := by decide +kernel
theorem dX1_waitingAt_4 : decode cX1_waitingAt 4 = .ok (.iload_n 3, 1) := by decide +kernel
theorem dX1_waitingAt_5 : decode cX1_waitingAt 5 = .ok (.aload_n 0, 1) := by decide +kernel
theorem dX1_waitingAt_6 : decode cX1_waitingAt 6 = .ok (.getfield 45, 3) := by decide +kernel
theorem dX1_waitingAt_9 : decode cX1_waitingAt 9 = .ok (.if_icmp .ge 25, 3) := by decide +kernel
theorem dX1_waitingAt_12 : decode cX1_waitingAt 12 = .ok (.aload_n 0, 1) := by decide +kernel
theorem dX1_waitingAt_13 : decode cX1_waitingAt 13 = .ok (.getfield 25, 3) := by decide +kernel
theorem dX1_waitingAt_16 : decode cX1_waitingAt 16 = .ok (.iload_n 3, 1) := by decide +kernel
theorem dX1_waitingAt_17 : decode cX1_waitingAt 17 = .ok (.aaload, 1) := by decide +kernel
theorem dX1_waitingAt_18 : decode cX1_waitingAt 18 = .ok (.iload_n 1, 1) := by decide +kernel
theorem dX1_waitingAt_19 : decode cX1_waitingAt 19 = .ok (.invokevirtual 126, 3) := by decide +kernel
theorem dX1_waitingAt_22 : decode cX1_waitingAt 22 = .ok (.ifCond .eq 6, 3) := by decide +kernel
theorem dX1_waitingAt_25 : decode cX1_waitingAt 25 = .ok (.iinc 2 1, 3) := by decide +kernel
theorem dX1_waitingAt_28 : decode cX1_waitingAt 28 = .ok (.iinc 3 1, 3) := by decide +kernel
theorem dX1_waitingAt_31 : decode cX1_waitingAt 31 = .ok (.goto (-27), 3) := by decide +kernel
theorem dX1_waitingAt_34 : decode cX1_waitingAt 34 = .ok (.iload_n 2, 1) := by decide +kernel
theorem dX1_waitingAt_35 : decode cX1_waitingAt 35 = .ok (.ireturn, 1) := by decide +kernel
theorem dX1_standingAt_0 : decode cX1_standingAt 0 = .ok (.iconst 0, 1) := by decide +kernel
theorem dX1_standingAt_1 : decode cX1_standingAt 1 = .ok (.istore_n 2, 1) := by decide +kernel
theorem dX1_standingAt_2 : decode cX1_standingAt 2 = .ok (.iconst 0, 1) := by decide +kernel
theorem dX1_standingAt_3 : decode cX1_standingAt 3 = .ok (.istore_n 3, 1) := by decide +kernel
theorem dX1_standingAt_4 : decode cX1_standingAt 4 = .ok (.iload_n 3, 1) := by decide +kernel
theorem dX1_standingAt_5 : decode cX1_standingAt 5 = .ok (.aload_n 0, 1) := by decide +kernel
theorem dX1_standingAt_6 : decode cX1_standingAt 6 = .ok (.getfield 38, 3) := by decide +kernel
theorem dX1_standingAt_9 : decode cX1_standingAt 9 = .ok (.if_icmp .ge 37, 3) := by decide +kernel
theorem dX1_standingAt_12 : decode cX1_standingAt 12 = .ok (.aload_n 0, 1) := by decide +kernel
theorem dX1_standingAt_13 : decode cX1_standingAt 13 = .ok (.getfield 19, 3) := by decide +kernel
theorem dX1_standingAt_16 : decode cX1_standingAt 16 = .ok (.iload_n 3, 1) := by decide +kernel
theorem dX1_standingAt_17 : decode cX1_standingAt 17 = .ok (.aaload, 1) := by decide +kernel
theorem dX1_standingAt_18 : decode cX1_standingAt 18 = .ok (.getfield 83, 3) := by decide +kernel
theorem dX1_standingAt_21 : decode cX1_standingAt 21 = .ok (.ifCond .ne 19, 3) := by decide +kernel
theorem dX1_standingAt_24 : decode cX1_standingAt 24 = .ok (.aload_n 0, 1) := by decide +kernel
theorem dX1_standingAt_25 : decode cX1_standingAt 25 = .ok (.getfield 19, 3) := by decide +kernel
theorem dX1_standingAt_28 : decode cX1_standingAt 28 = .ok (.iload_n 3, 1) := by decide +kernel
theorem dX1_standingAt_29 : decode cX1_standingAt 29 = .ok (.aaload, 1) := by decide +kernel
theorem dX1_standingAt_30 : decode cX1_standingAt 30 = .ok (.getfield 57, 3) := by decide +kernel
theorem dX1_standingAt_33 : decode cX1_standingAt 33 = .ok (.iload_n 1, 1) := by decide +kernel
theorem dX1_standingAt_34 : decode cX1_standingAt 34 = .ok (.if_icmp .ne 6, 3) := by decide +kernel
theorem dX1_standingAt_37 : decode cX1_standingAt 37 = .ok (.iinc 2 1, 3) := by decide +kernel
theorem dX1_standingAt_40 : decode cX1_standingAt 40 = .ok (.iinc 3 1, 3) := by decide +kernel
theorem dX1_standingAt_43 : decode cX1_standingAt 43 = .ok (.goto (-39), 3) := by decide +kernel
theorem dX1_standingAt_46 : decode cX1_standingAt 46 = .ok (.iload_n 2, 1) := by decide +kernel
theorem dX1_standingAt_47 : decode cX1_standingAt 47 = .ok (.ireturn, 1) := by decide +kernel
theorem dX1_passengersIn_0 : decode cX1_passengersIn 0 = .ok (.iconst 0, 1) := by decide +kernel
theorem dX1_passengersIn_1 : decode cX1_passengersIn 1 = .ok (.istore_n 2, 1) := by decide +kernel
theorem dX1_passengersIn_2 : decode cX1_passengersIn 2 = .ok (.iconst 0, 1) := by decide +kernel
theorem dX1_passengersIn_3 : decode cX1_passengersIn 3 = .ok (.istore_n 3, 1) := by decide +kernel
theorem dX1_passengersIn_4 : decode cX1_passengersIn 4 = .ok (.iload_n 3, 1) := by decide +kernel
theorem dX1_passengersIn_5 : decode cX1_passengersIn 5 = .ok (.aload_n 0, 1) := by decide +kernel
theorem dX1_passengersIn_6 : decode cX1_passengersIn 6 = .ok (.getfield 45, 3) := by decide +kernel
theorem dX1_passengersIn_9 : decode cX1_passengersIn 9 = .ok (.if_icmp .ge 25, 3) := by decide +kernel
theorem dX1_passengersIn_12 : decode cX1_passengersIn 12 = .ok (.aload_n 0, 1) := by decide +kernel
theorem dX1_passengersIn_13 : decode cX1_passengersIn 13 = .ok (.getfield 25, 3) := by decide +kernel
theorem dX1_passengersIn_16 : decode cX1_passengersIn 16 = .ok (.iload_n 3, 1) := by decide +kernel
theorem dX1_passengersIn_17 : decode cX1_passengersIn 17 = .ok (.aaload, 1) := by decide +kernel
theorem dX1_passengersIn_18 : decode cX1_passengersIn 18 = .ok (.getfield 93, 3) := by decide +kernel
theorem dX1_passengersIn_21 : decode cX1_passengersIn 21 = .ok (.iload_n 1, 1) := by decide +kernel
theorem dX1_passengersIn_22 : decode cX1_passengersIn 22 = .ok (.if_icmp .ne 6, 3) := by decide +kernel
theorem dX1_passengersIn_25 : decode cX1_passengersIn 25 = .ok (.iinc 2 1, 3) := by decide +kernel
theorem dX1_passengersIn_28 : decode cX1_passengersIn 28 = .ok (.iinc 3 1, 3) := by decide +kernel
theorem dX1_passengersIn_31 : decode cX1_passengersIn 31 = .ok (.goto (-27), 3) := by decide +kernel
theorem dX1_passengersIn_34 : decode cX1_passengersIn 34 = .ok (.iload_n 2, 1) := by decide +kernel
theorem dX1_passengersIn_35 : decode cX1_passengersIn 35 = .ok (.ireturn, 1) := by decide +kernel
theorem dX1_allPaid_0 : decode cX1_allPaid 0 = .ok (.iconst 0, 1) := by decide +kernel
theorem dX1_allPaid_1 : decode cX1_allPaid 1 = .ok (.istore_n 1, 1) := by decide +kernel
theorem dX1_allPaid_2 : decode cX1_allPaid 2 = .ok (.iconst 0, 1) := by decide +kernel
theorem dX1_allPaid_3 : decode cX1_allPaid 3 = .ok (.istore_n 2, 1) := by decide +kernel
theorem dX1_allPaid_4 : decode cX1_allPaid 4 = .ok (.iload_n 2, 1) := by decide +kernel
theorem dX1_allPaid_5 : decode cX1_allPaid 5 = .ok (.aload_n 0, 1) := by decide +kernel
theorem dX1_allPaid_6 : decode cX1_allPaid 6 = .ok (.getfield 45, 3) := by decide +kernel
theorem dX1_allPaid_9 : decode cX1_allPaid 9 = .ok (.if_icmp .ge 21, 3) := by decide +kernel
theorem dX1_allPaid_12 : decode cX1_allPaid 12 = .ok (.iload_n 1, 1) := by decide +kernel
theorem dX1_allPaid_13 : decode cX1_allPaid 13 = .ok (.aload_n 0, 1) := by decide +kernel
theorem dX1_allPaid_14 : decode cX1_allPaid 14 = .ok (.getfield 25, 3) := by decide +kernel
theorem dX1_allPaid_17 : decode cX1_allPaid 17 = .ok (.iload_n 2, 1) := by decide +kernel
theorem dX1_allPaid_18 : decode cX1_allPaid 18 = .ok (.aaload, 1) := by decide +kernel
theorem dX1_allPaid_19 : decode cX1_allPaid 19 = .ok (.getfield 161, 3) := by decide +kernel
theorem dX1_allPaid_22 : decode cX1_allPaid 22 = .ok (.iadd, 1) := by decide +kernel
theorem dX1_allPaid_23 : decode cX1_allPaid 23 = .ok (.istore_n 1, 1) := by decide +kernel
theorem dX1_allPaid_24 : decode cX1_allPaid 24 = .ok (.iinc 2 1, 3) := by decide +kernel
theorem dX1_allPaid_27 : decode cX1_allPaid 27 = .ok (.goto (-23), 3) := by decide +kernel
theorem dX1_allPaid_30 : decode cX1_allPaid 30 = .ok (.iload_n 1, 1) := by decide +kernel
theorem dX1_allPaid_31 : decode cX1_allPaid 31 = .ok (.ireturn, 1) := by decide +kernel
theorem dX1_allWaited_0 : decode cX1_allWaited 0 = .ok (.iconst 0, 1) := by decide +kernel
theorem dX1_allWaited_1 : decode cX1_allWaited 1 = .ok (.istore_n 1, 1) := by decide +kernel
theorem dX1_allWaited_2 : decode cX1_allWaited 2 = .ok (.iconst 0, 1) := by decide +kernel
theorem dX1_allWaited_3 : decode cX1_allWaited 3 = .ok (.istore_n 2, 1) := by decide +kernel
theorem dX1_allWaited_4 : decode cX1_allWaited 4 = .ok (.iload_n 2, 1) := by decide +kernel
theorem dX1_allWaited_5 : decode cX1_allWaited 5 = .ok (.aload_n 0, 1) := by decide +kernel
theorem dX1_allWaited_6 : decode cX1_allWaited 6 = .ok (.getfield 45, 3) := by decide +kernel
theorem dX1_allWaited_9 : decode cX1_allWaited 9 = .ok (.if_icmp .ge 21, 3) := by decide +kernel
theorem dX1_allWaited_12 : decode cX1_allWaited 12 = .ok (.iload_n 1, 1) := by decide +kernel
theorem dX1_allWaited_13 : decode cX1_allWaited 13 = .ok (.aload_n 0, 1) := by decide +kernel
theorem dX1_allWaited_14 : decode cX1_allWaited 14 = .ok (.getfield 25, 3) := by decide +kernel
theorem dX1_allWaited_17 : decode cX1_allWaited 17 = .ok (.iload_n 2, 1) := by decide +kernel
theorem dX1_allWaited_18 : decode cX1_allWaited 18 = .ok (.aaload, 1) := by decide +kernel
theorem dX1_allWaited_19 : decode cX1_allWaited 19 = .ok (.getfield 96, 3) := by decide +kernel
theorem dX1_allWaited_22 : decode cX1_allWaited 22 = .ok (.iadd, 1) := by decide +kernel
theorem dX1_allWaited_23 : decode cX1_allWaited 23 = .ok (.istore_n 1, 1) := by decide +kernel
theorem dX1_allWaited_24 : decode cX1_allWaited 24 = .ok (.iinc 2 1, 3) := by decide +kernel
theorem dX1_allWaited_27 : decode cX1_allWaited 27 = .ok (.goto (-23), 3) := by decide +kernel
theorem dX1_allWaited_30 : decode cX1_allWaited 30 = .ok (.iload_n 1, 1) := by decide +kernel
theorem dX1_allWaited_31 : decode cX1_allWaited 31 = .ok (.ireturn, 1) := by decide +kernel
theorem dX1_bunchedPairs_0 : decode cX1_bunchedPairs 0 = .ok (.iconst 0, 1) := by decide +kernel
theorem dX1_bunchedPairs_1 : decode cX1_bunchedPairs 1 = .ok (.istore_n 1, 1) := by decide +kernel
theorem dX1_bunchedPairs_2 : decode cX1_bunchedPairs 2 = .ok (.iconst 0, 1) := by decide +kernel
theorem dX1_bunchedPairs_3 : decode cX1_bunchedPairs 3 = .ok (.istore_n 2, 1) := by decide +kernel
theorem dX1_bunchedPairs_4 : decode cX1_bunchedPairs 4 = .ok (.iload_n 2, 1) := by decide +kernel
theorem dX1_bunchedPairs_5 : decode cX1_bunchedPairs 5 = .ok (.aload_n 0, 1) := by decide +kernel
theorem dX1_bunchedPairs_6 : decode cX1_bunchedPairs 6 = .ok (.getfield 38, 3) := by decide +kernel
theorem dX1_bunchedPairs_9 : decode cX1_bunchedPairs 9 = .ok (.if_icmp .ge 48, 3) := by decide +kernel
theorem dX1_bunchedPairs_12 : decode cX1_bunchedPairs 12 = .ok (.iload_n 2, 1) := by decide +kernel
theorem dX1_bunchedPairs_13 : decode cX1_bunchedPairs 13 = .ok (.iconst 1, 1) := by decide +kernel
theorem dX1_bunchedPairs_14 : decode cX1_bunchedPairs 14 = .ok (.iadd, 1) := by decide +kernel
theorem dX1_bunchedPairs_15 : decode cX1_bunchedPairs 15 = .ok (.istore_n 3, 1) := by decide +kernel
theorem dX1_bunchedPairs_16 : decode cX1_bunchedPairs 16 = .ok (.iload_n 3, 1) := by decide +kernel
theorem dX1_bunchedPairs_17 : decode cX1_bunchedPairs 17 = .ok (.aload_n 0, 1) := by decide +kernel
theorem dX1_bunchedPairs_18 : decode cX1_bunchedPairs 18 = .ok (.getfield 38, 3) := by decide +kernel
theorem dX1_bunchedPairs_21 : decode cX1_bunchedPairs 21 = .ok (.if_icmp .ge 30, 3) := by decide +kernel
theorem dX1_bunchedPairs_24 : decode cX1_bunchedPairs 24 = .ok (.aload_n 0, 1) := by decide +kernel
theorem dX1_bunchedPairs_25 : decode cX1_bunchedPairs 25 = .ok (.getfield 19, 3) := by decide +kernel
theorem dX1_bunchedPairs_28 : decode cX1_bunchedPairs 28 = .ok (.iload_n 2, 1) := by decide +kernel
theorem dX1_bunchedPairs_29 : decode cX1_bunchedPairs 29 = .ok (.aaload, 1) := by decide +kernel
theorem dX1_bunchedPairs_30 : decode cX1_bunchedPairs 30 = .ok (.aload_n 0, 1) := by decide +kernel
theorem dX1_bunchedPairs_31 : decode cX1_bunchedPairs 31 = .ok (.getfield 19, 3) := by decide +kernel
theorem dX1_bunchedPairs_34 : decode cX1_bunchedPairs 34 = .ok (.iload_n 3, 1) := by decide +kernel
theorem dX1_bunchedPairs_35 : decode cX1_bunchedPairs 35 = .ok (.aaload, 1) := by decide +kernel
theorem dX1_bunchedPairs_36 : decode cX1_bunchedPairs 36 = .ok (.invokevirtual 164, 3) := by decide +kernel
theorem dX1_bunchedPairs_39 : decode cX1_bunchedPairs 39 = .ok (.ifCond .eq 6, 3) := by decide +kernel
theorem dX1_bunchedPairs_42 : decode cX1_bunchedPairs 42 = .ok (.iinc 1 1, 3) := by decide +kernel
theorem dX1_bunchedPairs_45 : decode cX1_bunchedPairs 45 = .ok (.iinc 3 1, 3) := by decide +kernel
theorem dX1_bunchedPairs_48 : decode cX1_bunchedPairs 48 = .ok (.goto (-32), 3) := by decide +kernel
theorem dX1_bunchedPairs_51 : decode cX1_bunchedPairs 51 = .ok (.iinc 2 1, 3) := by decide +kernel
theorem dX1_bunchedPairs_54 : decode cX1_bunchedPairs 54 = .ok (.goto (-50), 3) := by decide +kernel
theorem dX1_bunchedPairs_57 : decode cX1_bunchedPairs 57 = .ok (.iload_n 1, 1) := by decide +kernel
theorem dX1_bunchedPairs_58 : decode cX1_bunchedPairs 58 = .ok (.ireturn, 1) := by decide +kernel
theorem dX2_init_0 : decode cX2_init 0 = .ok (.aload_n 0, 1) := by decide +kernel
theorem dX2_init_1 : decode cX2_init 1 = .ok (.invokespecial 3, 3) := by decide +kernel
theorem dX2_init_4 : decode cX2_init 4 = .ok (.aload_n 0, 1) := by decide +kernel
theorem dX2_init_5 : decode cX2_init 5 = .ok (.iconst (-1), 1) := by decide +kernel
theorem dX2_init_6 : decode cX2_init 6 = .ok (.putfield 9, 3) := by decide +kernel
theorem dX2_init_9 : decode cX2_init 9 = .ok (.aload_n 0, 1) := by decide +kernel
theorem dX2_init_10 : decode cX2_init 10 = .ok (.iconst (-1), 1) := by decide +kernel
theorem dX2_init_11 : decode cX2_init 11 = .ok (.putfield 15, 3) := by decide +kernel
theorem dX2_init_14 : decode cX2_init 14 = .ok (.return_, 1) := by decide +kernel
theorem dX2_copyFrom_0 : decode cX2_copyFrom 0 = .ok (.aload_n 0, 1) := by decide +kernel
theorem dX2_copyFrom_1 : decode cX2_copyFrom 1 = .ok (.aload_n 1, 1) := by decide +kernel
theorem dX2_copyFrom_2 : decode cX2_copyFrom 2 = .ok (.getfield 18, 3) := by decide +kernel
theorem dX2_copyFrom_5 : decode cX2_copyFrom 5 = .ok (.putfield 18, 3) := by decide +kernel
theorem dX2_copyFrom_8 : decode cX2_copyFrom 8 = .ok (.aload_n 0, 1) := by decide +kernel
theorem dX2_copyFrom_9 : decode cX2_copyFrom 9 = .ok (.aload_n 1, 1) := by decide +kernel
theorem dX2_copyFrom_10 : decode cX2_copyFrom 10 = .ok (.getfield 21, 3) := by decide +kernel
theorem dX2_copyFrom_13 : decode cX2_copyFrom 13 = .ok (.putfield 21, 3) := by decide +kernel
theorem dX2_copyFrom_16 : decode cX2_copyFrom 16 = .ok (.aload_n 0, 1) := by decide +kernel
theorem dX2_copyFrom_17 : decode cX2_copyFrom 17 = .ok (.aload_n 1, 1) := by decide +kernel
theorem dX2_copyFrom_18 : decode cX2_copyFrom 18 = .ok (.getfield 24, 3) := by decide +kernel
theorem dX2_copyFrom_21 : decode cX2_copyFrom 21 = .ok (.putfield 24, 3) := by decide +kernel
theorem dX2_copyFrom_24 : decode cX2_copyFrom 24 = .ok (.aload_n 0, 1) := by decide +kernel
theorem dX2_copyFrom_25 : decode cX2_copyFrom 25 = .ok (.aload_n 1, 1) := by decide +kernel
theorem dX2_copyFrom_26 : decode cX2_copyFrom 26 = .ok (.getfield 9, 3) := by decide +kernel
theorem dX2_copyFrom_29 : decode cX2_copyFrom 29 = .ok (.putfield 9, 3) := by decide +kernel
theorem dX2_copyFrom_32 : decode cX2_copyFrom 32 = .ok (.aload_n 0, 1) := by decide +kernel
theorem dX2_copyFrom_33 : decode cX2_copyFrom 33 = .ok (.aload_n 1, 1) := by decide +kernel
theorem dX2_copyFrom_34 : decode cX2_copyFrom 34 = .ok (.getfield 27, 3) := by decide +kernel
theorem dX2_copyFrom_37 : decode cX2_copyFrom 37 = .ok (.putfield 27, 3) := by decide +kernel
theorem dX2_copyFrom_40 : decode cX2_copyFrom 40 = .ok (.aload_n 0, 1) := by decide +kernel
theorem dX2_copyFrom_41 : decode cX2_copyFrom 41 = .ok (.aload_n 1, 1) := by decide +kernel
theorem dX2_copyFrom_42 : decode cX2_copyFrom 42 = .ok (.getfield 30, 3) := by decide +kernel
theorem dX2_copyFrom_45 : decode cX2_copyFrom 45 = .ok (.putfield 30, 3) := by decide +kernel
theorem dX2_copyFrom_48 : decode cX2_copyFrom 48 = .ok (.aload_n 0, 1) := by decide +kernel
theorem dX2_copyFrom_49 : decode cX2_copyFrom 49 = .ok (.aload_n 1, 1) := by decide +kernel
theorem dX2_copyFrom_50 : decode cX2_copyFrom 50 = .ok (.getfield 15, 3) := by decide +kernel
theorem dX2_copyFrom_53 : decode cX2_copyFrom 53 = .ok (.putfield 15, 3) := by decide +kernel
theorem dX2_copyFrom_56 : decode cX2_copyFrom 56 = .ok (.aload_n 0, 1) := by decide +kernel
theorem dX2_copyFrom_57 : decode cX2_copyFrom 57 = .ok (.aload_n 1, 1) := by decide +kernel
theorem dX2_copyFrom_58 : decode cX2_copyFrom 58 = .ok (.getfield 33, 3) := by decide +kernel
theorem dX2_copyFrom_61 : decode cX2_copyFrom 61 = .ok (.putfield 33, 3) := by decide +kernel
theorem dX2_copyFrom_64 : decode cX2_copyFrom 64 = .ok (.return_, 1) := by decide +kernel
theorem dX2_waitsAt_0 : decode cX2_waitsAt 0 = .ok (.aload_n 0, 1) := by decide +kernel
theorem dX2_waitsAt_1 : decode cX2_waitsAt 1 = .ok (.getfield 18, 3) := by decide +kernel
theorem dX2_waitsAt_4 : decode cX2_waitsAt 4 = .ok (.ifCond .ne 15, 3) := by decide +kernel
theorem dX2_waitsAt_7 : decode cX2_waitsAt 7 = .ok (.aload_n 0, 1) := by decide +kernel
theorem dX2_waitsAt_8 : decode cX2_waitsAt 8 = .ok (.getfield 21, 3) := by decide +kernel
theorem dX2_waitsAt_11 : decode cX2_waitsAt 11 = .ok (.iload_n 1, 1) := by decide +kernel
theorem dX2_waitsAt_12 : decode cX2_waitsAt 12 = .ok (.if_icmp .ne 7, 3) := by decide +kernel
theorem dX2_waitsAt_15 : decode cX2_waitsAt 15 = .ok (.iconst 1, 1) := by decide +kernel
theorem dX2_waitsAt_16 : decode cX2_waitsAt 16 = .ok (.goto 4, 3) := by decide +kernel
theorem dX2_waitsAt_19 : decode cX2_waitsAt 19 = .ok (.iconst 0, 1) := by decide +kernel
theorem dX2_waitsAt_20 : decode cX2_waitsAt 20 = .ok (.ireturn, 1) := by decide +kernel
theorem dX2_leavesAt_0 : decode cX2_leavesAt 0 = .ok (.aload_n 0, 1) := by decide +kernel
theorem dX2_leavesAt_1 : decode cX2_leavesAt 1 = .ok (.getfield 18, 3) := by decide +kernel
theorem dX2_leavesAt_4 : decode cX2_leavesAt 4 = .ok (.iconst 1, 1) := by decide +kernel
theorem dX2_leavesAt_5 : decode cX2_leavesAt 5 = .ok (.if_icmp .ne 26, 3) := by decide +kernel
theorem dX2_leavesAt_8 : decode cX2_leavesAt 8 = .ok (.aload_n 0, 1) := by decide +kernel
theorem dX2_leavesAt_9 : decode cX2_leavesAt 9 = .ok (.getfield 9, 3) := by decide +kernel
theorem dX2_leavesAt_12 : decode cX2_leavesAt 12 = .ok (.aload_n 2, 1) := by decide +kernel
theorem dX2_leavesAt_13 : decode cX2_leavesAt 13 = .ok (.getfield 37, 3) := by decide +kernel
theorem dX2_leavesAt_16 : decode cX2_leavesAt 16 = .ok (.if_icmp .ne 15, 3) := by decide +kernel
theorem dX2_leavesAt_19 : decode cX2_leavesAt 19 = .ok (.aload_n 0, 1) := by decide +kernel
theorem dX2_leavesAt_20 : decode cX2_leavesAt 20 = .ok (.getfield 24, 3) := by decide +kernel
theorem dX2_leavesAt_23 : decode cX2_leavesAt 23 = .ok (.iload_n 1, 1) := by decide +kernel
theorem dX2_leavesAt_24 : decode cX2_leavesAt 24 = .ok (.if_icmp .ne 7, 3) := by decide +kernel
theorem dX2_leavesAt_27 : decode cX2_leavesAt 27 = .ok (.iconst 1, 1) := by decide +kernel
theorem dX2_leavesAt_28 : decode cX2_leavesAt 28 = .ok (.goto 4, 3) := by decide +kernel
theorem dX2_leavesAt_31 : decode cX2_leavesAt 31 = .ok (.iconst 0, 1) := by decide +kernel
theorem dX2_leavesAt_32 : decode cX2_leavesAt 32 = .ok (.ireturn, 1) := by decide +kernel
theorem dX2_waitAgain_0 : decode cX2_waitAgain 0 = .ok (.aload_n 0, 1) := by decide +kernel
theorem dX2_waitAgain_1 : decode cX2_waitAgain 1 = .ok (.iload_n 2, 1) := by decide +kernel
theorem dX2_waitAgain_2 : decode cX2_waitAgain 2 = .ok (.aload_n 0, 1) := by decide +kernel
theorem dX2_waitAgain_3 : decode cX2_waitAgain 3 = .ok (.getfield 15, 3) := by decide +kernel
theorem dX2_waitAgain_6 : decode cX2_waitAgain 6 = .ok (.isub, 1) := by decide +kernel
theorem dX2_waitAgain_7 : decode cX2_waitAgain 7 = .ok (.bipush 20, 2) := by decide +kernel
theorem dX2_waitAgain_9 : decode cX2_waitAgain 9 = .ok (.if_icmp .gt 7, 3) := by decide +kernel
theorem dX2_waitAgain_12 : decode cX2_waitAgain 12 = .ok (.iconst 1, 1) := by decide +kernel
theorem dX2_waitAgain_13 : decode cX2_waitAgain 13 = .ok (.goto 4, 3) := by decide +kernel
theorem dX2_waitAgain_16 : decode cX2_waitAgain 16 = .ok (.iconst 0, 1) := by decide +kernel
theorem dX2_waitAgain_17 : decode cX2_waitAgain 17 = .ok (.putfield 33, 3) := by decide +kernel
theorem dX2_waitAgain_20 : decode cX2_waitAgain 20 = .ok (.aload_n 0, 1) := by decide +kernel
theorem dX2_waitAgain_21 : decode cX2_waitAgain 21 = .ok (.iconst 0, 1) := by decide +kernel
theorem dX2_waitAgain_22 : decode cX2_waitAgain 22 = .ok (.putfield 18, 3) := by decide +kernel
theorem dX2_waitAgain_25 : decode cX2_waitAgain 25 = .ok (.aload_n 0, 1) := by decide +kernel
theorem dX2_waitAgain_26 : decode cX2_waitAgain 26 = .ok (.iload_n 1, 1) := by decide +kernel
theorem dX2_waitAgain_27 : decode cX2_waitAgain 27 = .ok (.putfield 24, 3) := by decide +kernel
theorem dX2_waitAgain_30 : decode cX2_waitAgain 30 = .ok (.return_, 1) := by decide +kernel
theorem dX2_getOn_0 : decode cX2_getOn 0 = .ok (.aload_n 0, 1) := by decide +kernel
theorem dX2_getOn_1 : decode cX2_getOn 1 = .ok (.getfield 33, 3) := by decide +kernel
theorem dX2_getOn_4 : decode cX2_getOn 4 = .ok (.ifCond .eq 9, 3) := by decide +kernel
theorem dX2_getOn_7 : decode cX2_getOn 7 = .ok (.iload_n 2, 1) := by decide +kernel
theorem dX2_getOn_8 : decode cX2_getOn 8 = .ok (.iconst 2, 1) := by decide +kernel
theorem dX2_getOn_9 : decode cX2_getOn 9 = .ok (.idiv, 1) := by decide +kernel
theorem dX2_getOn_10 : decode cX2_getOn 10 = .ok (.goto 4, 3) := by decide +kernel
theorem dX2_getOn_13 : decode cX2_getOn 13 = .ok (.iload_n 2, 1) := by decide +kernel
theorem dX2_getOn_14 : decode cX2_getOn 14 = .ok (.istore_n 3, 1) := by decide +kernel
theorem dX2_getOn_15 : decode cX2_getOn 15 = .ok (.aload_n 0, 1) := by decide +kernel
theorem dX2_getOn_16 : decode cX2_getOn 16 = .ok (.iconst 0, 1) := by decide +kernel
theorem dX2_getOn_17 : decode cX2_getOn 17 = .ok (.putfield 33, 3) := by decide +kernel
theorem dX2_getOn_20 : decode cX2_getOn 20 = .ok (.aload_n 0, 1) := by decide +kernel
theorem dX2_getOn_21 : decode cX2_getOn 21 = .ok (.iconst 1, 1) := by decide +kernel
theorem dX2_getOn_22 : decode cX2_getOn 22 = .ok (.putfield 18, 3) := by decide +kernel
theorem dX2_getOn_25 : decode cX2_getOn 25 = .ok (.aload_n 0, 1) := by decide +kernel
theorem dX2_getOn_26 : decode cX2_getOn 26 = .ok (.aload_n 1, 1) := by decide +kernel
theorem dX2_getOn_27 : decode cX2_getOn 27 = .ok (.getfield 37, 3) := by decide +kernel
theorem dX2_getOn_30 : decode cX2_getOn 30 = .ok (.putfield 9, 3) := by decide +kernel
theorem dX2_getOn_33 : decode cX2_getOn 33 = .ok (.aload_n 0, 1) := by decide +kernel
theorem dX2_getOn_34 : decode cX2_getOn 34 = .ok (.dup, 1) := by decide +kernel
theorem dX2_getOn_35 : decode cX2_getOn 35 = .ok (.getfield 27, 3) := by decide +kernel
theorem dX2_getOn_38 : decode cX2_getOn 38 = .ok (.iload_n 3, 1) := by decide +kernel
theorem dX2_getOn_39 : decode cX2_getOn 39 = .ok (.iadd, 1) := by decide +kernel
theorem dX2_getOn_40 : decode cX2_getOn 40 = .ok (.putfield 27, 3) := by decide +kernel
theorem dX2_getOn_43 : decode cX2_getOn 43 = .ok (.iload_n 3, 1) := by decide +kernel
theorem dX2_getOn_44 : decode cX2_getOn 44 = .ok (.ireturn, 1) := by decide +kernel
theorem dX2_getOff_0 : decode cX2_getOff 0 = .ok (.aload_n 0, 1) := by decide +kernel
theorem dX2_getOff_1 : decode cX2_getOff 1 = .ok (.iconst 2, 1) := by decide +kernel
theorem dX2_getOff_2 : decode cX2_getOff 2 = .ok (.putfield 18, 3) := by decide +kernel
theorem dX2_getOff_5 : decode cX2_getOff 5 = .ok (.aload_n 0, 1) := by decide +kernel
theorem dX2_getOff_6 : decode cX2_getOff 6 = .ok (.aload_n 0, 1) := by decide +kernel
theorem dX2_getOff_7 : decode cX2_getOff 7 = .ok (.getfield 24, 3) := by decide +kernel
theorem dX2_getOff_10 : decode cX2_getOff 10 = .ok (.putfield 21, 3) := by decide +kernel
theorem dX2_getOff_13 : decode cX2_getOff 13 = .ok (.aload_n 0, 1) := by decide +kernel
theorem dX2_getOff_14 : decode cX2_getOff 14 = .ok (.iconst (-1), 1) := by decide +kernel
theorem dX2_getOff_15 : decode cX2_getOff 15 = .ok (.putfield 9, 3) := by decide +kernel
theorem dX2_getOff_18 : decode cX2_getOff 18 = .ok (.aload_n 0, 1) := by decide +kernel
theorem dX2_getOff_19 : decode cX2_getOff 19 = .ok (.iload_n 1, 1) := by decide +kernel
theorem dX2_getOff_20 : decode cX2_getOff 20 = .ok (.putfield 15, 3) := by decide +kernel
theorem dX2_getOff_23 : decode cX2_getOff 23 = .ok (.return_, 1) := by decide +kernel
theorem dX2_tell_0 : decode cX2_tell 0 = .ok (.iload_n 1, 1) := by decide +kernel
theorem dX2_tell_1 : decode cX2_tell 1 = .ok (.tableswitch 69 0 5 #[39, 44, 49, 54, 59, 64], 39) := by decide +kernel
theorem dX2_tell_40 : decode cX2_tell 40 = .ok (.aload_n 0, 1) := by decide +kernel
theorem dX2_tell_41 : decode cX2_tell 41 = .ok (.getfield 18, 3) := by decide +kernel
theorem dX2_tell_44 : decode cX2_tell 44 = .ok (.ireturn, 1) := by decide +kernel
theorem dX2_tell_45 : decode cX2_tell 45 = .ok (.aload_n 0, 1) := by decide +kernel
theorem dX2_tell_46 : decode cX2_tell 46 = .ok (.getfield 21, 3) := by decide +kernel
theorem dX2_tell_49 : decode cX2_tell 49 = .ok (.ireturn, 1) := by decide +kernel
theorem dX2_tell_50 : decode cX2_tell 50 = .ok (.aload_n 0, 1) := by decide +kernel
theorem dX2_tell_51 : decode cX2_tell 51 = .ok (.getfield 24, 3) := by decide +kernel
theorem dX2_tell_54 : decode cX2_tell 54 = .ok (.ireturn, 1) := by decide +kernel
theorem dX2_tell_55 : decode cX2_tell 55 = .ok (.aload_n 0, 1) := by decide +kernel
theorem dX2_tell_56 : decode cX2_tell 56 = .ok (.getfield 9, 3) := by decide +kernel
theorem dX2_tell_59 : decode cX2_tell 59 = .ok (.ireturn, 1) := by decide +kernel
theorem dX2_tell_60 : decode cX2_tell 60 = .ok (.aload_n 0, 1) := by decide +kernel
theorem dX2_tell_61 : decode cX2_tell 61 = .ok (.getfield 27, 3) := by decide +kernel
theorem dX2_tell_64 : decode cX2_tell 64 = .ok (.ireturn, 1) := by decide +kernel
theorem dX2_tell_65 : decode cX2_tell 65 = .ok (.aload_n 0, 1) := by decide +kernel
theorem dX2_tell_66 : decode cX2_tell 66 = .ok (.getfield 30, 3) := by decide +kernel
theorem dX2_tell_69 : decode cX2_tell 69 = .ok (.ireturn, 1) := by decide +kernel
theorem dX2_tell_70 : decode cX2_tell 70 = .ok (.aload_n 0, 1) := by decide +kernel
theorem dX2_tell_71 : decode cX2_tell 71 = .ok (.getfield 15, 3) := by decide +kernel
theorem dX2_tell_74 : decode cX2_tell 74 = .ok (.ireturn, 1) := by decide +kernel
theorem dX3_init_0 : decode cX3_init 0 = .ok (.aload_n 0, 1) := by decide +kernel
theorem dX3_init_1 : decode cX3_init 1 = .ok (.invokespecial 3, 3) := by decide +kernel
theorem dX3_init_4 : decode cX3_init 4 = .ok (.aload_n 0, 1) := by decide +kernel
theorem dX3_init_5 : decode cX3_init 5 = .ok (.iconst 2, 1) := by decide +kernel
theorem dX3_init_6 : decode cX3_init 6 = .ok (.putfield 9, 3) := by decide +kernel
theorem dX3_init_9 : decode cX3_init 9 = .ok (.aload_n 0, 1) := by decide +kernel
theorem dX3_init_10 : decode cX3_init 10 = .ok (.iload_n 1, 1) := by decide +kernel
theorem dX3_init_11 : decode cX3_init 11 = .ok (.putfield 15, 3) := by decide +kernel
theorem dX3_init_14 : decode cX3_init 14 = .ok (.aload_n 0, 1) := by decide +kernel
theorem dX3_init_15 : decode cX3_init 15 = .ok (.iconst (-1), 1) := by decide +kernel
theorem dX3_init_16 : decode cX3_init 16 = .ok (.putfield 18, 3) := by decide +kernel
theorem dX3_init_19 : decode cX3_init 19 = .ok (.return_, 1) := by decide +kernel
theorem dX3_copyFrom_0 : decode cX3_copyFrom 0 = .ok (.aload_n 0, 1) := by decide +kernel
theorem dX3_copyFrom_1 : decode cX3_copyFrom 1 = .ok (.aload_n 1, 1) := by decide +kernel
theorem dX3_copyFrom_2 : decode cX3_copyFrom 2 = .ok (.getfield 9, 3) := by decide +kernel
theorem dX3_copyFrom_5 : decode cX3_copyFrom 5 = .ok (.putfield 9, 3) := by decide +kernel
theorem dX3_copyFrom_8 : decode cX3_copyFrom 8 = .ok (.aload_n 0, 1) := by decide +kernel
theorem dX3_copyFrom_9 : decode cX3_copyFrom 9 = .ok (.aload_n 1, 1) := by decide +kernel
theorem dX3_copyFrom_10 : decode cX3_copyFrom 10 = .ok (.getfield 15, 3) := by decide +kernel
theorem dX3_copyFrom_13 : decode cX3_copyFrom 13 = .ok (.putfield 15, 3) := by decide +kernel
theorem dX3_copyFrom_16 : decode cX3_copyFrom 16 = .ok (.aload_n 0, 1) := by decide +kernel
theorem dX3_copyFrom_17 : decode cX3_copyFrom 17 = .ok (.aload_n 1, 1) := by decide +kernel
theorem dX3_copyFrom_18 : decode cX3_copyFrom 18 = .ok (.getfield 18, 3) := by decide +kernel
theorem dX3_copyFrom_21 : decode cX3_copyFrom 21 = .ok (.putfield 18, 3) := by decide +kernel
theorem dX3_copyFrom_24 : decode cX3_copyFrom 24 = .ok (.return_, 1) := by decide +kernel
theorem dX3_letsLeave_0 : decode cX3_letsLeave 0 = .ok (.iload_n 2, 1) := by decide +kernel
theorem dX3_letsLeave_1 : decode cX3_letsLeave 1 = .ok (.ifCond .eq 21, 3) := by decide +kernel
theorem dX3_letsLeave_4 : decode cX3_letsLeave 4 = .ok (.aload_n 0, 1) := by decide +kernel
theorem dX3_letsLeave_5 : decode cX3_letsLeave 5 = .ok (.getfield 18, 3) := by decide +kernel
theorem dX3_letsLeave_8 : decode cX3_letsLeave 8 = .ok (.iconst (-1), 1) := by decide +kernel
theorem dX3_letsLeave_9 : decode cX3_letsLeave 9 = .ok (.if_icmp .eq 13, 3) := by decide +kernel
theorem dX3_letsLeave_12 : decode cX3_letsLeave 12 = .ok (.iload_n 1, 1) := by decide +kernel
theorem dX3_letsLeave_13 : decode cX3_letsLeave 13 = .ok (.aload_n 0, 1) := by decide +kernel
theorem dX3_letsLeave_14 : decode cX3_letsLeave 14 = .ok (.getfield 18, 3) := by decide +kernel
theorem dX3_letsLeave_17 : decode cX3_letsLeave 17 = .ok (.isub, 1) := by decide +kernel
theorem dX3_letsLeave_18 : decode cX3_letsLeave 18 = .ok (.iload_n 2, 1) := by decide +kernel
theorem dX3_letsLeave_19 : decode cX3_letsLeave 19 = .ok (.if_icmp .lt 7, 3) := by decide +kernel
theorem dX3_letsLeave_22 : decode cX3_letsLeave 22 = .ok (.iconst 1, 1) := by decide +kernel
theorem dX3_letsLeave_23 : decode cX3_letsLeave 23 = .ok (.goto 4, 3) := by decide +kernel
theorem dX3_letsLeave_26 : decode cX3_letsLeave 26 = .ok (.iconst 0, 1) := by decide +kernel
theorem dX3_letsLeave_27 : decode cX3_letsLeave 27 = .ok (.ireturn, 1) := by decide +kernel
theorem dJ9_max_7cf53_0 : decode cJ9_max_7cf53 0 = .ok (.iload_n 0, 1) := by decide +kernel
theorem dJ9_max_7cf53_1 : decode cJ9_max_7cf53 1 = .ok (.iload_n 1, 1) := by decide +kernel
theorem dJ9_max_7cf53_2 : decode cJ9_max_7cf53 2 = .ok (.if_icmp .lt 7, 3) := by decide +kernel
theorem dJ9_max_7cf53_5 : decode cJ9_max_7cf53 5 = .ok (.iload_n 0, 1) := by decide +kernel
theorem dJ9_max_7cf53_6 : decode cJ9_max_7cf53 6 = .ok (.goto 4, 3) := by decide +kernel
theorem dJ9_max_7cf53_9 : decode cJ9_max_7cf53 9 = .ok (.iload_n 1, 1) := by decide +kernel
theorem dJ9_max_7cf53_10 : decode cJ9_max_7cf53 10 = .ok (.ireturn, 1) := by decide +kernel
