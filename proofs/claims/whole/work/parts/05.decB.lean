theorem dX5_init_0 : decode cX5_init 0 = .ok (.aload_n 0, 1) := by decide +kernel
theorem dX5_init_1 : decode cX5_init 1 = .ok (.aload_n 1, 1) := by decide +kernel
theorem dX5_init_2 : decode cX5_init 2 = .ok (.putfield 3, 3) := by decide +kernel
theorem dX5_init_5 : decode cX5_init 5 = .ok (.aload_n 0, 1) := by decide +kernel
theorem dX5_init_6 : decode cX5_init 6 = .ok (.invokespecial 9, 3) := by decide +kernel
theorem dX5_init_9 : decode cX5_init 9 = .ok (.aload_n 0, 1) := by decide +kernel
theorem dX5_init_10 : decode cX5_init 10 = .ok (.bipush 10, 2) := by decide +kernel
theorem dX5_init_12 : decode cX5_init 12 = .ok (.newarray .int, 2) := by decide +kernel
theorem dX5_init_14 : decode cX5_init 14 = .ok (.putfield 15, 3) := by decide +kernel
theorem dX5_init_17 : decode cX5_init 17 = .ok (.aload_n 0, 1) := by decide +kernel
theorem dX5_init_18 : decode cX5_init 18 = .ok (.bipush 6, 2) := by decide +kernel
theorem dX5_init_20 : decode cX5_init 20 = .ok (.newarray .int, 2) := by decide +kernel
theorem dX5_init_22 : decode cX5_init 22 = .ok (.putfield 19, 3) := by decide +kernel
theorem dX5_init_25 : decode cX5_init 25 = .ok (.aload_n 0, 1) := by decide +kernel
theorem dX5_init_26 : decode cX5_init 26 = .ok (.bipush 6, 2) := by decide +kernel
theorem dX5_init_28 : decode cX5_init 28 = .ok (.newarray .int, 2) := by decide +kernel
theorem dX5_init_30 : decode cX5_init 30 = .ok (.putfield 22, 3) := by decide +kernel
theorem dX5_init_33 : decode cX5_init 33 = .ok (.aload_n 0, 1) := by decide +kernel
theorem dX5_init_34 : decode cX5_init 34 = .ok (.bipush 6, 2) := by decide +kernel
theorem dX5_init_36 : decode cX5_init 36 = .ok (.newarray .int, 2) := by decide +kernel
theorem dX5_init_38 : decode cX5_init 38 = .ok (.putfield 25, 3) := by decide +kernel
theorem dX5_init_41 : decode cX5_init 41 = .ok (.aload_n 0, 1) := by decide +kernel
theorem dX5_init_42 : decode cX5_init 42 = .ok (.bipush 6, 2) := by decide +kernel
theorem dX5_init_44 : decode cX5_init 44 = .ok (.newarray .int, 2) := by decide +kernel
theorem dX5_init_46 : decode cX5_init 46 = .ok (.putfield 28, 3) := by decide +kernel
theorem dX5_init_49 : decode cX5_init 49 = .ok (.aload_n 0, 1) := by decide +kernel
theorem dX5_init_50 : decode cX5_init 50 = .ok (.bipush 50, 2) := by decide +kernel
theorem dX5_init_52 : decode cX5_init 52 = .ok (.newarray .int, 2) := by decide +kernel
theorem dX5_init_54 : decode cX5_init 54 = .ok (.putfield 31, 3) := by decide +kernel
theorem dX5_init_57 : decode cX5_init 57 = .ok (.aload_n 0, 1) := by decide +kernel
theorem dX5_init_58 : decode cX5_init 58 = .ok (.bipush 50, 2) := by decide +kernel
theorem dX5_init_60 : decode cX5_init 60 = .ok (.newarray .int, 2) := by decide +kernel
theorem dX5_init_62 : decode cX5_init 62 = .ok (.putfield 34, 3) := by decide +kernel
theorem dX5_init_65 : decode cX5_init 65 = .ok (.aload_n 0, 1) := by decide +kernel
theorem dX5_init_66 : decode cX5_init 66 = .ok (.bipush 50, 2) := by decide +kernel
theorem dX5_init_68 : decode cX5_init 68 = .ok (.newarray .int, 2) := by decide +kernel
theorem dX5_init_70 : decode cX5_init 70 = .ok (.putfield 37, 3) := by decide +kernel
theorem dX5_init_73 : decode cX5_init 73 = .ok (.aload_n 0, 1) := by decide +kernel
theorem dX5_init_74 : decode cX5_init 74 = .ok (.bipush 50, 2) := by decide +kernel
theorem dX5_init_76 : decode cX5_init 76 = .ok (.newarray .int, 2) := by decide +kernel
theorem dX5_init_78 : decode cX5_init 78 = .ok (.putfield 40, 3) := by decide +kernel
theorem dX5_init_81 : decode cX5_init 81 = .ok (.aload_n 0, 1) := by decide +kernel
theorem dX5_init_82 : decode cX5_init 82 = .ok (.bipush 50, 2) := by decide +kernel
theorem dX5_init_84 : decode cX5_init 84 = .ok (.newarray .int, 2) := by decide +kernel
theorem dX5_init_86 : decode cX5_init 86 = .ok (.putfield 43, 3) := by decide +kernel
theorem dX5_init_89 : decode cX5_init 89 = .ok (.aload_n 0, 1) := by decide +kernel
theorem dX5_init_90 : decode cX5_init 90 = .ok (.bipush 50, 2) := by decide +kernel
theorem dX5_init_92 : decode cX5_init 92 = .ok (.newarray .int, 2) := by decide +kernel
theorem dX5_init_94 : decode cX5_init 94 = .ok (.putfield 46, 3) := by decide +kernel
theorem dX5_init_97 : decode cX5_init 97 = .ok (.aload_n 0, 1) := by decide +kernel
theorem dX5_init_98 : decode cX5_init 98 = .ok (.bipush 50, 2) := by decide +kernel
theorem dX5_init_100 : decode cX5_init 100 = .ok (.newarray .int, 2) := by decide +kernel
theorem dX5_init_102 : decode cX5_init 102 = .ok (.putfield 49, 3) := by decide +kernel
theorem dX5_init_105 : decode cX5_init 105 = .ok (.aload_n 0, 1) := by decide +kernel
theorem dX5_init_106 : decode cX5_init 106 = .ok (.bipush 50, 2) := by decide +kernel
theorem dX5_init_108 : decode cX5_init 108 = .ok (.newarray .int, 2) := by decide +kernel
theorem dX5_init_110 : decode cX5_init 110 = .ok (.putfield 52, 3) := by decide +kernel
theorem dX5_init_113 : decode cX5_init 113 = .ok (.return_, 1) := by decide +kernel
theorem dX5_copy_0 : decode cX5_copy 0 = .ok (.aload_n 1, 1) := by decide +kernel
theorem dX5_copy_1 : decode cX5_copy 1 = .ok (.iconst 0, 1) := by decide +kernel
theorem dX5_copy_2 : decode cX5_copy 2 = .ok (.aload_n 2, 1) := by decide +kernel
theorem dX5_copy_3 : decode cX5_copy 3 = .ok (.iconst 0, 1) := by decide +kernel
theorem dX5_copy_4 : decode cX5_copy 4 = .ok (.aload_n 1, 1) := by decide +kernel
theorem dX5_copy_5 : decode cX5_copy 5 = .ok (.arraylength, 1) := by decide +kernel
theorem dX5_copy_6 : decode cX5_copy 6 = .ok (.invokestatic 55, 3) := by decide +kernel
theorem dX5_copy_9 : decode cX5_copy 9 = .ok (.return_, 1) := by decide +kernel
theorem dX5_become_0 : decode cX5_become 0 = .ok (.aload_n 0, 1) := by decide +kernel
theorem dX5_become_1 : decode cX5_become 1 = .ok (.aload_n 1, 1) := by decide +kernel
theorem dX5_become_2 : decode cX5_become 2 = .ok (.getfield 61, 3) := by decide +kernel
theorem dX5_become_5 : decode cX5_become 5 = .ok (.putfield 61, 3) := by decide +kernel
theorem dX5_become_8 : decode cX5_become 8 = .ok (.aload_n 0, 1) := by decide +kernel
theorem dX5_become_9 : decode cX5_become 9 = .ok (.aload_n 1, 1) := by decide +kernel
theorem dX5_become_10 : decode cX5_become 10 = .ok (.getfield 65, 3) := by decide +kernel
theorem dX5_become_13 : decode cX5_become 13 = .ok (.putfield 65, 3) := by decide +kernel
theorem dX5_become_16 : decode cX5_become 16 = .ok (.aload_n 0, 1) := by decide +kernel
theorem dX5_become_17 : decode cX5_become 17 = .ok (.aload_n 1, 1) := by decide +kernel
theorem dX5_become_18 : decode cX5_become 18 = .ok (.getfield 15, 3) := by decide +kernel
theorem dX5_become_21 : decode cX5_become 21 = .ok (.aload_n 0, 1) := by decide +kernel
theorem dX5_become_22 : decode cX5_become 22 = .ok (.getfield 15, 3) := by decide +kernel
theorem dX5_become_25 : decode cX5_become 25 = .ok (.invokevirtual 68, 3) := by decide +kernel
theorem dX5_become_28 : decode cX5_become 28 = .ok (.aload_n 0, 1) := by decide +kernel
theorem dX5_become_29 : decode cX5_become 29 = .ok (.aload_n 1, 1) := by decide +kernel
theorem dX5_become_30 : decode cX5_become 30 = .ok (.getfield 19, 3) := by decide +kernel
theorem dX5_become_33 : decode cX5_become 33 = .ok (.aload_n 0, 1) := by decide +kernel
theorem dX5_become_34 : decode cX5_become 34 = .ok (.getfield 19, 3) := by decide +kernel
theorem dX5_become_37 : decode cX5_become 37 = .ok (.invokevirtual 68, 3) := by decide +kernel
theorem dX5_become_40 : decode cX5_become 40 = .ok (.aload_n 0, 1) := by decide +kernel
theorem dX5_become_41 : decode cX5_become 41 = .ok (.aload_n 1, 1) := by decide +kernel
theorem dX5_become_42 : decode cX5_become 42 = .ok (.getfield 22, 3) := by decide +kernel
theorem dX5_become_45 : decode cX5_become 45 = .ok (.aload_n 0, 1) := by decide +kernel
theorem dX5_become_46 : decode cX5_become 46 = .ok (.getfield 22, 3) := by decide +kernel
theorem dX5_become_49 : decode cX5_become 49 = .ok (.invokevirtual 68, 3) := by decide +kernel
theorem dX5_become_52 : decode cX5_become 52 = .ok (.aload_n 0, 1) := by decide +kernel
theorem dX5_become_53 : decode cX5_become 53 = .ok (.aload_n 1, 1) := by decide +kernel
theorem dX5_become_54 : decode cX5_become 54 = .ok (.getfield 25, 3) := by decide +kernel
theorem dX5_become_57 : decode cX5_become 57 = .ok (.aload_n 0, 1) := by decide +kernel
theorem dX5_become_58 : decode cX5_become 58 = .ok (.getfield 25, 3) := by decide +kernel
theorem dX5_become_61 : decode cX5_become 61 = .ok (.invokevirtual 68, 3) := by decide +kernel
theorem dX5_become_64 : decode cX5_become 64 = .ok (.aload_n 0, 1) := by decide +kernel
theorem dX5_become_65 : decode cX5_become 65 = .ok (.aload_n 1, 1) := by decide +kernel
theorem dX5_become_66 : decode cX5_become 66 = .ok (.getfield 28, 3) := by decide +kernel
theorem dX5_become_69 : decode cX5_become 69 = .ok (.aload_n 0, 1) := by decide +kernel
theorem dX5_become_70 : decode cX5_become 70 = .ok (.getfield 28, 3) := by decide +kernel
theorem dX5_become_73 : decode cX5_become 73 = .ok (.invokevirtual 68, 3) := by decide +kernel
theorem dX5_become_76 : decode cX5_become 76 = .ok (.aload_n 0, 1) := by decide +kernel
theorem dX5_become_77 : decode cX5_become 77 = .ok (.aload_n 1, 1) := by decide +kernel
theorem dX5_become_78 : decode cX5_become 78 = .ok (.getfield 31, 3) := by decide +kernel
theorem dX5_become_81 : decode cX5_become 81 = .ok (.aload_n 0, 1) := by decide +kernel
theorem dX5_become_82 : decode cX5_become 82 = .ok (.getfield 31, 3) := by decide +kernel
theorem dX5_become_85 : decode cX5_become 85 = .ok (.invokevirtual 68, 3) := by decide +kernel
theorem dX5_become_88 : decode cX5_become 88 = .ok (.aload_n 0, 1) := by decide +kernel
theorem dX5_become_89 : decode cX5_become 89 = .ok (.aload_n 1, 1) := by decide +kernel
theorem dX5_become_90 : decode cX5_become 90 = .ok (.getfield 34, 3) := by decide +kernel
theorem dX5_become_93 : decode cX5_become 93 = .ok (.aload_n 0, 1) := by decide +kernel
theorem dX5_become_94 : decode cX5_become 94 = .ok (.getfield 34, 3) := by decide +kernel
theorem dX5_become_97 : decode cX5_become 97 = .ok (.invokevirtual 68, 3) := by decide +kernel
theorem dX5_become_100 : decode cX5_become 100 = .ok (.aload_n 0, 1) := by decide +kernel
theorem dX5_become_101 : decode cX5_become 101 = .ok (.aload_n 1, 1) := by decide +kernel
theorem dX5_become_102 : decode cX5_become 102 = .ok (.getfield 37, 3) := by decide +kernel
theorem dX5_become_105 : decode cX5_become 105 = .ok (.aload_n 0, 1) := by decide +kernel
theorem dX5_become_106 : decode cX5_become 106 = .ok (.getfield 37, 3) := by decide +kernel
theorem dX5_become_109 : decode cX5_become 109 = .ok (.invokevirtual 68, 3) := by decide +kernel
theorem dX5_become_112 : decode cX5_become 112 = .ok (.aload_n 0, 1) := by decide +kernel
theorem dX5_become_113 : decode cX5_become 113 = .ok (.aload_n 1, 1) := by decide +kernel
theorem dX5_become_114 : decode cX5_become 114 = .ok (.getfield 40, 3) := by decide +kernel
theorem dX5_become_117 : decode cX5_become 117 = .ok (.aload_n 0, 1) := by decide +kernel
theorem dX5_become_118 : decode cX5_become 118 = .ok (.getfield 40, 3) := by decide +kernel
theorem dX5_become_121 : decode cX5_become 121 = .ok (.invokevirtual 68, 3) := by decide +kernel
theorem dX5_become_124 : decode cX5_become 124 = .ok (.aload_n 0, 1) := by decide +kernel
theorem dX5_become_125 : decode cX5_become 125 = .ok (.aload_n 1, 1) := by decide +kernel
theorem dX5_become_126 : decode cX5_become 126 = .ok (.getfield 43, 3) := by decide +kernel
theorem dX5_become_129 : decode cX5_become 129 = .ok (.aload_n 0, 1) := by decide +kernel
theorem dX5_become_130 : decode cX5_become 130 = .ok (.getfield 43, 3) := by decide +kernel
theorem dX5_become_133 : decode cX5_become 133 = .ok (.invokevirtual 68, 3) := by decide +kernel
theorem dX5_become_136 : decode cX5_become 136 = .ok (.aload_n 0, 1) := by decide +kernel
theorem dX5_become_137 : decode cX5_become 137 = .ok (.aload_n 1, 1) := by decide +kernel
theorem dX5_become_138 : decode cX5_become 138 = .ok (.getfield 46, 3) := by decide +kernel
theorem dX5_become_141 : decode cX5_become 141 = .ok (.aload_n 0, 1) := by decide +kernel
theorem dX5_become_142 : decode cX5_become 142 = .ok (.getfield 46, 3) := by decide +kernel
theorem dX5_become_145 : decode cX5_become 145 = .ok (.invokevirtual 68, 3) := by decide +kernel
theorem dX5_become_148 : decode cX5_become 148 = .ok (.aload_n 0, 1) := by decide +kernel
theorem dX5_become_149 : decode cX5_become 149 = .ok (.aload_n 1, 1) := by decide +kernel
theorem dX5_become_150 : decode cX5_become 150 = .ok (.getfield 49, 3) := by decide +kernel
theorem dX5_become_153 : decode cX5_become 153 = .ok (.aload_n 0, 1) := by decide +kernel
theorem dX5_become_154 : decode cX5_become 154 = .ok (.getfield 49, 3) := by decide +kernel
theorem dX5_become_157 : decode cX5_become 157 = .ok (.invokevirtual 68, 3) := by decide +kernel
theorem dX5_become_160 : decode cX5_become 160 = .ok (.aload_n 0, 1) := by decide +kernel
theorem dX5_become_161 : decode cX5_become 161 = .ok (.aload_n 1, 1) := by decide +kernel
theorem dX5_become_162 : decode cX5_become 162 = .ok (.getfield 52, 3) := by decide +kernel
theorem dX5_become_165 : decode cX5_become 165 = .ok (.aload_n 0, 1) := by decide +kernel
theorem dX5_become_166 : decode cX5_become 166 = .ok (.getfield 52, 3) := by decide +kernel
theorem dX5_become_169 : decode cX5_become 169 = .ok (.invokevirtual 68, 3) := by decide +kernel
theorem dX5_become_172 : decode cX5_become 172 = .ok (.return_, 1) := by decide +kernel
theorem dX5_riders_0 : decode cX5_riders 0 = .ok (.iconst 0, 1) := by decide +kernel
theorem dX5_riders_1 : decode cX5_riders 1 = .ok (.istore_n 2, 1) := by decide +kernel
theorem dX5_riders_2 : decode cX5_riders 2 = .ok (.iconst 0, 1) := by decide +kernel
theorem dX5_riders_3 : decode cX5_riders 3 = .ok (.istore_n 3, 1) := by decide +kernel
theorem dX5_riders_4 : decode cX5_riders 4 = .ok (.iload_n 3, 1) := by decide +kernel
theorem dX5_riders_5 : decode cX5_riders 5 = .ok (.aload_n 0, 1) := by decide +kernel
theorem dX5_riders_6 : decode cX5_riders 6 = .ok (.getfield 3, 3) := by decide +kernel
theorem dX5_riders_9 : decode cX5_riders 9 = .ok (.getfield 72, 3) := by decide +kernel
theorem dX5_riders_12 : decode cX5_riders 12 = .ok (.if_icmp .ge 37, 3) := by decide +kernel
theorem dX5_riders_15 : decode cX5_riders 15 = .ok (.iload_n 2, 1) := by decide +kernel
theorem dX5_riders_16 : decode cX5_riders 16 = .ok (.aload_n 0, 1) := by decide +kernel
theorem dX5_riders_17 : decode cX5_riders 17 = .ok (.getfield 31, 3) := by decide +kernel
theorem dX5_riders_20 : decode cX5_riders 20 = .ok (.iload_n 3, 1) := by decide +kernel
theorem dX5_riders_21 : decode cX5_riders 21 = .ok (.iaload, 1) := by decide +kernel
theorem dX5_riders_22 : decode cX5_riders 22 = .ok (.iconst 1, 1) := by decide +kernel
theorem dX5_riders_23 : decode cX5_riders 23 = .ok (.if_icmp .ne 17, 3) := by decide +kernel
theorem dX5_riders_26 : decode cX5_riders 26 = .ok (.aload_n 0, 1) := by decide +kernel
theorem dX5_riders_27 : decode cX5_riders 27 = .ok (.getfield 40, 3) := by decide +kernel
theorem dX5_riders_30 : decode cX5_riders 30 = .ok (.iload_n 3, 1) := by decide +kernel
theorem dX5_riders_31 : decode cX5_riders 31 = .ok (.iaload, 1) := by decide +kernel
theorem dX5_riders_32 : decode cX5_riders 32 = .ok (.iload_n 1, 1) := by decide +kernel
theorem dX5_riders_33 : decode cX5_riders 33 = .ok (.if_icmp .ne 7, 3) := by decide +kernel
theorem dX5_riders_36 : decode cX5_riders 36 = .ok (.iconst 1, 1) := by decide +kernel
theorem dX5_riders_37 : decode cX5_riders 37 = .ok (.goto 4, 3) := by decide +kernel
theorem dX5_riders_40 : decode cX5_riders 40 = .ok (.iconst 0, 1) := by decide +kernel
theorem dX5_riders_41 : decode cX5_riders 41 = .ok (.iadd, 1) := by decide +kernel
theorem dX5_riders_42 : decode cX5_riders 42 = .ok (.istore_n 2, 1) := by decide +kernel
theorem dX5_riders_43 : decode cX5_riders 43 = .ok (.iinc 3 1, 3) := by decide +kernel
theorem dX5_riders_46 : decode cX5_riders 46 = .ok (.goto (-42), 3) := by decide +kernel
theorem dX5_riders_49 : decode cX5_riders 49 = .ok (.iload_n 2, 1) := by decide +kernel
theorem dX5_riders_50 : decode cX5_riders 50 = .ok (.ireturn, 1) := by decide +kernel
theorem dX5_getOff_0 : decode cX5_getOff 0 = .ok (.iconst 0, 1) := by decide +kernel
theorem dX5_getOff_1 : decode cX5_getOff 1 = .ok (.istore_n 2, 1) := by decide +kernel
theorem dX5_getOff_2 : decode cX5_getOff 2 = .ok (.iconst 0, 1) := by decide +kernel
theorem dX5_getOff_3 : decode cX5_getOff 3 = .ok (.istore_n 3, 1) := by decide +kernel
theorem dX5_getOff_4 : decode cX5_getOff 4 = .ok (.iload_n 3, 1) := by decide +kernel
theorem dX5_getOff_5 : decode cX5_getOff 5 = .ok (.aload_n 0, 1) := by decide +kernel
theorem dX5_getOff_6 : decode cX5_getOff 6 = .ok (.getfield 3, 3) := by decide +kernel
theorem dX5_getOff_9 : decode cX5_getOff 9 = .ok (.getfield 72, 3) := by decide +kernel
theorem dX5_getOff_12 : decode cX5_getOff 12 = .ok (.if_icmp .ge 86, 3) := by decide +kernel
theorem dX5_getOff_15 : decode cX5_getOff 15 = .ok (.aload_n 0, 1) := by decide +kernel
theorem dX5_getOff_16 : decode cX5_getOff 16 = .ok (.getfield 31, 3) := by decide +kernel
theorem dX5_getOff_19 : decode cX5_getOff 19 = .ok (.iload_n 3, 1) := by decide +kernel
theorem dX5_getOff_20 : decode cX5_getOff 20 = .ok (.iaload, 1) := by decide +kernel
theorem dX5_getOff_21 : decode cX5_getOff 21 = .ok (.iconst 1, 1) := by decide +kernel
theorem dX5_getOff_22 : decode cX5_getOff 22 = .ok (.if_icmp .ne 70, 3) := by decide +kernel
theorem dX5_getOff_25 : decode cX5_getOff 25 = .ok (.aload_n 0, 1) := by decide +kernel
theorem dX5_getOff_26 : decode cX5_getOff 26 = .ok (.getfield 40, 3) := by decide +kernel
theorem dX5_getOff_29 : decode cX5_getOff 29 = .ok (.iload_n 3, 1) := by decide +kernel
theorem dX5_getOff_30 : decode cX5_getOff 30 = .ok (.iaload, 1) := by decide +kernel
theorem dX5_getOff_31 : decode cX5_getOff 31 = .ok (.iload_n 1, 1) := by decide +kernel
theorem dX5_getOff_32 : decode cX5_getOff 32 = .ok (.if_icmp .ne 60, 3) := by decide +kernel
theorem dX5_getOff_35 : decode cX5_getOff 35 = .ok (.aload_n 0, 1) := by decide +kernel
theorem dX5_getOff_36 : decode cX5_getOff 36 = .ok (.getfield 37, 3) := by decide +kernel
theorem dX5_getOff_39 : decode cX5_getOff 39 = .ok (.iload_n 3, 1) := by decide +kernel
theorem dX5_getOff_40 : decode cX5_getOff 40 = .ok (.iaload, 1) := by decide +kernel
theorem dX5_getOff_41 : decode cX5_getOff 41 = .ok (.aload_n 0, 1) := by decide +kernel
theorem dX5_getOff_42 : decode cX5_getOff 42 = .ok (.getfield 19, 3) := by decide +kernel
theorem dX5_getOff_45 : decode cX5_getOff 45 = .ok (.iload_n 1, 1) := by decide +kernel
theorem dX5_getOff_46 : decode cX5_getOff 46 = .ok (.iaload, 1) := by decide +kernel
theorem dX5_getOff_47 : decode cX5_getOff 47 = .ok (.if_icmp .eq 6, 3) := by decide +kernel
theorem dX5_getOff_50 : decode cX5_getOff 50 = .ok (.goto 42, 3) := by decide +kernel
theorem dX5_getOff_53 : decode cX5_getOff 53 = .ok (.aload_n 0, 1) := by decide +kernel
theorem dX5_getOff_54 : decode cX5_getOff 54 = .ok (.getfield 31, 3) := by decide +kernel
theorem dX5_getOff_57 : decode cX5_getOff 57 = .ok (.iload_n 3, 1) := by decide +kernel
theorem dX5_getOff_58 : decode cX5_getOff 58 = .ok (.iconst 2, 1) := by decide +kernel
theorem dX5_getOff_59 : decode cX5_getOff 59 = .ok (.iastore, 1) := by decide +kernel
theorem dX5_getOff_60 : decode cX5_getOff 60 = .ok (.aload_n 0, 1) := by decide +kernel
theorem dX5_getOff_61 : decode cX5_getOff 61 = .ok (.getfield 34, 3) := by decide +kernel
theorem dX5_getOff_64 : decode cX5_getOff 64 = .ok (.iload_n 3, 1) := by decide +kernel
theorem dX5_getOff_65 : decode cX5_getOff 65 = .ok (.aload_n 0, 1) := by decide +kernel
theorem dX5_getOff_66 : decode cX5_getOff 66 = .ok (.getfield 19, 3) := by decide +kernel
theorem dX5_getOff_69 : decode cX5_getOff 69 = .ok (.iload_n 1, 1) := by decide +kernel
theorem dX5_getOff_70 : decode cX5_getOff 70 = .ok (.iaload, 1) := by decide +kernel
theorem dX5_getOff_71 : decode cX5_getOff 71 = .ok (.iastore, 1) := by decide +kernel
theorem dX5_getOff_72 : decode cX5_getOff 72 = .ok (.aload_n 0, 1) := by decide +kernel
theorem dX5_getOff_73 : decode cX5_getOff 73 = .ok (.getfield 40, 3) := by decide +kernel
theorem dX5_getOff_76 : decode cX5_getOff 76 = .ok (.iload_n 3, 1) := by decide +kernel
theorem dX5_getOff_77 : decode cX5_getOff 77 = .ok (.iconst (-1), 1) := by decide +kernel
theorem dX5_getOff_78 : decode cX5_getOff 78 = .ok (.iastore, 1) := by decide +kernel
theorem dX5_getOff_79 : decode cX5_getOff 79 = .ok (.aload_n 0, 1) := by decide +kernel
theorem dX5_getOff_80 : decode cX5_getOff 80 = .ok (.getfield 49, 3) := by decide +kernel
theorem dX5_getOff_83 : decode cX5_getOff 83 = .ok (.iload_n 3, 1) := by decide +kernel
theorem dX5_getOff_84 : decode cX5_getOff 84 = .ok (.aload_n 0, 1) := by decide +kernel
theorem dX5_getOff_85 : decode cX5_getOff 85 = .ok (.getfield 61, 3) := by decide +kernel
theorem dX5_getOff_88 : decode cX5_getOff 88 = .ok (.iastore, 1) := by decide +kernel
theorem dX5_getOff_89 : decode cX5_getOff 89 = .ok (.iinc 2 1, 3) := by decide +kernel
theorem dX5_getOff_92 : decode cX5_getOff 92 = .ok (.iinc 3 1, 3) := by decide +kernel
theorem dX5_getOff_95 : decode cX5_getOff 95 = .ok (.goto (-91), 3) := by decide +kernel
theorem dX5_getOff_98 : decode cX5_getOff 98 = .ok (.iload_n 2, 1) := by decide +kernel
theorem dX5_getOff_99 : decode cX5_getOff 99 = .ok (.ireturn, 1) := by decide +kernel
theorem dX5_getOn_0 : decode cX5_getOn 0 = .ok (.iconst 0, 1) := by decide +kernel
theorem dX5_getOn_1 : decode cX5_getOn 1 = .ok (.istore_n 2, 1) := by decide +kernel
theorem dX5_getOn_2 : decode cX5_getOn 2 = .ok (.aload_n 0, 1) := by decide +kernel
theorem dX5_getOn_3 : decode cX5_getOn 3 = .ok (.getfield 3, 3) := by decide +kernel
theorem dX5_getOn_6 : decode cX5_getOn 6 = .ok (.getfield 75, 3) := by decide +kernel
theorem dX5_getOn_9 : decode cX5_getOn 9 = .ok (.iload_n 1, 1) := by decide +kernel
theorem dX5_getOn_10 : decode cX5_getOn 10 = .ok (.iaload, 1) := by decide +kernel
theorem dX5_getOn_11 : decode cX5_getOn 11 = .ok (.aload_n 0, 1) := by decide +kernel
theorem dX5_getOn_12 : decode cX5_getOn 12 = .ok (.iload_n 1, 1) := by decide +kernel
theorem dX5_getOn_13 : decode cX5_getOn 13 = .ok (.invokevirtual 78, 3) := by decide +kernel
theorem dX5_getOn_16 : decode cX5_getOn 16 = .ok (.isub, 1) := by decide +kernel
theorem dX5_getOn_17 : decode cX5_getOn 17 = .ok (.istore_n 3, 1) := by decide +kernel
theorem dX5_getOn_18 : decode cX5_getOn 18 = .ok (.iconst 0, 1) := by decide +kernel
theorem dX5_getOn_19 : decode cX5_getOn 19 = .ok (.istore 4, 2) := by decide +kernel
theorem dX5_getOn_21 : decode cX5_getOn 21 = .ok (.iload 4, 2) := by decide +kernel
theorem dX5_getOn_23 : decode cX5_getOn 23 = .ok (.aload_n 0, 1) := by decide +kernel
theorem dX5_getOn_24 : decode cX5_getOn 24 = .ok (.getfield 3, 3) := by decide +kernel
theorem dX5_getOn_27 : decode cX5_getOn 27 = .ok (.getfield 72, 3) := by decide +kernel
theorem dX5_getOn_30 : decode cX5_getOn 30 = .ok (.if_icmp .ge 132, 3) := by decide +kernel
theorem dX5_getOn_33 : decode cX5_getOn 33 = .ok (.iload_n 2, 1) := by decide +kernel
theorem dX5_getOn_34 : decode cX5_getOn 34 = .ok (.iload_n 3, 1) := by decide +kernel
theorem dX5_getOn_35 : decode cX5_getOn 35 = .ok (.if_icmp .ge 127, 3) := by decide +kernel
theorem dX5_getOn_38 : decode cX5_getOn 38 = .ok (.aload_n 0, 1) := by decide +kernel
theorem dX5_getOn_39 : decode cX5_getOn 39 = .ok (.getfield 31, 3) := by decide +kernel
theorem dX5_getOn_42 : decode cX5_getOn 42 = .ok (.iload 4, 2) := by decide +kernel
theorem dX5_getOn_44 : decode cX5_getOn 44 = .ok (.iaload, 1) := by decide +kernel
theorem dX5_getOn_45 : decode cX5_getOn 45 = .ok (.ifCond .ne 111, 3) := by decide +kernel
theorem dX5_getOn_48 : decode cX5_getOn 48 = .ok (.aload_n 0, 1) := by decide +kernel
theorem dX5_getOn_49 : decode cX5_getOn 49 = .ok (.getfield 34, 3) := by decide +kernel
theorem dX5_getOn_52 : decode cX5_getOn 52 = .ok (.iload 4, 2) := by decide +kernel
theorem dX5_getOn_54 : decode cX5_getOn 54 = .ok (.iaload, 1) := by decide +kernel
theorem dX5_getOn_55 : decode cX5_getOn 55 = .ok (.aload_n 0, 1) := by decide +kernel
theorem dX5_getOn_56 : decode cX5_getOn 56 = .ok (.getfield 19, 3) := by decide +kernel
theorem dX5_getOn_59 : decode cX5_getOn 59 = .ok (.iload_n 1, 1) := by decide +kernel
theorem dX5_getOn_60 : decode cX5_getOn 60 = .ok (.iaload, 1) := by decide +kernel
theorem dX5_getOn_61 : decode cX5_getOn 61 = .ok (.if_icmp .eq 6, 3) := by decide +kernel
theorem dX5_getOn_64 : decode cX5_getOn 64 = .ok (.goto 92, 3) := by decide +kernel
theorem dX5_getOn_67 : decode cX5_getOn 67 = .ok (.aload_n 0, 1) := by decide +kernel
theorem dX5_getOn_68 : decode cX5_getOn 68 = .ok (.getfield 3, 3) := by decide +kernel
theorem dX5_getOn_71 : decode cX5_getOn 71 = .ok (.aload_n 0, 1) := by decide +kernel
theorem dX5_getOn_72 : decode cX5_getOn 72 = .ok (.getfield 19, 3) := by decide +kernel
theorem dX5_getOn_75 : decode cX5_getOn 75 = .ok (.iload_n 1, 1) := by decide +kernel
theorem dX5_getOn_76 : decode cX5_getOn 76 = .ok (.iaload, 1) := by decide +kernel
theorem dX5_getOn_77 : decode cX5_getOn 77 = .ok (.aload_n 0, 1) := by decide +kernel
theorem dX5_getOn_78 : decode cX5_getOn 78 = .ok (.getfield 37, 3) := by decide +kernel
theorem dX5_getOn_81 : decode cX5_getOn 81 = .ok (.iload 4, 2) := by decide +kernel
theorem dX5_getOn_83 : decode cX5_getOn 83 = .ok (.iaload, 1) := by decide +kernel
theorem dX5_getOn_84 : decode cX5_getOn 84 = .ok (.invokevirtual 82, 3) := by decide +kernel
theorem dX5_getOn_87 : decode cX5_getOn 87 = .ok (.istore 5, 2) := by decide +kernel
theorem dX5_getOn_89 : decode cX5_getOn 89 = .ok (.aload_n 0, 1) := by decide +kernel
theorem dX5_getOn_90 : decode cX5_getOn 90 = .ok (.getfield 52, 3) := by decide +kernel
theorem dX5_getOn_93 : decode cX5_getOn 93 = .ok (.iload 4, 2) := by decide +kernel
theorem dX5_getOn_95 : decode cX5_getOn 95 = .ok (.iaload, 1) := by decide +kernel
theorem dX5_getOn_96 : decode cX5_getOn 96 = .ok (.iconst 1, 1) := by decide +kernel
theorem dX5_getOn_97 : decode cX5_getOn 97 = .ok (.if_icmp .ne 9, 3) := by decide +kernel
theorem dX5_getOn_100 : decode cX5_getOn 100 = .ok (.iload 5, 2) := by decide +kernel
theorem dX5_getOn_102 : decode cX5_getOn 102 = .ok (.iconst 2, 1) := by decide +kernel
theorem dX5_getOn_103 : decode cX5_getOn 103 = .ok (.idiv, 1) := by decide +kernel
theorem dX5_getOn_104 : decode cX5_getOn 104 = .ok (.istore 5, 2) := by decide +kernel
theorem dX5_getOn_106 : decode cX5_getOn 106 = .ok (.aload_n 0, 1) := by decide +kernel
theorem dX5_getOn_107 : decode cX5_getOn 107 = .ok (.getfield 31, 3) := by decide +kernel
theorem dX5_getOn_110 : decode cX5_getOn 110 = .ok (.iload 4, 2) := by decide +kernel
theorem dX5_getOn_112 : decode cX5_getOn 112 = .ok (.iconst 1, 1) := by decide +kernel
theorem dX5_getOn_113 : decode cX5_getOn 113 = .ok (.iastore, 1) := by decide +kernel
theorem dX5_getOn_114 : decode cX5_getOn 114 = .ok (.aload_n 0, 1) := by decide +kernel
theorem dX5_getOn_115 : decode cX5_getOn 115 = .ok (.getfield 40, 3) := by decide +kernel
theorem dX5_getOn_118 : decode cX5_getOn 118 = .ok (.iload 4, 2) := by decide +kernel
theorem dX5_getOn_120 : decode cX5_getOn 120 = .ok (.iload_n 1, 1) := by decide +kernel
theorem dX5_getOn_121 : decode cX5_getOn 121 = .ok (.iastore, 1) := by decide +kernel
theorem dX5_getOn_122 : decode cX5_getOn 122 = .ok (.aload_n 0, 1) := by decide +kernel
theorem dX5_getOn_123 : decode cX5_getOn 123 = .ok (.getfield 43, 3) := by decide +kernel
theorem dX5_getOn_126 : decode cX5_getOn 126 = .ok (.iload 4, 2) := by decide +kernel
theorem dX5_getOn_128 : decode cX5_getOn 128 = .ok (.dup2, 1) := by decide +kernel
theorem dX5_getOn_129 : decode cX5_getOn 129 = .ok (.iaload, 1) := by decide +kernel
theorem dX5_getOn_130 : decode cX5_getOn 130 = .ok (.iload 5, 2) := by decide +kernel
theorem dX5_getOn_132 : decode cX5_getOn 132 = .ok (.iadd, 1) := by decide +kernel
theorem dX5_getOn_133 : decode cX5_getOn 133 = .ok (.iastore, 1) := by decide +kernel
theorem dX5_getOn_134 : decode cX5_getOn 134 = .ok (.aload_n 0, 1) := by decide +kernel
theorem dX5_getOn_135 : decode cX5_getOn 135 = .ok (.getfield 28, 3) := by decide +kernel
theorem dX5_getOn_138 : decode cX5_getOn 138 = .ok (.iload_n 1, 1) := by decide +kernel
theorem dX5_getOn_139 : decode cX5_getOn 139 = .ok (.dup2, 1) := by decide +kernel
theorem dX5_getOn_140 : decode cX5_getOn 140 = .ok (.iaload, 1) := by decide +kernel
theorem dX5_getOn_141 : decode cX5_getOn 141 = .ok (.iload 5, 2) := by decide +kernel
theorem dX5_getOn_143 : decode cX5_getOn 143 = .ok (.iadd, 1) := by decide +kernel
theorem dX5_getOn_144 : decode cX5_getOn 144 = .ok (.iastore, 1) := by decide +kernel
theorem dX5_getOn_145 : decode cX5_getOn 145 = .ok (.aload_n 0, 1) := by decide +kernel
theorem dX5_getOn_146 : decode cX5_getOn 146 = .ok (.getfield 52, 3) := by decide +kernel
theorem dX5_getOn_149 : decode cX5_getOn 149 = .ok (.iload 4, 2) := by decide +kernel
theorem dX5_getOn_151 : decode cX5_getOn 151 = .ok (.iconst 0, 1) := by decide +kernel
theorem dX5_getOn_152 : decode cX5_getOn 152 = .ok (.iastore, 1) := by decide +kernel
theorem dX5_getOn_153 : decode cX5_getOn 153 = .ok (.iinc 2 1, 3) := by decide +kernel
theorem dX5_getOn_156 : decode cX5_getOn 156 = .ok (.iinc 4 1, 3) := by decide +kernel
theorem dX5_getOn_159 : decode cX5_getOn 159 = .ok (.goto (-138), 3) := by decide +kernel
theorem dX5_getOn_162 : decode cX5_getOn 162 = .ok (.iload_n 2, 1) := by decide +kernel
theorem dX5_getOn_163 : decode cX5_getOn 163 = .ok (.ireturn, 1) := by decide +kernel
theorem dX5_act_0 : decode cX5_act 0 = .ok (.aload_n 0, 1) := by decide +kernel
theorem dX5_act_1 : decode cX5_act 1 = .ok (.getfield 22, 3) := by decide +kernel
theorem dX5_act_4 : decode cX5_act 4 = .ok (.iload_n 1, 1) := by decide +kernel
theorem dX5_act_5 : decode cX5_act 5 = .ok (.iaload, 1) := by decide +kernel
theorem dX5_act_6 : decode cX5_act 6 = .ok (.ifCond .ne 10, 3) := by decide +kernel
theorem dX5_act_9 : decode cX5_act 9 = .ok (.aload_n 0, 1) := by decide +kernel
theorem dX5_act_10 : decode cX5_act 10 = .ok (.iload_n 1, 1) := by decide +kernel
theorem dX5_act_11 : decode cX5_act 11 = .ok (.invokevirtual 86, 3) := by decide +kernel
theorem dX5_act_14 : decode cX5_act 14 = .ok (.iconst 0, 1) := by decide +kernel
theorem dX5_act_15 : decode cX5_act 15 = .ok (.ireturn, 1) := by decide +kernel
theorem dX5_act_16 : decode cX5_act 16 = .ok (.aload_n 0, 1) := by decide +kernel
theorem dX5_act_17 : decode cX5_act 17 = .ok (.getfield 25, 3) := by decide +kernel
theorem dX5_act_20 : decode cX5_act 20 = .ok (.iload_n 1, 1) := by decide +kernel
theorem dX5_act_21 : decode cX5_act 21 = .ok (.dup2, 1) := by decide +kernel
theorem dX5_act_22 : decode cX5_act 22 = .ok (.iaload, 1) := by decide +kernel
theorem dX5_act_23 : decode cX5_act 23 = .ok (.iconst 1, 1) := by decide +kernel
theorem dX5_act_24 : decode cX5_act 24 = .ok (.isub, 1) := by decide +kernel
theorem dX5_act_25 : decode cX5_act 25 = .ok (.iastore, 1) := by decide +kernel
theorem dX5_act_26 : decode cX5_act 26 = .ok (.aload_n 0, 1) := by decide +kernel
theorem dX5_act_27 : decode cX5_act 27 = .ok (.getfield 25, 3) := by decide +kernel
theorem dX5_act_30 : decode cX5_act 30 = .ok (.iload_n 1, 1) := by decide +kernel
theorem dX5_act_31 : decode cX5_act 31 = .ok (.iaload, 1) := by decide +kernel
theorem dX5_act_32 : decode cX5_act 32 = .ok (.ifCond .le 5, 3) := by decide +kernel
theorem dX5_act_35 : decode cX5_act 35 = .ok (.iconst 0, 1) := by decide +kernel
theorem dX5_act_36 : decode cX5_act 36 = .ok (.ireturn, 1) := by decide +kernel
theorem dX5_act_37 : decode cX5_act 37 = .ok (.aload_n 0, 1) := by decide +kernel
theorem dX5_act_38 : decode cX5_act 38 = .ok (.getfield 19, 3) := by decide +kernel
theorem dX5_act_41 : decode cX5_act 41 = .ok (.iload_n 1, 1) := by decide +kernel
theorem dX5_act_42 : decode cX5_act 42 = .ok (.aload_n 0, 1) := by decide +kernel
theorem dX5_act_43 : decode cX5_act 43 = .ok (.getfield 19, 3) := by decide +kernel
theorem dX5_act_46 : decode cX5_act 46 = .ok (.iload_n 1, 1) := by decide +kernel
theorem dX5_act_47 : decode cX5_act 47 = .ok (.iaload, 1) := by decide +kernel
theorem dX5_act_48 : decode cX5_act 48 = .ok (.iconst 1, 1) := by decide +kernel
theorem dX5_act_49 : decode cX5_act 49 = .ok (.iadd, 1) := by decide +kernel
theorem dX5_act_50 : decode cX5_act 50 = .ok (.bipush 10, 2) := by decide +kernel
theorem dX5_act_52 : decode cX5_act 52 = .ok (.irem, 1) := by decide +kernel
theorem dX5_act_53 : decode cX5_act 53 = .ok (.iastore, 1) := by decide +kernel
theorem dX5_act_54 : decode cX5_act 54 = .ok (.aload_n 0, 1) := by decide +kernel
theorem dX5_act_55 : decode cX5_act 55 = .ok (.getfield 22, 3) := by decide +kernel
theorem dX5_act_58 : decode cX5_act 58 = .ok (.iload_n 1, 1) := by decide +kernel
theorem dX5_act_59 : decode cX5_act 59 = .ok (.iconst 0, 1) := by decide +kernel
theorem dX5_act_60 : decode cX5_act 60 = .ok (.iastore, 1) := by decide +kernel
theorem dX5_act_61 : decode cX5_act 61 = .ok (.aload_n 0, 1) := by decide +kernel
theorem dX5_act_62 : decode cX5_act 62 = .ok (.iload_n 1, 1) := by decide +kernel
theorem dX5_act_63 : decode cX5_act 63 = .ok (.invokevirtual 90, 3) := by decide +kernel
theorem dX5_act_66 : decode cX5_act 66 = .ok (.istore_n 2, 1) := by decide +kernel
theorem dX5_act_67 : decode cX5_act 67 = .ok (.aload_n 0, 1) := by decide +kernel
theorem dX5_act_68 : decode cX5_act 68 = .ok (.getfield 25, 3) := by decide +kernel
theorem dX5_act_71 : decode cX5_act 71 = .ok (.iload_n 1, 1) := by decide +kernel
theorem dX5_act_72 : decode cX5_act 72 = .ok (.iconst 1, 1) := by decide +kernel
theorem dX5_act_73 : decode cX5_act 73 = .ok (.aload_n 0, 1) := by decide +kernel
theorem dX5_act_74 : decode cX5_act 74 = .ok (.iload_n 1, 1) := by decide +kernel
theorem dX5_act_75 : decode cX5_act 75 = .ok (.invokevirtual 93, 3) := by decide +kernel
theorem dX5_act_78 : decode cX5_act 78 = .ok (.iconst 2, 1) := by decide +kernel
theorem dX5_act_79 : decode cX5_act 79 = .ok (.idiv, 1) := by decide +kernel
theorem dX5_act_80 : decode cX5_act 80 = .ok (.iadd, 1) := by decide +kernel
theorem dX5_act_81 : decode cX5_act 81 = .ok (.iload_n 2, 1) := by decide +kernel
theorem dX5_act_82 : decode cX5_act 82 = .ok (.iconst 4, 1) := by decide +kernel
theorem dX5_act_83 : decode cX5_act 83 = .ok (.idiv, 1) := by decide +kernel
theorem dX5_act_84 : decode cX5_act 84 = .ok (.iadd, 1) := by decide +kernel
theorem dX5_act_85 : decode cX5_act 85 = .ok (.iastore, 1) := by decide +kernel
theorem dX5_act_86 : decode cX5_act 86 = .ok (.iload_n 2, 1) := by decide +kernel
theorem dX5_act_87 : decode cX5_act 87 = .ok (.ireturn, 1) := by decide +kernel
theorem dX5_stand_0 : decode cX5_stand 0 = .ok (.aload_n 0, 1) := by decide +kernel
theorem dX5_stand_1 : decode cX5_stand 1 = .ok (.getfield 25, 3) := by decide +kernel
theorem dX5_stand_4 : decode cX5_stand 4 = .ok (.iload_n 1, 1) := by decide +kernel
theorem dX5_stand_5 : decode cX5_stand 5 = .ok (.iaload, 1) := by decide +kernel
theorem dX5_stand_6 : decode cX5_stand 6 = .ok (.ifCond .le 13, 3) := by decide +kernel
theorem dX5_stand_9 : decode cX5_stand 9 = .ok (.aload_n 0, 1) := by decide +kernel
theorem dX5_stand_10 : decode cX5_stand 10 = .ok (.getfield 25, 3) := by decide +kernel
theorem dX5_stand_13 : decode cX5_stand 13 = .ok (.iload_n 1, 1) := by decide +kernel
theorem dX5_stand_14 : decode cX5_stand 14 = .ok (.dup2, 1) := by decide +kernel
theorem dX5_stand_15 : decode cX5_stand 15 = .ok (.iaload, 1) := by decide +kernel
theorem dX5_stand_16 : decode cX5_stand 16 = .ok (.iconst 1, 1) := by decide +kernel
theorem dX5_stand_17 : decode cX5_stand 17 = .ok (.isub, 1) := by decide +kernel
theorem dX5_stand_18 : decode cX5_stand 18 = .ok (.iastore, 1) := by decide +kernel
theorem dX5_stand_19 : decode cX5_stand 19 = .ok (.aload_n 0, 1) := by decide +kernel
theorem dX5_stand_20 : decode cX5_stand 20 = .ok (.getfield 15, 3) := by decide +kernel
theorem dX5_stand_23 : decode cX5_stand 23 = .ok (.aload_n 0, 1) := by decide +kernel
theorem dX5_stand_24 : decode cX5_stand 24 = .ok (.getfield 19, 3) := by decide +kernel
theorem dX5_stand_27 : decode cX5_stand 27 = .ok (.iload_n 1, 1) := by decide +kernel
theorem dX5_stand_28 : decode cX5_stand 28 = .ok (.iaload, 1) := by decide +kernel
theorem dX5_stand_29 : decode cX5_stand 29 = .ok (.iaload, 1) := by decide +kernel
theorem dX5_stand_30 : decode cX5_stand 30 = .ok (.istore_n 2, 1) := by decide +kernel
theorem dX5_stand_31 : decode cX5_stand 31 = .ok (.aload_n 0, 1) := by decide +kernel
theorem dX5_stand_32 : decode cX5_stand 32 = .ok (.getfield 25, 3) := by decide +kernel
theorem dX5_stand_35 : decode cX5_stand 35 = .ok (.iload_n 1, 1) := by decide +kernel
theorem dX5_stand_36 : decode cX5_stand 36 = .ok (.iaload, 1) := by decide +kernel
theorem dX5_stand_37 : decode cX5_stand 37 = .ok (.ifCond .gt 28, 3) := by decide +kernel
theorem dX5_stand_40 : decode cX5_stand 40 = .ok (.aload_n 0, 1) := by decide +kernel
theorem dX5_stand_41 : decode cX5_stand 41 = .ok (.getfield 65, 3) := by decide +kernel
theorem dX5_stand_44 : decode cX5_stand 44 = .ok (.ifCond .le 22, 3) := by decide +kernel
theorem dX5_stand_47 : decode cX5_stand 47 = .ok (.iload_n 2, 1) := by decide +kernel
theorem dX5_stand_48 : decode cX5_stand 48 = .ok (.iconst (-1), 1) := by decide +kernel
theorem dX5_stand_49 : decode cX5_stand 49 = .ok (.if_icmp .eq 17, 3) := by decide +kernel
theorem dX5_stand_52 : decode cX5_stand 52 = .ok (.aload_n 0, 1) := by decide +kernel
theorem dX5_stand_53 : decode cX5_stand 53 = .ok (.getfield 61, 3) := by decide +kernel
theorem dX5_stand_56 : decode cX5_stand 56 = .ok (.iload_n 2, 1) := by decide +kernel
theorem dX5_stand_57 : decode cX5_stand 57 = .ok (.isub, 1) := by decide +kernel
theorem dX5_stand_58 : decode cX5_stand 58 = .ok (.aload_n 0, 1) := by decide +kernel
theorem dX5_stand_59 : decode cX5_stand 59 = .ok (.getfield 65, 3) := by decide +kernel
theorem dX5_stand_62 : decode cX5_stand 62 = .ok (.if_icmp .ge 4, 3) := by decide +kernel
theorem dX5_stand_65 : decode cX5_stand 65 = .ok (.return_, 1) := by decide +kernel
theorem dX5_stand_66 : decode cX5_stand 66 = .ok (.aload_n 0, 1) := by decide +kernel
theorem dX5_stand_67 : decode cX5_stand 67 = .ok (.getfield 22, 3) := by decide +kernel
theorem dX5_stand_70 : decode cX5_stand 70 = .ok (.iload_n 1, 1) := by decide +kernel
theorem dX5_stand_71 : decode cX5_stand 71 = .ok (.iconst 1, 1) := by decide +kernel
theorem dX5_stand_72 : decode cX5_stand 72 = .ok (.iastore, 1) := by decide +kernel
theorem dX5_stand_73 : decode cX5_stand 73 = .ok (.aload_n 0, 1) := by decide +kernel
theorem dX5_stand_74 : decode cX5_stand 74 = .ok (.getfield 25, 3) := by decide +kernel
theorem dX5_stand_77 : decode cX5_stand 77 = .ok (.iload_n 1, 1) := by decide +kernel
theorem dX5_stand_78 : decode cX5_stand 78 = .ok (.aload_n 0, 1) := by decide +kernel
theorem dX5_stand_79 : decode cX5_stand 79 = .ok (.getfield 3, 3) := by decide +kernel
theorem dX5_stand_82 : decode cX5_stand 82 = .ok (.getfield 96, 3) := by decide +kernel
theorem dX5_stand_85 : decode cX5_stand 85 = .ok (.aload_n 0, 1) := by decide +kernel
theorem dX5_stand_86 : decode cX5_stand 86 = .ok (.getfield 19, 3) := by decide +kernel
theorem dX5_stand_89 : decode cX5_stand 89 = .ok (.iload_n 1, 1) := by decide +kernel
theorem dX5_stand_90 : decode cX5_stand 90 = .ok (.iaload, 1) := by decide +kernel
theorem dX5_stand_91 : decode cX5_stand 91 = .ok (.iaload, 1) := by decide +kernel
theorem dX5_stand_92 : decode cX5_stand 92 = .ok (.iastore, 1) := by decide +kernel
theorem dX5_stand_93 : decode cX5_stand 93 = .ok (.aload_n 0, 1) := by decide +kernel
theorem dX5_stand_94 : decode cX5_stand 94 = .ok (.getfield 15, 3) := by decide +kernel
theorem dX5_stand_97 : decode cX5_stand 97 = .ok (.aload_n 0, 1) := by decide +kernel
theorem dX5_stand_98 : decode cX5_stand 98 = .ok (.getfield 19, 3) := by decide +kernel
theorem dX5_stand_101 : decode cX5_stand 101 = .ok (.iload_n 1, 1) := by decide +kernel
theorem dX5_stand_102 : decode cX5_stand 102 = .ok (.iaload, 1) := by decide +kernel
theorem dX5_stand_103 : decode cX5_stand 103 = .ok (.aload_n 0, 1) := by decide +kernel
theorem dX5_stand_104 : decode cX5_stand 104 = .ok (.getfield 61, 3) := by decide +kernel
theorem dX5_stand_107 : decode cX5_stand 107 = .ok (.iastore, 1) := by decide +kernel
theorem dX5_stand_108 : decode cX5_stand 108 = .ok (.return_, 1) := by decide +kernel
theorem dX5_go_0 : decode cX5_go 0 = .ok (.iconst 0, 1) := by decide +kernel
theorem dX5_go_1 : decode cX5_go 1 = .ok (.istore_n 1, 1) := by decide +kernel
theorem dX5_go_2 : decode cX5_go 2 = .ok (.iconst 0, 1) := by decide +kernel
theorem dX5_go_3 : decode cX5_go 3 = .ok (.istore_n 2, 1) := by decide +kernel
theorem dX5_go_4 : decode cX5_go 4 = .ok (.iload_n 2, 1) := by decide +kernel
theorem dX5_go_5 : decode cX5_go 5 = .ok (.aload_n 0, 1) := by decide +kernel
theorem dX5_go_6 : decode cX5_go 6 = .ok (.getfield 3, 3) := by decide +kernel
theorem dX5_go_9 : decode cX5_go 9 = .ok (.getfield 99, 3) := by decide +kernel
theorem dX5_go_12 : decode cX5_go 12 = .ok (.if_icmp .ge 17, 3) := by decide +kernel
theorem dX5_go_15 : decode cX5_go 15 = .ok (.iload_n 1, 1) := by decide +kernel
theorem dX5_go_16 : decode cX5_go 16 = .ok (.aload_n 0, 1) := by decide +kernel
theorem dX5_go_17 : decode cX5_go 17 = .ok (.iload_n 2, 1) := by decide +kernel
theorem dX5_go_18 : decode cX5_go 18 = .ok (.invokevirtual 102, 3) := by decide +kernel
theorem dX5_go_21 : decode cX5_go 21 = .ok (.iadd, 1) := by decide +kernel
theorem dX5_go_22 : decode cX5_go 22 = .ok (.istore_n 1, 1) := by decide +kernel
theorem dX5_go_23 : decode cX5_go 23 = .ok (.iinc 2 1, 3) := by decide +kernel
theorem dX5_go_26 : decode cX5_go 26 = .ok (.goto (-22), 3) := by decide +kernel
theorem dX5_go_29 : decode cX5_go 29 = .ok (.iconst 0, 1) := by decide +kernel
theorem dX5_go_30 : decode cX5_go 30 = .ok (.istore_n 2, 1) := by decide +kernel
theorem dX5_go_31 : decode cX5_go 31 = .ok (.iload_n 2, 1) := by decide +kernel
theorem dX5_go_32 : decode cX5_go 32 = .ok (.aload_n 0, 1) := by decide +kernel
theorem dX5_go_33 : decode cX5_go 33 = .ok (.getfield 3, 3) := by decide +kernel
theorem dX5_go_36 : decode cX5_go 36 = .ok (.getfield 72, 3) := by decide +kernel
theorem dX5_go_39 : decode cX5_go 39 = .ok (.if_icmp .ge 32, 3) := by decide +kernel
theorem dX5_go_42 : decode cX5_go 42 = .ok (.aload_n 0, 1) := by decide +kernel
theorem dX5_go_43 : decode cX5_go 43 = .ok (.getfield 46, 3) := by decide +kernel
theorem dX5_go_46 : decode cX5_go 46 = .ok (.iload_n 2, 1) := by decide +kernel
theorem dX5_go_47 : decode cX5_go 47 = .ok (.dup2, 1) := by decide +kernel
theorem dX5_go_48 : decode cX5_go 48 = .ok (.iaload, 1) := by decide +kernel
theorem dX5_go_49 : decode cX5_go 49 = .ok (.aload_n 0, 1) := by decide +kernel
theorem dX5_go_50 : decode cX5_go 50 = .ok (.getfield 31, 3) := by decide +kernel
theorem dX5_go_53 : decode cX5_go 53 = .ok (.iload_n 2, 1) := by decide +kernel
theorem dX5_go_54 : decode cX5_go 54 = .ok (.iaload, 1) := by decide +kernel
theorem dX5_go_55 : decode cX5_go 55 = .ok (.ifCond .ne 7, 3) := by decide +kernel
theorem dX5_go_58 : decode cX5_go 58 = .ok (.iconst 1, 1) := by decide +kernel
theorem dX5_go_59 : decode cX5_go 59 = .ok (.goto 4, 3) := by decide +kernel
theorem dX5_go_62 : decode cX5_go 62 = .ok (.iconst 0, 1) := by decide +kernel
theorem dX5_go_63 : decode cX5_go 63 = .ok (.iadd, 1) := by decide +kernel
theorem dX5_go_64 : decode cX5_go 64 = .ok (.iastore, 1) := by decide +kernel
theorem dX5_go_65 : decode cX5_go 65 = .ok (.iinc 2 1, 3) := by decide +kernel
theorem dX5_go_68 : decode cX5_go 68 = .ok (.goto (-37), 3) := by decide +kernel
theorem dX5_go_71 : decode cX5_go 71 = .ok (.aload_n 0, 1) := by decide +kernel
theorem dX5_go_72 : decode cX5_go 72 = .ok (.dup, 1) := by decide +kernel
theorem dX5_go_73 : decode cX5_go 73 = .ok (.getfield 61, 3) := by decide +kernel
theorem dX5_go_76 : decode cX5_go 76 = .ok (.iconst 1, 1) := by decide +kernel
theorem dX5_go_77 : decode cX5_go 77 = .ok (.iadd, 1) := by decide +kernel
theorem dX5_go_78 : decode cX5_go 78 = .ok (.putfield 61, 3) := by decide +kernel
theorem dX5_go_81 : decode cX5_go 81 = .ok (.iload_n 1, 1) := by decide +kernel
theorem dX5_go_82 : decode cX5_go 82 = .ok (.ireturn, 1) := by decide +kernel
theorem dX5_go__0 : decode cX5_go_ 0 = .ok (.iconst 0, 1) := by decide +kernel
theorem dX5_go__1 : decode cX5_go_ 1 = .ok (.istore_n 2, 1) := by decide +kernel
theorem dX5_go__2 : decode cX5_go_ 2 = .ok (.iconst 0, 1) := by decide +kernel
theorem dX5_go__3 : decode cX5_go_ 3 = .ok (.istore_n 3, 1) := by decide +kernel
theorem dX5_go__4 : decode cX5_go_ 4 = .ok (.iload_n 3, 1) := by decide +kernel
theorem dX5_go__5 : decode cX5_go_ 5 = .ok (.iload_n 1, 1) := by decide +kernel
theorem dX5_go__6 : decode cX5_go_ 6 = .ok (.if_icmp .ge 16, 3) := by decide +kernel
theorem dX5_go__9 : decode cX5_go_ 9 = .ok (.iload_n 2, 1) := by decide +kernel
theorem dX5_go__10 : decode cX5_go_ 10 = .ok (.aload_n 0, 1) := by decide +kernel
theorem dX5_go__11 : decode cX5_go_ 11 = .ok (.invokevirtual 105, 3) := by decide +kernel
theorem dX5_go__14 : decode cX5_go_ 14 = .ok (.iadd, 1) := by decide +kernel
theorem dX5_go__15 : decode cX5_go_ 15 = .ok (.istore_n 2, 1) := by decide +kernel
theorem dX5_go__16 : decode cX5_go_ 16 = .ok (.iinc 3 1, 3) := by decide +kernel
theorem dX5_go__19 : decode cX5_go_ 19 = .ok (.goto (-15), 3) := by decide +kernel
theorem dX5_go__22 : decode cX5_go_ 22 = .ok (.iload_n 2, 1) := by decide +kernel
theorem dX5_go__23 : decode cX5_go_ 23 = .ok (.ireturn, 1) := by decide +kernel
theorem dX5_are_0 : decode cX5_are 0 = .ok (.iconst 0, 1) := by decide +kernel
theorem dX5_are_1 : decode cX5_are 1 = .ok (.istore_n 2, 1) := by decide +kernel
theorem dX5_are_2 : decode cX5_are 2 = .ok (.iconst 0, 1) := by decide +kernel
theorem dX5_are_3 : decode cX5_are 3 = .ok (.istore_n 3, 1) := by decide +kernel
theorem dX5_are_4 : decode cX5_are 4 = .ok (.iload_n 3, 1) := by decide +kernel
theorem dX5_are_5 : decode cX5_are 5 = .ok (.aload_n 0, 1) := by decide +kernel
theorem dX5_are_6 : decode cX5_are 6 = .ok (.getfield 3, 3) := by decide +kernel
theorem dX5_are_9 : decode cX5_are 9 = .ok (.getfield 72, 3) := by decide +kernel
theorem dX5_are_12 : decode cX5_are 12 = .ok (.if_icmp .ge 27, 3) := by decide +kernel
theorem dX5_are_15 : decode cX5_are 15 = .ok (.iload_n 2, 1) := by decide +kernel
theorem dX5_are_16 : decode cX5_are 16 = .ok (.aload_n 0, 1) := by decide +kernel
theorem dX5_are_17 : decode cX5_are 17 = .ok (.getfield 31, 3) := by decide +kernel
theorem dX5_are_20 : decode cX5_are 20 = .ok (.iload_n 3, 1) := by decide +kernel
theorem dX5_are_21 : decode cX5_are 21 = .ok (.iaload, 1) := by decide +kernel
theorem dX5_are_22 : decode cX5_are 22 = .ok (.iload_n 1, 1) := by decide +kernel
theorem dX5_are_23 : decode cX5_are 23 = .ok (.if_icmp .ne 7, 3) := by decide +kernel
theorem dX5_are_26 : decode cX5_are 26 = .ok (.iconst 1, 1) := by decide +kernel
theorem dX5_are_27 : decode cX5_are 27 = .ok (.goto 4, 3) := by decide +kernel
theorem dX5_are_30 : decode cX5_are 30 = .ok (.iconst 0, 1) := by decide +kernel
theorem dX5_are_31 : decode cX5_are 31 = .ok (.iadd, 1) := by decide +kernel
theorem dX5_are_32 : decode cX5_are 32 = .ok (.istore_n 2, 1) := by decide +kernel
theorem dX5_are_33 : decode cX5_are 33 = .ok (.iinc 3 1, 3) := by decide +kernel
theorem dX5_are_36 : decode cX5_are 36 = .ok (.goto (-32), 3) := by decide +kernel
theorem dX5_are_39 : decode cX5_are 39 = .ok (.iload_n 2, 1) := by decide +kernel
theorem dX5_are_40 : decode cX5_are 40 = .ok (.ireturn, 1) := by decide +kernel
theorem dX5_sum_0 : decode cX5_sum 0 = .ok (.iconst 0, 1) := by decide +kernel
theorem dX5_sum_1 : decode cX5_sum 1 = .ok (.istore_n 2, 1) := by decide +kernel
theorem dX5_sum_2 : decode cX5_sum 2 = .ok (.aload_n 1, 1) := by decide +kernel
theorem dX5_sum_3 : decode cX5_sum 3 = .ok (.astore_n 3, 1) := by decide +kernel
theorem dX5_sum_4 : decode cX5_sum 4 = .ok (.aload_n 3, 1) := by decide +kernel
theorem dX5_sum_5 : decode cX5_sum 5 = .ok (.arraylength, 1) := by decide +kernel
theorem dX5_sum_6 : decode cX5_sum 6 = .ok (.istore 4, 2) := by decide +kernel
theorem dX5_sum_8 : decode cX5_sum 8 = .ok (.iconst 0, 1) := by decide +kernel
theorem dX5_sum_9 : decode cX5_sum 9 = .ok (.istore 5, 2) := by decide +kernel
theorem dX5_sum_11 : decode cX5_sum 11 = .ok (.iload 5, 2) := by decide +kernel
theorem dX5_sum_13 : decode cX5_sum 13 = .ok (.iload 4, 2) := by decide +kernel
theorem dX5_sum_15 : decode cX5_sum 15 = .ok (.if_icmp .ge 20, 3) := by decide +kernel
theorem dX5_sum_18 : decode cX5_sum 18 = .ok (.aload_n 3, 1) := by decide +kernel
theorem dX5_sum_19 : decode cX5_sum 19 = .ok (.iload 5, 2) := by decide +kernel
theorem dX5_sum_21 : decode cX5_sum 21 = .ok (.iaload, 1) := by decide +kernel
theorem dX5_sum_22 : decode cX5_sum 22 = .ok (.istore 6, 2) := by decide +kernel
theorem dX5_sum_24 : decode cX5_sum 24 = .ok (.iload_n 2, 1) := by decide +kernel
theorem dX5_sum_25 : decode cX5_sum 25 = .ok (.iload 6, 2) := by decide +kernel
theorem dX5_sum_27 : decode cX5_sum 27 = .ok (.iadd, 1) := by decide +kernel
theorem dX5_sum_28 : decode cX5_sum 28 = .ok (.istore_n 2, 1) := by decide +kernel
theorem dX5_sum_29 : decode cX5_sum 29 = .ok (.iinc 5 1, 3) := by decide +kernel
theorem dX5_sum_32 : decode cX5_sum 32 = .ok (.goto (-21), 3) := by decide +kernel
theorem dX5_sum_35 : decode cX5_sum 35 = .ok (.iload_n 2, 1) := by decide +kernel
theorem dX5_sum_36 : decode cX5_sum 36 = .ok (.ireturn, 1) := by decide +kernel
theorem dX5_bunched_0 : decode cX5_bunched 0 = .ok (.iconst 0, 1) := by decide +kernel
theorem dX5_bunched_1 : decode cX5_bunched 1 = .ok (.istore_n 1, 1) := by decide +kernel
theorem dX5_bunched_2 : decode cX5_bunched 2 = .ok (.iconst 0, 1) := by decide +kernel
theorem dX5_bunched_3 : decode cX5_bunched 3 = .ok (.istore_n 2, 1) := by decide +kernel
theorem dX5_bunched_4 : decode cX5_bunched 4 = .ok (.iload_n 2, 1) := by decide +kernel
theorem dX5_bunched_5 : decode cX5_bunched 5 = .ok (.aload_n 0, 1) := by decide +kernel
theorem dX5_bunched_6 : decode cX5_bunched 6 = .ok (.getfield 3, 3) := by decide +kernel
theorem dX5_bunched_9 : decode cX5_bunched 9 = .ok (.getfield 99, 3) := by decide +kernel
theorem dX5_bunched_12 : decode cX5_bunched 12 = .ok (.if_icmp .ge 60, 3) := by decide +kernel
theorem dX5_bunched_15 : decode cX5_bunched 15 = .ok (.iconst 0, 1) := by decide +kernel
theorem dX5_bunched_16 : decode cX5_bunched 16 = .ok (.istore_n 3, 1) := by decide +kernel
theorem dX5_bunched_17 : decode cX5_bunched 17 = .ok (.iload_n 3, 1) := by decide +kernel
theorem dX5_bunched_18 : decode cX5_bunched 18 = .ok (.iload_n 2, 1) := by decide +kernel
theorem dX5_bunched_19 : decode cX5_bunched 19 = .ok (.if_icmp .ge 47, 3) := by decide +kernel
theorem dX5_bunched_22 : decode cX5_bunched 22 = .ok (.iload_n 1, 1) := by decide +kernel
theorem dX5_bunched_23 : decode cX5_bunched 23 = .ok (.aload_n 0, 1) := by decide +kernel
theorem dX5_bunched_24 : decode cX5_bunched 24 = .ok (.getfield 19, 3) := by decide +kernel
theorem dX5_bunched_27 : decode cX5_bunched 27 = .ok (.iload_n 2, 1) := by decide +kernel
theorem dX5_bunched_28 : decode cX5_bunched 28 = .ok (.iaload, 1) := by decide +kernel
theorem dX5_bunched_29 : decode cX5_bunched 29 = .ok (.aload_n 0, 1) := by decide +kernel
theorem dX5_bunched_30 : decode cX5_bunched 30 = .ok (.getfield 19, 3) := by decide +kernel
theorem dX5_bunched_33 : decode cX5_bunched 33 = .ok (.iload_n 3, 1) := by decide +kernel
theorem dX5_bunched_34 : decode cX5_bunched 34 = .ok (.iaload, 1) := by decide +kernel
theorem dX5_bunched_35 : decode cX5_bunched 35 = .ok (.if_icmp .ne 22, 3) := by decide +kernel
theorem dX5_bunched_38 : decode cX5_bunched 38 = .ok (.aload_n 0, 1) := by decide +kernel
theorem dX5_bunched_39 : decode cX5_bunched 39 = .ok (.getfield 22, 3) := by decide +kernel
theorem dX5_bunched_42 : decode cX5_bunched 42 = .ok (.iload_n 2, 1) := by decide +kernel
theorem dX5_bunched_43 : decode cX5_bunched 43 = .ok (.iaload, 1) := by decide +kernel
theorem dX5_bunched_44 : decode cX5_bunched 44 = .ok (.aload_n 0, 1) := by decide +kernel
theorem dX5_bunched_45 : decode cX5_bunched 45 = .ok (.getfield 22, 3) := by decide +kernel
theorem dX5_bunched_48 : decode cX5_bunched 48 = .ok (.iload_n 3, 1) := by decide +kernel
theorem dX5_bunched_49 : decode cX5_bunched 49 = .ok (.iaload, 1) := by decide +kernel
theorem dX5_bunched_50 : decode cX5_bunched 50 = .ok (.if_icmp .ne 7, 3) := by decide +kernel
theorem dX5_bunched_53 : decode cX5_bunched 53 = .ok (.iconst 1, 1) := by decide +kernel
theorem dX5_bunched_54 : decode cX5_bunched 54 = .ok (.goto 4, 3) := by decide +kernel
theorem dX5_bunched_57 : decode cX5_bunched 57 = .ok (.iconst 0, 1) := by decide +kernel
theorem dX5_bunched_58 : decode cX5_bunched 58 = .ok (.iadd, 1) := by decide +kernel
theorem dX5_bunched_59 : decode cX5_bunched 59 = .ok (.istore_n 1, 1) := by decide +kernel
theorem dX5_bunched_60 : decode cX5_bunched 60 = .ok (.iinc 3 1, 3) := by decide +kernel
theorem dX5_bunched_63 : decode cX5_bunched 63 = .ok (.goto (-46), 3) := by decide +kernel
theorem dX5_bunched_66 : decode cX5_bunched 66 = .ok (.iinc 2 1, 3) := by decide +kernel
theorem dX5_bunched_69 : decode cX5_bunched 69 = .ok (.goto (-65), 3) := by decide +kernel
theorem dX5_bunched_72 : decode cX5_bunched 72 = .ok (.iload_n 1, 1) := by decide +kernel
theorem dX5_bunched_73 : decode cX5_bunched 73 = .ok (.ireturn, 1) := by decide +kernel
theorem dX6_init_0 : decode cX6_init 0 = .ok (.aload_n 0, 1) := by decide +kernel
theorem dX6_init_1 : decode cX6_init 1 = .ok (.invokespecial 1, 3) := by decide +kernel
theorem dX6_init_4 : decode cX6_init 4 = .ok (.aload_n 0, 1) := by decide +kernel
theorem dX6_init_5 : decode cX6_init 5 = .ok (.bipush 10, 2) := by decide +kernel
theorem dX6_init_7 : decode cX6_init 7 = .ok (.newarray .int, 2) := by decide +kernel
theorem dX6_init_9 : decode cX6_init 9 = .ok (.putfield 9, 3) := by decide +kernel
theorem dX6_init_12 : decode cX6_init 12 = .ok (.aload_n 0, 1) := by decide +kernel
theorem dX6_init_13 : decode cX6_init 13 = .ok (.bipush 10, 2) := by decide +kernel
theorem dX6_init_15 : decode cX6_init 15 = .ok (.newarray .int, 2) := by decide +kernel
theorem dX6_init_17 : decode cX6_init 17 = .ok (.putfield 13, 3) := by decide +kernel
theorem dX6_init_20 : decode cX6_init 20 = .ok (.aload_n 0, 1) := by decide +kernel
theorem dX6_init_21 : decode cX6_init 21 = .ok (.bipush 6, 2) := by decide +kernel
theorem dX6_init_23 : decode cX6_init 23 = .ok (.newarray .int, 2) := by decide +kernel
theorem dX6_init_25 : decode cX6_init 25 = .ok (.putfield 16, 3) := by decide +kernel
theorem dX6_init_28 : decode cX6_init 28 = .ok (.aload_n 0, 1) := by decide +kernel
theorem dX6_init_29 : decode cX6_init 29 = .ok (.new 19, 3) := by decide +kernel
theorem dX6_init_32 : decode cX6_init 32 = .ok (.dup, 1) := by decide +kernel
theorem dX6_init_33 : decode cX6_init 33 = .ok (.aload_n 0, 1) := by decide +kernel
theorem dX6_init_34 : decode cX6_init 34 = .ok (.invokespecial 21, 3) := by decide +kernel
theorem dX6_init_37 : decode cX6_init 37 = .ok (.putfield 24, 3) := by decide +kernel
theorem dX6_init_40 : decode cX6_init 40 = .ok (.aload_n 0, 1) := by decide +kernel
theorem dX6_init_41 : decode cX6_init 41 = .ok (.new 19, 3) := by decide +kernel
theorem dX6_init_44 : decode cX6_init 44 = .ok (.dup, 1) := by decide +kernel
theorem dX6_init_45 : decode cX6_init 45 = .ok (.aload_n 0, 1) := by decide +kernel
theorem dX6_init_46 : decode cX6_init 46 = .ok (.invokespecial 21, 3) := by decide +kernel
theorem dX6_init_49 : decode cX6_init 49 = .ok (.putfield 28, 3) := by decide +kernel
theorem dX6_init_52 : decode cX6_init 52 = .ok (.iconst 0, 1) := by decide +kernel
theorem dX6_init_53 : decode cX6_init 53 = .ok (.istore_n 1, 1) := by decide +kernel
theorem dX6_init_54 : decode cX6_init 54 = .ok (.iload_n 1, 1) := by decide +kernel
theorem dX6_init_55 : decode cX6_init 55 = .ok (.bipush 10, 2) := by decide +kernel
theorem dX6_init_57 : decode cX6_init 57 = .ok (.if_icmp .ge 35, 3) := by decide +kernel
theorem dX6_init_60 : decode cX6_init 60 = .ok (.aload_n 0, 1) := by decide +kernel
theorem dX6_init_61 : decode cX6_init 61 = .ok (.getfield 9, 3) := by decide +kernel
theorem dX6_init_64 : decode cX6_init 64 = .ok (.iload_n 1, 1) := by decide +kernel
theorem dX6_init_65 : decode cX6_init 65 = .ok (.iconst 2, 1) := by decide +kernel
theorem dX6_init_66 : decode cX6_init 66 = .ok (.iastore, 1) := by decide +kernel
theorem dX6_init_67 : decode cX6_init 67 = .ok (.aload_n 0, 1) := by decide +kernel
theorem dX6_init_68 : decode cX6_init 68 = .ok (.getfield 13, 3) := by decide +kernel
theorem dX6_init_71 : decode cX6_init 71 = .ok (.iload_n 1, 1) := by decide +kernel
theorem dX6_init_72 : decode cX6_init 72 = .ok (.iload_n 1, 1) := by decide +kernel
theorem dX6_init_73 : decode cX6_init 73 = .ok (.iconst 2, 1) := by decide +kernel
theorem dX6_init_74 : decode cX6_init 74 = .ok (.idiv, 1) := by decide +kernel
theorem dX6_init_75 : decode cX6_init 75 = .ok (.iastore, 1) := by decide +kernel
theorem dX6_init_76 : decode cX6_init 76 = .ok (.aload_n 0, 1) := by decide +kernel
theorem dX6_init_77 : decode cX6_init 77 = .ok (.getfield 24, 3) := by decide +kernel
theorem dX6_init_80 : decode cX6_init 80 = .ok (.getfield 31, 3) := by decide +kernel
theorem dX6_init_83 : decode cX6_init 83 = .ok (.iload_n 1, 1) := by decide +kernel
theorem dX6_init_84 : decode cX6_init 84 = .ok (.iconst (-1), 1) := by decide +kernel
theorem dX6_init_85 : decode cX6_init 85 = .ok (.iastore, 1) := by decide +kernel
theorem dX6_init_86 : decode cX6_init 86 = .ok (.iinc 1 1, 3) := by decide +kernel
theorem dX6_init_89 : decode cX6_init 89 = .ok (.goto (-35), 3) := by decide +kernel
theorem dX6_init_92 : decode cX6_init 92 = .ok (.return_, 1) := by decide +kernel
theorem dX6_thrown_0 : decode cX6_thrown 0 = .ok (.aload_n 0, 1) := by decide +kernel
theorem dX6_thrown_1 : decode cX6_thrown 1 = .ok (.getfield 34, 3) := by decide +kernel
theorem dX6_thrown_4 : decode cX6_thrown 4 = .ok (.ireturn, 1) := by decide +kernel
theorem dX6_no_0 : decode cX6_no 0 = .ok (.aload_n 0, 1) := by decide +kernel
theorem dX6_no_1 : decode cX6_no 1 = .ok (.iload_n 1, 1) := by decide +kernel
theorem dX6_no_2 : decode cX6_no 2 = .ok (.putfield 34, 3) := by decide +kernel
theorem dX6_no_5 : decode cX6_no 5 = .ok (.iconst 0, 1) := by decide +kernel
theorem dX6_no_6 : decode cX6_no 6 = .ok (.ireturn, 1) := by decide +kernel
theorem dX6_isIn_0 : decode cX6_isIn 0 = .ok (.iload_n 0, 1) := by decide +kernel
theorem dX6_isIn_1 : decode cX6_isIn 1 = .ok (.iload_n 1, 1) := by decide +kernel
theorem dX6_isIn_2 : decode cX6_isIn 2 = .ok (.if_icmp .lt 12, 3) := by decide +kernel
theorem dX6_isIn_5 : decode cX6_isIn 5 = .ok (.iload_n 0, 1) := by decide +kernel
theorem dX6_isIn_6 : decode cX6_isIn 6 = .ok (.iload_n 2, 1) := by decide +kernel
theorem dX6_isIn_7 : decode cX6_isIn 7 = .ok (.if_icmp .gt 7, 3) := by decide +kernel
theorem dX6_isIn_10 : decode cX6_isIn 10 = .ok (.iconst 1, 1) := by decide +kernel
theorem dX6_isIn_11 : decode cX6_isIn 11 = .ok (.goto 4, 3) := by decide +kernel
theorem dX6_isIn_14 : decode cX6_isIn 14 = .ok (.iconst 0, 1) := by decide +kernel
theorem dX6_isIn_15 : decode cX6_isIn 15 = .ok (.ireturn, 1) := by decide +kernel
theorem dX6_isStop_0 : decode cX6_isStop 0 = .ok (.iload_n 0, 1) := by decide +kernel
theorem dX6_isStop_1 : decode cX6_isStop 1 = .ok (.iconst 0, 1) := by decide +kernel
theorem dX6_isStop_2 : decode cX6_isStop 2 = .ok (.bipush 9, 2) := by decide +kernel
theorem dX6_isStop_4 : decode cX6_isStop 4 = .ok (.invokestatic 38, 3) := by decide +kernel
theorem dX6_isStop_7 : decode cX6_isStop 7 = .ok (.ireturn, 1) := by decide +kernel
theorem dX6_isBus_0 : decode cX6_isBus 0 = .ok (.iload_n 1, 1) := by decide +kernel
theorem dX6_isBus_1 : decode cX6_isBus 1 = .ok (.iconst 0, 1) := by decide +kernel
theorem dX6_isBus_2 : decode cX6_isBus 2 = .ok (.aload_n 0, 1) := by decide +kernel
theorem dX6_isBus_3 : decode cX6_isBus 3 = .ok (.getfield 42, 3) := by decide +kernel
theorem dX6_isBus_6 : decode cX6_isBus 6 = .ok (.iconst 1, 1) := by decide +kernel
theorem dX6_isBus_7 : decode cX6_isBus 7 = .ok (.isub, 1) := by decide +kernel
theorem dX6_isBus_8 : decode cX6_isBus 8 = .ok (.invokestatic 38, 3) := by decide +kernel
theorem dX6_isBus_11 : decode cX6_isBus 11 = .ok (.ireturn, 1) := by decide +kernel
theorem dX6_isPassenger_0 : decode cX6_isPassenger 0 = .ok (.iload_n 1, 1) := by decide +kernel
theorem dX6_isPassenger_1 : decode cX6_isPassenger 1 = .ok (.iconst 0, 1) := by decide +kernel
theorem dX6_isPassenger_2 : decode cX6_isPassenger 2 = .ok (.aload_n 0, 1) := by decide +kernel
theorem dX6_isPassenger_3 : decode cX6_isPassenger 3 = .ok (.getfield 45, 3) := by decide +kernel
theorem dX6_isPassenger_6 : decode cX6_isPassenger 6 = .ok (.iconst 1, 1) := by decide +kernel
theorem dX6_isPassenger_7 : decode cX6_isPassenger 7 = .ok (.isub, 1) := by decide +kernel
theorem dX6_isPassenger_8 : decode cX6_isPassenger 8 = .ok (.invokestatic 38, 3) := by decide +kernel
theorem dX6_isPassenger_11 : decode cX6_isPassenger 11 = .ok (.ireturn, 1) := by decide +kernel
theorem dX6_set_0 : decode cX6_set 0 = .ok (.aload_n 0, 1) := by decide +kernel
theorem dX6_set_1 : decode cX6_set 1 = .ok (.iconst 0, 1) := by decide +kernel
theorem dX6_set_2 : decode cX6_set 2 = .ok (.putfield 34, 3) := by decide +kernel
theorem dX6_set_5 : decode cX6_set 5 = .ok (.iload_n 1, 1) := by decide +kernel
theorem dX6_set_6 : decode cX6_set 6 = .ok (.invokestatic 48, 3) := by decide +kernel
theorem dX6_set_9 : decode cX6_set 9 = .ok (.ifCond .ne 9, 3) := by decide +kernel
theorem dX6_set_12 : decode cX6_set 12 = .ok (.aload_n 0, 1) := by decide +kernel
theorem dX6_set_13 : decode cX6_set 13 = .ok (.iconst 1, 1) := by decide +kernel
theorem dX6_set_14 : decode cX6_set 14 = .ok (.invokevirtual 52, 3) := by decide +kernel
theorem dX6_set_17 : decode cX6_set 17 = .ok (.ireturn, 1) := by decide +kernel
theorem dX6_set_18 : decode cX6_set 18 = .ok (.iload_n 2, 1) := by decide +kernel
theorem dX6_set_19 : decode cX6_set 19 = .ok (.iconst 1, 1) := by decide +kernel
theorem dX6_set_20 : decode cX6_set 20 = .ok (.bipush 9, 2) := by decide +kernel
theorem dX6_set_22 : decode cX6_set 22 = .ok (.invokestatic 38, 3) := by decide +kernel
theorem dX6_set_25 : decode cX6_set 25 = .ok (.ifCond .eq 13, 3) := by decide +kernel
theorem dX6_set_28 : decode cX6_set 28 = .ok (.iload_n 3, 1) := by decide +kernel
theorem dX6_set_29 : decode cX6_set 29 = .ok (.iconst 0, 1) := by decide +kernel
theorem dX6_set_30 : decode cX6_set 30 = .ok (.bipush 9, 2) := by decide +kernel
theorem dX6_set_32 : decode cX6_set 32 = .ok (.invokestatic 38, 3) := by decide +kernel
theorem dX6_set_35 : decode cX6_set 35 = .ok (.ifCond .ne 9, 3) := by decide +kernel
theorem dX6_set_38 : decode cX6_set 38 = .ok (.aload_n 0, 1) := by decide +kernel
theorem dX6_set_39 : decode cX6_set 39 = .ok (.iconst 2, 1) := by decide +kernel
theorem dX6_set_40 : decode cX6_set 40 = .ok (.invokevirtual 52, 3) := by decide +kernel
theorem dX6_set_43 : decode cX6_set 43 = .ok (.ireturn, 1) := by decide +kernel
theorem dX6_set_44 : decode cX6_set 44 = .ok (.bipush 10, 2) := by decide +kernel
theorem dX6_set_46 : decode cX6_set 46 = .ok (.aload_n 0, 1) := by decide +kernel
theorem dX6_set_47 : decode cX6_set 47 = .ok (.getfield 9, 3) := by decide +kernel
theorem dX6_set_50 : decode cX6_set 50 = .ok (.iload_n 1, 1) := by decide +kernel
theorem dX6_set_51 : decode cX6_set 51 = .ok (.iaload, 1) := by decide +kernel
theorem dX6_set_52 : decode cX6_set 52 = .ok (.imul, 1) := by decide +kernel
theorem dX6_set_53 : decode cX6_set 53 = .ok (.aload_n 0, 1) := by decide +kernel
theorem dX6_set_54 : decode cX6_set 54 = .ok (.getfield 13, 3) := by decide +kernel
theorem dX6_set_57 : decode cX6_set 57 = .ok (.iload_n 1, 1) := by decide +kernel
theorem dX6_set_58 : decode cX6_set 58 = .ok (.iaload, 1) := by decide +kernel
theorem dX6_set_59 : decode cX6_set 59 = .ok (.iadd, 1) := by decide +kernel
theorem dX6_set_60 : decode cX6_set 60 = .ok (.istore 4, 2) := by decide +kernel
theorem dX6_set_62 : decode cX6_set 62 = .ok (.aload_n 0, 1) := by decide +kernel
theorem dX6_set_63 : decode cX6_set 63 = .ok (.getfield 9, 3) := by decide +kernel
theorem dX6_set_66 : decode cX6_set 66 = .ok (.iload_n 1, 1) := by decide +kernel
theorem dX6_set_67 : decode cX6_set 67 = .ok (.iload_n 2, 1) := by decide +kernel
theorem dX6_set_68 : decode cX6_set 68 = .ok (.iastore, 1) := by decide +kernel
theorem dX6_set_69 : decode cX6_set 69 = .ok (.aload_n 0, 1) := by decide +kernel
theorem dX6_set_70 : decode cX6_set 70 = .ok (.getfield 13, 3) := by decide +kernel
theorem dX6_set_73 : decode cX6_set 73 = .ok (.iload_n 1, 1) := by decide +kernel
theorem dX6_set_74 : decode cX6_set 74 = .ok (.iload_n 3, 1) := by decide +kernel
theorem dX6_set_75 : decode cX6_set 75 = .ok (.iastore, 1) := by decide +kernel
theorem dX6_set_76 : decode cX6_set 76 = .ok (.iload 4, 2) := by decide +kernel
theorem dX6_set_78 : decode cX6_set 78 = .ok (.ireturn, 1) := by decide +kernel
theorem dX6_hold_0 : decode cX6_hold 0 = .ok (.aload_n 0, 1) := by decide +kernel
theorem dX6_hold_1 : decode cX6_hold 1 = .ok (.iconst 0, 1) := by decide +kernel
theorem dX6_hold_2 : decode cX6_hold 2 = .ok (.putfield 34, 3) := by decide +kernel
theorem dX6_hold_5 : decode cX6_hold 5 = .ok (.iload_n 1, 1) := by decide +kernel
theorem dX6_hold_6 : decode cX6_hold 6 = .ok (.iconst 0, 1) := by decide +kernel
theorem dX6_hold_7 : decode cX6_hold 7 = .ok (.bipush 15, 2) := by decide +kernel
theorem dX6_hold_9 : decode cX6_hold 9 = .ok (.invokestatic 38, 3) := by decide +kernel
theorem dX6_hold_12 : decode cX6_hold 12 = .ok (.ifCond .ne 9, 3) := by decide +kernel
theorem dX6_hold_15 : decode cX6_hold 15 = .ok (.aload_n 0, 1) := by decide +kernel
theorem dX6_hold_16 : decode cX6_hold 16 = .ok (.iconst 1, 1) := by decide +kernel
theorem dX6_hold_17 : decode cX6_hold 17 = .ok (.invokevirtual 52, 3) := by decide +kernel
theorem dX6_hold_20 : decode cX6_hold 20 = .ok (.ireturn, 1) := by decide +kernel
theorem dX6_hold_21 : decode cX6_hold 21 = .ok (.aload_n 0, 1) := by decide +kernel
theorem dX6_hold_22 : decode cX6_hold 22 = .ok (.getfield 24, 3) := by decide +kernel
theorem dX6_hold_25 : decode cX6_hold 25 = .ok (.getfield 56, 3) := by decide +kernel
theorem dX6_hold_28 : decode cX6_hold 28 = .ok (.istore_n 2, 1) := by decide +kernel
theorem dX6_hold_29 : decode cX6_hold 29 = .ok (.aload_n 0, 1) := by decide +kernel
theorem dX6_hold_30 : decode cX6_hold 30 = .ok (.getfield 24, 3) := by decide +kernel
theorem dX6_hold_33 : decode cX6_hold 33 = .ok (.iload_n 1, 1) := by decide +kernel
theorem dX6_hold_34 : decode cX6_hold 34 = .ok (.putfield 56, 3) := by decide +kernel
theorem dX6_hold_37 : decode cX6_hold 37 = .ok (.iload_n 2, 1) := by decide +kernel
theorem dX6_hold_38 : decode cX6_hold 38 = .ok (.ireturn, 1) := by decide +kernel
theorem dX6_start_0 : decode cX6_start 0 = .ok (.aload_n 0, 1) := by decide +kernel
theorem dX6_start_1 : decode cX6_start 1 = .ok (.iconst 0, 1) := by decide +kernel
theorem dX6_start_2 : decode cX6_start 2 = .ok (.putfield 34, 3) := by decide +kernel
theorem dX6_start_5 : decode cX6_start 5 = .ok (.iload_n 1, 1) := by decide +kernel
theorem dX6_start_6 : decode cX6_start 6 = .ok (.invokestatic 48, 3) := by decide +kernel
theorem dX6_start_9 : decode cX6_start 9 = .ok (.ifCond .ne 9, 3) := by decide +kernel
theorem dX6_start_12 : decode cX6_start 12 = .ok (.aload_n 0, 1) := by decide +kernel
theorem dX6_start_13 : decode cX6_start 13 = .ok (.iconst 1, 1) := by decide +kernel
theorem dX6_start_14 : decode cX6_start 14 = .ok (.invokevirtual 52, 3) := by decide +kernel
theorem dX6_start_17 : decode cX6_start 17 = .ok (.ireturn, 1) := by decide +kernel
theorem dX6_start_18 : decode cX6_start 18 = .ok (.iload_n 2, 1) := by decide +kernel
theorem dX6_start_19 : decode cX6_start 19 = .ok (.iconst 1, 1) := by decide +kernel
theorem dX6_start_20 : decode cX6_start 20 = .ok (.bipush 20, 2) := by decide +kernel
theorem dX6_start_22 : decode cX6_start 22 = .ok (.invokestatic 38, 3) := by decide +kernel
theorem dX6_start_25 : decode cX6_start 25 = .ok (.ifCond .ne 9, 3) := by decide +kernel
theorem dX6_start_28 : decode cX6_start 28 = .ok (.aload_n 0, 1) := by decide +kernel
theorem dX6_start_29 : decode cX6_start 29 = .ok (.iconst 2, 1) := by decide +kernel
theorem dX6_start_30 : decode cX6_start 30 = .ok (.invokevirtual 52, 3) := by decide +kernel
theorem dX6_start_33 : decode cX6_start 33 = .ok (.ireturn, 1) := by decide +kernel
theorem dX6_start_34 : decode cX6_start 34 = .ok (.aload_n 0, 1) := by decide +kernel
theorem dX6_start_35 : decode cX6_start 35 = .ok (.getfield 42, 3) := by decide +kernel
theorem dX6_start_38 : decode cX6_start 38 = .ok (.bipush 6, 2) := by decide +kernel
theorem dX6_start_40 : decode cX6_start 40 = .ok (.if_icmp .ne 9, 3) := by decide +kernel
theorem dX6_start_43 : decode cX6_start 43 = .ok (.aload_n 0, 1) := by decide +kernel
theorem dX6_start_44 : decode cX6_start 44 = .ok (.iconst 3, 1) := by decide +kernel
theorem dX6_start_45 : decode cX6_start 45 = .ok (.invokevirtual 52, 3) := by decide +kernel
theorem dX6_start_48 : decode cX6_start 48 = .ok (.ireturn, 1) := by decide +kernel
theorem dX6_start_49 : decode cX6_start 49 = .ok (.aload_n 0, 1) := by decide +kernel
theorem dX6_start_50 : decode cX6_start 50 = .ok (.getfield 16, 3) := by decide +kernel
theorem dX6_start_53 : decode cX6_start 53 = .ok (.aload_n 0, 1) := by decide +kernel
theorem dX6_start_54 : decode cX6_start 54 = .ok (.getfield 42, 3) := by decide +kernel
theorem dX6_start_57 : decode cX6_start 57 = .ok (.iload_n 2, 1) := by decide +kernel
theorem dX6_start_58 : decode cX6_start 58 = .ok (.iastore, 1) := by decide +kernel
theorem dX6_start_59 : decode cX6_start 59 = .ok (.aload_n 0, 1) := by decide +kernel
theorem dX6_start_60 : decode cX6_start 60 = .ok (.getfield 24, 3) := by decide +kernel
theorem dX6_start_63 : decode cX6_start 63 = .ok (.getfield 59, 3) := by decide +kernel
theorem dX6_start_66 : decode cX6_start 66 = .ok (.aload_n 0, 1) := by decide +kernel
theorem dX6_start_67 : decode cX6_start 67 = .ok (.getfield 42, 3) := by decide +kernel
theorem dX6_start_70 : decode cX6_start 70 = .ok (.iload_n 1, 1) := by decide +kernel
theorem dX6_start_71 : decode cX6_start 71 = .ok (.iastore, 1) := by decide +kernel
theorem dX6_start_72 : decode cX6_start 72 = .ok (.aload_n 0, 1) := by decide +kernel
theorem dX6_start_73 : decode cX6_start 73 = .ok (.getfield 24, 3) := by decide +kernel
theorem dX6_start_76 : decode cX6_start 76 = .ok (.getfield 62, 3) := by decide +kernel
theorem dX6_start_79 : decode cX6_start 79 = .ok (.aload_n 0, 1) := by decide +kernel
theorem dX6_start_80 : decode cX6_start 80 = .ok (.getfield 42, 3) := by decide +kernel
theorem dX6_start_83 : decode cX6_start 83 = .ok (.iconst 1, 1) := by decide +kernel
theorem dX6_start_84 : decode cX6_start 84 = .ok (.iastore, 1) := by decide +kernel
theorem dX6_start_85 : decode cX6_start 85 = .ok (.aload_n 0, 1) := by decide +kernel
theorem dX6_start_86 : decode cX6_start 86 = .ok (.dup, 1) := by decide +kernel
theorem dX6_start_87 : decode cX6_start 87 = .ok (.getfield 42, 3) := by decide +kernel
theorem dX6_start_90 : decode cX6_start 90 = .ok (.iconst 1, 1) := by decide +kernel
theorem dX6_start_91 : decode cX6_start 91 = .ok (.iadd, 1) := by decide +kernel
theorem dX6_start_92 : decode cX6_start 92 = .ok (.putfield 42, 3) := by decide +kernel
theorem dX6_start_95 : decode cX6_start 95 = .ok (.aload_n 0, 1) := by decide +kernel
theorem dX6_start_96 : decode cX6_start 96 = .ok (.getfield 42, 3) := by decide +kernel
theorem dX6_start_99 : decode cX6_start 99 = .ok (.iconst 1, 1) := by decide +kernel
theorem dX6_start_100 : decode cX6_start 100 = .ok (.isub, 1) := by decide +kernel
theorem dX6_start_101 : decode cX6_start 101 = .ok (.ireturn, 1) := by decide +kernel
theorem dX6_queue_0 : decode cX6_queue 0 = .ok (.aload_n 0, 1) := by decide +kernel
theorem dX6_queue_1 : decode cX6_queue 1 = .ok (.iconst 0, 1) := by decide +kernel
theorem dX6_queue_2 : decode cX6_queue 2 = .ok (.putfield 34, 3) := by decide +kernel
theorem dX6_queue_5 : decode cX6_queue 5 = .ok (.iload_n 1, 1) := by decide +kernel
theorem dX6_queue_6 : decode cX6_queue 6 = .ok (.invokestatic 48, 3) := by decide +kernel
theorem dX6_queue_9 : decode cX6_queue 9 = .ok (.ifCond .eq 10, 3) := by decide +kernel
theorem dX6_queue_12 : decode cX6_queue 12 = .ok (.iload_n 2, 1) := by decide +kernel
theorem dX6_queue_13 : decode cX6_queue 13 = .ok (.invokestatic 48, 3) := by decide +kernel
theorem dX6_queue_16 : decode cX6_queue 16 = .ok (.ifCond .ne 9, 3) := by decide +kernel
theorem dX6_queue_19 : decode cX6_queue 19 = .ok (.aload_n 0, 1) := by decide +kernel
theorem dX6_queue_20 : decode cX6_queue 20 = .ok (.iconst 1, 1) := by decide +kernel
theorem dX6_queue_21 : decode cX6_queue 21 = .ok (.invokevirtual 52, 3) := by decide +kernel
theorem dX6_queue_24 : decode cX6_queue 24 = .ok (.ireturn, 1) := by decide +kernel
theorem dX6_queue_25 : decode cX6_queue 25 = .ok (.iload_n 1, 1) := by decide +kernel
theorem dX6_queue_26 : decode cX6_queue 26 = .ok (.iload_n 2, 1) := by decide +kernel
theorem dX6_queue_27 : decode cX6_queue 27 = .ok (.if_icmp .ne 9, 3) := by decide +kernel
theorem dX6_queue_30 : decode cX6_queue 30 = .ok (.aload_n 0, 1) := by decide +kernel
theorem dX6_queue_31 : decode cX6_queue 31 = .ok (.iconst 2, 1) := by decide +kernel
theorem dX6_queue_32 : decode cX6_queue 32 = .ok (.invokevirtual 52, 3) := by decide +kernel
theorem dX6_queue_35 : decode cX6_queue 35 = .ok (.ireturn, 1) := by decide +kernel
theorem dX6_queue_36 : decode cX6_queue 36 = .ok (.aload_n 0, 1) := by decide +kernel
theorem dX6_queue_37 : decode cX6_queue 37 = .ok (.getfield 45, 3) := by decide +kernel
theorem dX6_queue_40 : decode cX6_queue 40 = .ok (.bipush 50, 2) := by decide +kernel
theorem dX6_queue_42 : decode cX6_queue 42 = .ok (.if_icmp .ne 9, 3) := by decide +kernel
theorem dX6_queue_45 : decode cX6_queue 45 = .ok (.aload_n 0, 1) := by decide +kernel
theorem dX6_queue_46 : decode cX6_queue 46 = .ok (.iconst 3, 1) := by decide +kernel
theorem dX6_queue_47 : decode cX6_queue 47 = .ok (.invokevirtual 52, 3) := by decide +kernel
theorem dX6_queue_50 : decode cX6_queue 50 = .ok (.ireturn, 1) := by decide +kernel
theorem dX6_queue_51 : decode cX6_queue 51 = .ok (.aload_n 0, 1) := by decide +kernel
theorem dX6_queue_52 : decode cX6_queue 52 = .ok (.getfield 24, 3) := by decide +kernel
theorem dX6_queue_55 : decode cX6_queue 55 = .ok (.getfield 65, 3) := by decide +kernel
theorem dX6_queue_58 : decode cX6_queue 58 = .ok (.aload_n 0, 1) := by decide +kernel
theorem dX6_queue_59 : decode cX6_queue 59 = .ok (.getfield 45, 3) := by decide +kernel
theorem dX6_queue_62 : decode cX6_queue 62 = .ok (.iload_n 1, 1) := by decide +kernel
theorem dX6_queue_63 : decode cX6_queue 63 = .ok (.iastore, 1) := by decide +kernel
theorem dX6_queue_64 : decode cX6_queue 64 = .ok (.aload_n 0, 1) := by decide +kernel
theorem dX6_queue_65 : decode cX6_queue 65 = .ok (.getfield 24, 3) := by decide +kernel
theorem dX6_queue_68 : decode cX6_queue 68 = .ok (.getfield 68, 3) := by decide +kernel
theorem dX6_queue_71 : decode cX6_queue 71 = .ok (.aload_n 0, 1) := by decide +kernel
theorem dX6_queue_72 : decode cX6_queue 72 = .ok (.getfield 45, 3) := by decide +kernel
theorem dX6_queue_75 : decode cX6_queue 75 = .ok (.iload_n 2, 1) := by decide +kernel
theorem dX6_queue_76 : decode cX6_queue 76 = .ok (.iastore, 1) := by decide +kernel
theorem dX6_queue_77 : decode cX6_queue 77 = .ok (.aload_n 0, 1) := by decide +kernel
theorem dX6_queue_78 : decode cX6_queue 78 = .ok (.getfield 24, 3) := by decide +kernel
theorem dX6_queue_81 : decode cX6_queue 81 = .ok (.getfield 71, 3) := by decide +kernel
theorem dX6_queue_84 : decode cX6_queue 84 = .ok (.aload_n 0, 1) := by decide +kernel
theorem dX6_queue_85 : decode cX6_queue 85 = .ok (.getfield 45, 3) := by decide +kernel
theorem dX6_queue_88 : decode cX6_queue 88 = .ok (.iconst (-1), 1) := by decide +kernel
theorem dX6_queue_89 : decode cX6_queue 89 = .ok (.iastore, 1) := by decide +kernel
theorem dX6_queue_90 : decode cX6_queue 90 = .ok (.aload_n 0, 1) := by decide +kernel
theorem dX6_queue_91 : decode cX6_queue 91 = .ok (.getfield 24, 3) := by decide +kernel
theorem dX6_queue_94 : decode cX6_queue 94 = .ok (.getfield 74, 3) := by decide +kernel
theorem dX6_queue_97 : decode cX6_queue 97 = .ok (.aload_n 0, 1) := by decide +kernel
theorem dX6_queue_98 : decode cX6_queue 98 = .ok (.getfield 45, 3) := by decide +kernel
theorem dX6_queue_101 : decode cX6_queue 101 = .ok (.iconst (-1), 1) := by decide +kernel
theorem dX6_queue_102 : decode cX6_queue 102 = .ok (.iastore, 1) := by decide +kernel
theorem dX6_queue_103 : decode cX6_queue 103 = .ok (.aload_n 0, 1) := by decide +kernel
theorem dX6_queue_104 : decode cX6_queue 104 = .ok (.dup, 1) := by decide +kernel
theorem dX6_queue_105 : decode cX6_queue 105 = .ok (.getfield 45, 3) := by decide +kernel
theorem dX6_queue_108 : decode cX6_queue 108 = .ok (.iconst 1, 1) := by decide +kernel
theorem dX6_queue_109 : decode cX6_queue 109 = .ok (.iadd, 1) := by decide +kernel
theorem dX6_queue_110 : decode cX6_queue 110 = .ok (.putfield 45, 3) := by decide +kernel
theorem dX6_queue_113 : decode cX6_queue 113 = .ok (.aload_n 0, 1) := by decide +kernel
theorem dX6_queue_114 : decode cX6_queue 114 = .ok (.getfield 45, 3) := by decide +kernel
theorem dX6_queue_117 : decode cX6_queue 117 = .ok (.iconst 1, 1) := by decide +kernel
theorem dX6_queue_118 : decode cX6_queue 118 = .ok (.isub, 1) := by decide +kernel
theorem dX6_queue_119 : decode cX6_queue 119 = .ok (.ireturn, 1) := by decide +kernel
theorem dX6_change_0 : decode cX6_change 0 = .ok (.aload_n 0, 1) := by decide +kernel
theorem dX6_change_1 : decode cX6_change 1 = .ok (.iconst 0, 1) := by decide +kernel
theorem dX6_change_2 : decode cX6_change 2 = .ok (.putfield 34, 3) := by decide +kernel
theorem dX6_change_5 : decode cX6_change 5 = .ok (.aload_n 0, 1) := by decide +kernel
theorem dX6_change_6 : decode cX6_change 6 = .ok (.iload_n 1, 1) := by decide +kernel
theorem dX6_change_7 : decode cX6_change 7 = .ok (.invokevirtual 77, 3) := by decide +kernel
theorem dX6_change_10 : decode cX6_change 10 = .ok (.ifCond .eq 10, 3) := by decide +kernel
theorem dX6_change_13 : decode cX6_change 13 = .ok (.iload_n 2, 1) := by decide +kernel
theorem dX6_change_14 : decode cX6_change 14 = .ok (.invokestatic 48, 3) := by decide +kernel
theorem dX6_change_17 : decode cX6_change 17 = .ok (.ifCond .ne 17, 3) := by decide +kernel
theorem dX6_change_20 : decode cX6_change 20 = .ok (.aload_n 0, 1) := by decide +kernel
theorem dX6_change_21 : decode cX6_change 21 = .ok (.iconst 1, 1) := by decide +kernel
theorem dX6_change_22 : decode cX6_change 22 = .ok (.invokevirtual 52, 3) := by decide +kernel
theorem dX6_change_25 : decode cX6_change 25 = .ok (.ifCond .eq 7, 3) := by decide +kernel
theorem dX6_change_28 : decode cX6_change 28 = .ok (.iconst 1, 1) := by decide +kernel
theorem dX6_change_29 : decode cX6_change 29 = .ok (.goto 4, 3) := by decide +kernel
theorem dX6_change_32 : decode cX6_change 32 = .ok (.iconst 0, 1) := by decide +kernel
theorem dX6_change_33 : decode cX6_change 33 = .ok (.ireturn, 1) := by decide +kernel
theorem dX6_change_34 : decode cX6_change 34 = .ok (.aload_n 0, 1) := by decide +kernel
theorem dX6_change_35 : decode cX6_change 35 = .ok (.getfield 24, 3) := by decide +kernel
theorem dX6_change_38 : decode cX6_change 38 = .ok (.getfield 80, 3) := by decide +kernel
theorem dX6_change_41 : decode cX6_change 41 = .ok (.iload_n 1, 1) := by decide +kernel
theorem dX6_change_42 : decode cX6_change 42 = .ok (.iaload, 1) := by decide +kernel
theorem dX6_change_43 : decode cX6_change 43 = .ok (.iconst 2, 1) := by decide +kernel
theorem dX6_change_44 : decode cX6_change 44 = .ok (.if_icmp .ne 16, 3) := by decide +kernel
theorem dX6_change_47 : decode cX6_change 47 = .ok (.aload_n 0, 1) := by decide +kernel
theorem dX6_change_48 : decode cX6_change 48 = .ok (.getfield 24, 3) := by decide +kernel
theorem dX6_change_51 : decode cX6_change 51 = .ok (.getfield 65, 3) := by decide +kernel
theorem dX6_change_54 : decode cX6_change 54 = .ok (.iload_n 1, 1) := by decide +kernel
theorem dX6_change_55 : decode cX6_change 55 = .ok (.iaload, 1) := by decide +kernel
theorem dX6_change_56 : decode cX6_change 56 = .ok (.iload_n 2, 1) := by decide +kernel
theorem dX6_change_57 : decode cX6_change 57 = .ok (.if_icmp .ne 17, 3) := by decide +kernel
theorem dX6_change_60 : decode cX6_change 60 = .ok (.aload_n 0, 1) := by decide +kernel
theorem dX6_change_61 : decode cX6_change 61 = .ok (.iconst 2, 1) := by decide +kernel
theorem dX6_change_62 : decode cX6_change 62 = .ok (.invokevirtual 52, 3) := by decide +kernel
theorem dX6_change_65 : decode cX6_change 65 = .ok (.ifCond .eq 7, 3) := by decide +kernel
theorem dX6_change_68 : decode cX6_change 68 = .ok (.iconst 1, 1) := by decide +kernel
theorem dX6_change_69 : decode cX6_change 69 = .ok (.goto 4, 3) := by decide +kernel
theorem dX6_change_72 : decode cX6_change 72 = .ok (.iconst 0, 1) := by decide +kernel
theorem dX6_change_73 : decode cX6_change 73 = .ok (.ireturn, 1) := by decide +kernel
theorem dX6_change_74 : decode cX6_change 74 = .ok (.aload_n 0, 1) := by decide +kernel
theorem dX6_change_75 : decode cX6_change 75 = .ok (.getfield 24, 3) := by decide +kernel
theorem dX6_change_78 : decode cX6_change 78 = .ok (.getfield 80, 3) := by decide +kernel
theorem dX6_change_81 : decode cX6_change 81 = .ok (.iload_n 1, 1) := by decide +kernel
theorem dX6_change_82 : decode cX6_change 82 = .ok (.iconst 0, 1) := by decide +kernel
theorem dX6_change_83 : decode cX6_change 83 = .ok (.iastore, 1) := by decide +kernel
theorem dX6_change_84 : decode cX6_change 84 = .ok (.aload_n 0, 1) := by decide +kernel
theorem dX6_change_85 : decode cX6_change 85 = .ok (.getfield 24, 3) := by decide +kernel
theorem dX6_change_88 : decode cX6_change 88 = .ok (.getfield 68, 3) := by decide +kernel
theorem dX6_change_91 : decode cX6_change 91 = .ok (.iload_n 1, 1) := by decide +kernel
theorem dX6_change_92 : decode cX6_change 92 = .ok (.iload_n 2, 1) := by decide +kernel
theorem dX6_change_93 : decode cX6_change 93 = .ok (.iastore, 1) := by decide +kernel
theorem dX6_change_94 : decode cX6_change 94 = .ok (.aload_n 0, 1) := by decide +kernel
theorem dX6_change_95 : decode cX6_change 95 = .ok (.getfield 24, 3) := by decide +kernel
theorem dX6_change_98 : decode cX6_change 98 = .ok (.getfield 83, 3) := by decide +kernel
theorem dX6_change_101 : decode cX6_change 101 = .ok (.iload_n 1, 1) := by decide +kernel
theorem dX6_change_102 : decode cX6_change 102 = .ok (.aload_n 0, 1) := by decide +kernel
theorem dX6_change_103 : decode cX6_change 103 = .ok (.getfield 24, 3) := by decide +kernel
theorem dX6_change_106 : decode cX6_change 106 = .ok (.getfield 86, 3) := by decide +kernel
theorem dX6_change_109 : decode cX6_change 109 = .ok (.aload_n 0, 1) := by decide +kernel
theorem dX6_change_110 : decode cX6_change 110 = .ok (.getfield 24, 3) := by decide +kernel
theorem dX6_change_113 : decode cX6_change 113 = .ok (.getfield 74, 3) := by decide +kernel
theorem dX6_change_116 : decode cX6_change 116 = .ok (.iload_n 1, 1) := by decide +kernel
theorem dX6_change_117 : decode cX6_change 117 = .ok (.iaload, 1) := by decide +kernel
theorem dX6_change_118 : decode cX6_change 118 = .ok (.isub, 1) := by decide +kernel
theorem dX6_change_119 : decode cX6_change 119 = .ok (.bipush 20, 2) := by decide +kernel
theorem dX6_change_121 : decode cX6_change 121 = .ok (.if_icmp .gt 7, 3) := by decide +kernel
theorem dX6_change_124 : decode cX6_change 124 = .ok (.iconst 1, 1) := by decide +kernel
theorem dX6_change_125 : decode cX6_change 125 = .ok (.goto 4, 3) := by decide +kernel
theorem dX6_change_128 : decode cX6_change 128 = .ok (.iconst 0, 1) := by decide +kernel
theorem dX6_change_129 : decode cX6_change 129 = .ok (.iastore, 1) := by decide +kernel
theorem dX6_change_130 : decode cX6_change 130 = .ok (.aload_n 0, 1) := by decide +kernel
theorem dX6_change_131 : decode cX6_change 131 = .ok (.getfield 24, 3) := by decide +kernel
theorem dX6_change_134 : decode cX6_change 134 = .ok (.getfield 83, 3) := by decide +kernel
theorem dX6_change_137 : decode cX6_change 137 = .ok (.iload_n 1, 1) := by decide +kernel
theorem dX6_change_138 : decode cX6_change 138 = .ok (.iaload, 1) := by decide +kernel
theorem dX6_change_139 : decode cX6_change 139 = .ok (.iconst 1, 1) := by decide +kernel
theorem dX6_change_140 : decode cX6_change 140 = .ok (.if_icmp .ne 7, 3) := by decide +kernel
theorem dX6_change_143 : decode cX6_change 143 = .ok (.iconst 1, 1) := by decide +kernel
theorem dX6_change_144 : decode cX6_change 144 = .ok (.goto 4, 3) := by decide +kernel
theorem dX6_change_147 : decode cX6_change 147 = .ok (.iconst 0, 1) := by decide +kernel
theorem dX6_change_148 : decode cX6_change 148 = .ok (.ireturn, 1) := by decide +kernel
theorem dX6_fareOf_0 : decode cX6_fareOf 0 = .ok (.iload_n 1, 1) := by decide +kernel
theorem dX6_fareOf_1 : decode cX6_fareOf 1 = .ok (.iload_n 2, 1) := by decide +kernel
theorem dX6_fareOf_2 : decode cX6_fareOf 2 = .ok (.if_icmp .ne 5, 3) := by decide +kernel
theorem dX6_fareOf_5 : decode cX6_fareOf 5 = .ok (.iconst 0, 1) := by decide +kernel
theorem dX6_fareOf_6 : decode cX6_fareOf 6 = .ok (.ireturn, 1) := by decide +kernel
theorem dX6_fareOf_7 : decode cX6_fareOf 7 = .ok (.iconst 2, 1) := by decide +kernel
theorem dX6_fareOf_8 : decode cX6_fareOf 8 = .ok (.istore_n 3, 1) := by decide +kernel
theorem dX6_fareOf_9 : decode cX6_fareOf 9 = .ok (.iload_n 1, 1) := by decide +kernel
theorem dX6_fareOf_10 : decode cX6_fareOf 10 = .ok (.istore 4, 2) := by decide +kernel
theorem dX6_fareOf_12 : decode cX6_fareOf 12 = .ok (.iload 4, 2) := by decide +kernel
theorem dX6_fareOf_14 : decode cX6_fareOf 14 = .ok (.iload_n 2, 1) := by decide +kernel
theorem dX6_fareOf_15 : decode cX6_fareOf 15 = .ok (.if_icmp .eq 45, 3) := by decide +kernel
theorem dX6_fareOf_18 : decode cX6_fareOf 18 = .ok (.iload_n 3, 1) := by decide +kernel
theorem dX6_fareOf_19 : decode cX6_fareOf 19 = .ok (.aload_n 0, 1) := by decide +kernel
theorem dX6_fareOf_20 : decode cX6_fareOf 20 = .ok (.getfield 13, 3) := by decide +kernel
theorem dX6_fareOf_23 : decode cX6_fareOf 23 = .ok (.iload 4, 2) := by decide +kernel
theorem dX6_fareOf_25 : decode cX6_fareOf 25 = .ok (.iaload, 1) := by decide +kernel
theorem dX6_fareOf_26 : decode cX6_fareOf 26 = .ok (.aload_n 0, 1) := by decide +kernel
theorem dX6_fareOf_27 : decode cX6_fareOf 27 = .ok (.getfield 13, 3) := by decide +kernel
theorem dX6_fareOf_30 : decode cX6_fareOf 30 = .ok (.iload 4, 2) := by decide +kernel
theorem dX6_fareOf_32 : decode cX6_fareOf 32 = .ok (.iconst 1, 1) := by decide +kernel
theorem dX6_fareOf_33 : decode cX6_fareOf 33 = .ok (.iadd, 1) := by decide +kernel
theorem dX6_fareOf_34 : decode cX6_fareOf 34 = .ok (.bipush 10, 2) := by decide +kernel
theorem dX6_fareOf_36 : decode cX6_fareOf 36 = .ok (.irem, 1) := by decide +kernel
theorem dX6_fareOf_37 : decode cX6_fareOf 37 = .ok (.iaload, 1) := by decide +kernel
theorem dX6_fareOf_38 : decode cX6_fareOf 38 = .ok (.if_icmp .ne 7, 3) := by decide +kernel
theorem dX6_fareOf_41 : decode cX6_fareOf 41 = .ok (.iconst 0, 1) := by decide +kernel
theorem dX6_fareOf_42 : decode cX6_fareOf 42 = .ok (.goto 4, 3) := by decide +kernel
theorem dX6_fareOf_45 : decode cX6_fareOf 45 = .ok (.iconst 1, 1) := by decide +kernel
theorem dX6_fareOf_46 : decode cX6_fareOf 46 = .ok (.iadd, 1) := by decide +kernel
theorem dX6_fareOf_47 : decode cX6_fareOf 47 = .ok (.istore_n 3, 1) := by decide +kernel
theorem dX6_fareOf_48 : decode cX6_fareOf 48 = .ok (.iload 4, 2) := by decide +kernel
theorem dX6_fareOf_50 : decode cX6_fareOf 50 = .ok (.iconst 1, 1) := by decide +kernel
theorem dX6_fareOf_51 : decode cX6_fareOf 51 = .ok (.iadd, 1) := by decide +kernel
theorem dX6_fareOf_52 : decode cX6_fareOf 52 = .ok (.bipush 10, 2) := by decide +kernel
theorem dX6_fareOf_54 : decode cX6_fareOf 54 = .ok (.irem, 1) := by decide +kernel
theorem dX6_fareOf_55 : decode cX6_fareOf 55 = .ok (.istore 4, 2) := by decide +kernel
theorem dX6_fareOf_57 : decode cX6_fareOf 57 = .ok (.goto (-45), 3) := by decide +kernel
theorem dX6_fareOf_60 : decode cX6_fareOf 60 = .ok (.iload_n 3, 1) := by decide +kernel
theorem dX6_fareOf_61 : decode cX6_fareOf 61 = .ok (.ireturn, 1) := by decide +kernel
theorem dX6_fare_0 : decode cX6_fare 0 = .ok (.aload_n 0, 1) := by decide +kernel
theorem dX6_fare_1 : decode cX6_fare 1 = .ok (.iconst 0, 1) := by decide +kernel
theorem dX6_fare_2 : decode cX6_fare 2 = .ok (.putfield 34, 3) := by decide +kernel
theorem dX6_fare_5 : decode cX6_fare 5 = .ok (.iload_n 1, 1) := by decide +kernel
theorem dX6_fare_6 : decode cX6_fare 6 = .ok (.invokestatic 48, 3) := by decide +kernel
theorem dX6_fare_9 : decode cX6_fare 9 = .ok (.ifCond .eq 19, 3) := by decide +kernel
theorem dX6_fare_12 : decode cX6_fare 12 = .ok (.iload_n 2, 1) := by decide +kernel
theorem dX6_fare_13 : decode cX6_fare 13 = .ok (.invokestatic 48, 3) := by decide +kernel
theorem dX6_fare_16 : decode cX6_fare 16 = .ok (.ifCond .eq 12, 3) := by decide +kernel
theorem dX6_fare_19 : decode cX6_fare 19 = .ok (.aload_n 0, 1) := by decide +kernel
theorem dX6_fare_20 : decode cX6_fare 20 = .ok (.iload_n 1, 1) := by decide +kernel
theorem dX6_fare_21 : decode cX6_fare 21 = .ok (.iload_n 2, 1) := by decide +kernel
theorem dX6_fare_22 : decode cX6_fare 22 = .ok (.invokevirtual 89, 3) := by decide +kernel
theorem dX6_fare_25 : decode cX6_fare 25 = .ok (.goto 8, 3) := by decide +kernel
theorem dX6_fare_28 : decode cX6_fare 28 = .ok (.aload_n 0, 1) := by decide +kernel
theorem dX6_fare_29 : decode cX6_fare 29 = .ok (.iconst 1, 1) := by decide +kernel
theorem dX6_fare_30 : decode cX6_fare 30 = .ok (.invokevirtual 52, 3) := by decide +kernel
theorem dX6_fare_33 : decode cX6_fare 33 = .ok (.ireturn, 1) := by decide +kernel
theorem dX6_busTold_0 : decode cX6_busTold 0 = .ok (.bipush 6, 2) := by decide +kernel
theorem dX6_busTold_2 : decode cX6_busTold 2 = .ok (.newarray .int, 2) := by decide +kernel
theorem dX6_busTold_4 : decode cX6_busTold 4 = .ok (.dup, 1) := by decide +kernel
theorem dX6_busTold_5 : decode cX6_busTold 5 = .ok (.iconst 0, 1) := by decide +kernel
theorem dX6_busTold_6 : decode cX6_busTold 6 = .ok (.aload_n 0, 1) := by decide +kernel
theorem dX6_busTold_7 : decode cX6_busTold 7 = .ok (.getfield 24, 3) := by decide +kernel
theorem dX6_busTold_10 : decode cX6_busTold 10 = .ok (.getfield 59, 3) := by decide +kernel
theorem dX6_busTold_13 : decode cX6_busTold 13 = .ok (.iload_n 1, 1) := by decide +kernel
theorem dX6_busTold_14 : decode cX6_busTold 14 = .ok (.iaload, 1) := by decide +kernel
theorem dX6_busTold_15 : decode cX6_busTold 15 = .ok (.iastore, 1) := by decide +kernel
theorem dX6_busTold_16 : decode cX6_busTold 16 = .ok (.dup, 1) := by decide +kernel
theorem dX6_busTold_17 : decode cX6_busTold 17 = .ok (.iconst 1, 1) := by decide +kernel
theorem dX6_busTold_18 : decode cX6_busTold 18 = .ok (.aload_n 0, 1) := by decide +kernel
theorem dX6_busTold_19 : decode cX6_busTold 19 = .ok (.getfield 24, 3) := by decide +kernel
theorem dX6_busTold_22 : decode cX6_busTold 22 = .ok (.getfield 93, 3) := by decide +kernel
theorem dX6_busTold_25 : decode cX6_busTold 25 = .ok (.iload_n 1, 1) := by decide +kernel
theorem dX6_busTold_26 : decode cX6_busTold 26 = .ok (.iaload, 1) := by decide +kernel
theorem dX6_busTold_27 : decode cX6_busTold 27 = .ok (.iastore, 1) := by decide +kernel
theorem dX6_busTold_28 : decode cX6_busTold 28 = .ok (.dup, 1) := by decide +kernel
theorem dX6_busTold_29 : decode cX6_busTold 29 = .ok (.iconst 2, 1) := by decide +kernel
theorem dX6_busTold_30 : decode cX6_busTold 30 = .ok (.aload_n 0, 1) := by decide +kernel
theorem dX6_busTold_31 : decode cX6_busTold 31 = .ok (.getfield 24, 3) := by decide +kernel
theorem dX6_busTold_34 : decode cX6_busTold 34 = .ok (.getfield 62, 3) := by decide +kernel
theorem dX6_busTold_37 : decode cX6_busTold 37 = .ok (.iload_n 1, 1) := by decide +kernel
theorem dX6_busTold_38 : decode cX6_busTold 38 = .ok (.iaload, 1) := by decide +kernel
theorem dX6_busTold_39 : decode cX6_busTold 39 = .ok (.iastore, 1) := by decide +kernel
theorem dX6_busTold_40 : decode cX6_busTold 40 = .ok (.dup, 1) := by decide +kernel
theorem dX6_busTold_41 : decode cX6_busTold 41 = .ok (.iconst 3, 1) := by decide +kernel
theorem dX6_busTold_42 : decode cX6_busTold 42 = .ok (.aload_n 0, 1) := by decide +kernel
theorem dX6_busTold_43 : decode cX6_busTold 43 = .ok (.getfield 16, 3) := by decide +kernel
theorem dX6_busTold_46 : decode cX6_busTold 46 = .ok (.iload_n 1, 1) := by decide +kernel
theorem dX6_busTold_47 : decode cX6_busTold 47 = .ok (.iaload, 1) := by decide +kernel
theorem dX6_busTold_48 : decode cX6_busTold 48 = .ok (.iastore, 1) := by decide +kernel
theorem dX6_busTold_49 : decode cX6_busTold 49 = .ok (.dup, 1) := by decide +kernel
theorem dX6_busTold_50 : decode cX6_busTold 50 = .ok (.iconst 4, 1) := by decide +kernel
theorem dX6_busTold_51 : decode cX6_busTold 51 = .ok (.aload_n 0, 1) := by decide +kernel
theorem dX6_busTold_52 : decode cX6_busTold 52 = .ok (.getfield 24, 3) := by decide +kernel
theorem dX6_busTold_55 : decode cX6_busTold 55 = .ok (.iload_n 1, 1) := by decide +kernel
theorem dX6_busTold_56 : decode cX6_busTold 56 = .ok (.invokevirtual 96, 3) := by decide +kernel
theorem dX6_busTold_59 : decode cX6_busTold 59 = .ok (.iastore, 1) := by decide +kernel
theorem dX6_busTold_60 : decode cX6_busTold 60 = .ok (.dup, 1) := by decide +kernel
theorem dX6_busTold_61 : decode cX6_busTold 61 = .ok (.iconst 5, 1) := by decide +kernel
theorem dX6_busTold_62 : decode cX6_busTold 62 = .ok (.aload_n 0, 1) := by decide +kernel
theorem dX6_busTold_63 : decode cX6_busTold 63 = .ok (.getfield 24, 3) := by decide +kernel
theorem dX6_busTold_66 : decode cX6_busTold 66 = .ok (.getfield 99, 3) := by decide +kernel
theorem dX6_busTold_69 : decode cX6_busTold 69 = .ok (.iload_n 1, 1) := by decide +kernel
theorem dX6_busTold_70 : decode cX6_busTold 70 = .ok (.iaload, 1) := by decide +kernel
theorem dX6_busTold_71 : decode cX6_busTold 71 = .ok (.iastore, 1) := by decide +kernel
theorem dX6_busTold_72 : decode cX6_busTold 72 = .ok (.astore_n 3, 1) := by decide +kernel
theorem dX6_busTold_73 : decode cX6_busTold 73 = .ok (.aload_n 3, 1) := by decide +kernel
theorem dX6_busTold_74 : decode cX6_busTold 74 = .ok (.iload_n 2, 1) := by decide +kernel
theorem dX6_busTold_75 : decode cX6_busTold 75 = .ok (.iaload, 1) := by decide +kernel
theorem dX6_busTold_76 : decode cX6_busTold 76 = .ok (.ireturn, 1) := by decide +kernel
theorem dX6_bus_0 : decode cX6_bus 0 = .ok (.aload_n 0, 1) := by decide +kernel
theorem dX6_bus_1 : decode cX6_bus 1 = .ok (.iconst 0, 1) := by decide +kernel
theorem dX6_bus_2 : decode cX6_bus 2 = .ok (.putfield 34, 3) := by decide +kernel
theorem dX6_bus_5 : decode cX6_bus 5 = .ok (.aload_n 0, 1) := by decide +kernel
theorem dX6_bus_6 : decode cX6_bus 6 = .ok (.iload_n 1, 1) := by decide +kernel
theorem dX6_bus_7 : decode cX6_bus 7 = .ok (.invokevirtual 102, 3) := by decide +kernel
theorem dX6_bus_10 : decode cX6_bus 10 = .ok (.ifCond .eq 21, 3) := by decide +kernel
theorem dX6_bus_13 : decode cX6_bus 13 = .ok (.iload_n 2, 1) := by decide +kernel
theorem dX6_bus_14 : decode cX6_bus 14 = .ok (.iconst 0, 1) := by decide +kernel
theorem dX6_bus_15 : decode cX6_bus 15 = .ok (.iconst 5, 1) := by decide +kernel
theorem dX6_bus_16 : decode cX6_bus 16 = .ok (.invokestatic 38, 3) := by decide +kernel
theorem dX6_bus_19 : decode cX6_bus 19 = .ok (.ifCond .eq 12, 3) := by decide +kernel
theorem dX6_bus_22 : decode cX6_bus 22 = .ok (.aload_n 0, 1) := by decide +kernel
theorem dX6_bus_23 : decode cX6_bus 23 = .ok (.iload_n 1, 1) := by decide +kernel
theorem dX6_bus_24 : decode cX6_bus 24 = .ok (.iload_n 2, 1) := by decide +kernel
theorem dX6_bus_25 : decode cX6_bus 25 = .ok (.invokevirtual 105, 3) := by decide +kernel
theorem dX6_bus_28 : decode cX6_bus 28 = .ok (.goto 8, 3) := by decide +kernel
theorem dX6_bus_31 : decode cX6_bus 31 = .ok (.aload_n 0, 1) := by decide +kernel
theorem dX6_bus_32 : decode cX6_bus 32 = .ok (.iconst 1, 1) := by decide +kernel
theorem dX6_bus_33 : decode cX6_bus 33 = .ok (.invokevirtual 52, 3) := by decide +kernel
theorem dX6_bus_36 : decode cX6_bus 36 = .ok (.ireturn, 1) := by decide +kernel
theorem dX6_passengerTold_0 : decode cX6_passengerTold 0 = .ok (.bipush 7, 2) := by decide +kernel
theorem dX6_passengerTold_2 : decode cX6_passengerTold 2 = .ok (.newarray .int, 2) := by decide +kernel
theorem dX6_passengerTold_4 : decode cX6_passengerTold 4 = .ok (.dup, 1) := by decide +kernel
theorem dX6_passengerTold_5 : decode cX6_passengerTold 5 = .ok (.iconst 0, 1) := by decide +kernel
theorem dX6_passengerTold_6 : decode cX6_passengerTold 6 = .ok (.aload_n 0, 1) := by decide +kernel
theorem dX6_passengerTold_7 : decode cX6_passengerTold 7 = .ok (.getfield 24, 3) := by decide +kernel
theorem dX6_passengerTold_10 : decode cX6_passengerTold 10 = .ok (.getfield 80, 3) := by decide +kernel
theorem dX6_passengerTold_13 : decode cX6_passengerTold 13 = .ok (.iload_n 1, 1) := by decide +kernel
theorem dX6_passengerTold_14 : decode cX6_passengerTold 14 = .ok (.iaload, 1) := by decide +kernel
theorem dX6_passengerTold_15 : decode cX6_passengerTold 15 = .ok (.iastore, 1) := by decide +kernel
theorem dX6_passengerTold_16 : decode cX6_passengerTold 16 = .ok (.dup, 1) := by decide +kernel
theorem dX6_passengerTold_17 : decode cX6_passengerTold 17 = .ok (.iconst 1, 1) := by decide +kernel
theorem dX6_passengerTold_18 : decode cX6_passengerTold 18 = .ok (.aload_n 0, 1) := by decide +kernel
theorem dX6_passengerTold_19 : decode cX6_passengerTold 19 = .ok (.getfield 24, 3) := by decide +kernel
theorem dX6_passengerTold_22 : decode cX6_passengerTold 22 = .ok (.getfield 65, 3) := by decide +kernel
theorem dX6_passengerTold_25 : decode cX6_passengerTold 25 = .ok (.iload_n 1, 1) := by decide +kernel
theorem dX6_passengerTold_26 : decode cX6_passengerTold 26 = .ok (.iaload, 1) := by decide +kernel
theorem dX6_passengerTold_27 : decode cX6_passengerTold 27 = .ok (.iastore, 1) := by decide +kernel
theorem dX6_passengerTold_28 : decode cX6_passengerTold 28 = .ok (.dup, 1) := by decide +kernel
theorem dX6_passengerTold_29 : decode cX6_passengerTold 29 = .ok (.iconst 2, 1) := by decide +kernel
theorem dX6_passengerTold_30 : decode cX6_passengerTold 30 = .ok (.aload_n 0, 1) := by decide +kernel
theorem dX6_passengerTold_31 : decode cX6_passengerTold 31 = .ok (.getfield 24, 3) := by decide +kernel
theorem dX6_passengerTold_34 : decode cX6_passengerTold 34 = .ok (.getfield 68, 3) := by decide +kernel
theorem dX6_passengerTold_37 : decode cX6_passengerTold 37 = .ok (.iload_n 1, 1) := by decide +kernel
theorem dX6_passengerTold_38 : decode cX6_passengerTold 38 = .ok (.iaload, 1) := by decide +kernel
theorem dX6_passengerTold_39 : decode cX6_passengerTold 39 = .ok (.iastore, 1) := by decide +kernel
theorem dX6_passengerTold_40 : decode cX6_passengerTold 40 = .ok (.dup, 1) := by decide +kernel
theorem dX6_passengerTold_41 : decode cX6_passengerTold 41 = .ok (.iconst 3, 1) := by decide +kernel
theorem dX6_passengerTold_42 : decode cX6_passengerTold 42 = .ok (.aload_n 0, 1) := by decide +kernel
theorem dX6_passengerTold_43 : decode cX6_passengerTold 43 = .ok (.getfield 24, 3) := by decide +kernel
theorem dX6_passengerTold_46 : decode cX6_passengerTold 46 = .ok (.getfield 71, 3) := by decide +kernel
theorem dX6_passengerTold_49 : decode cX6_passengerTold 49 = .ok (.iload_n 1, 1) := by decide +kernel
theorem dX6_passengerTold_50 : decode cX6_passengerTold 50 = .ok (.iaload, 1) := by decide +kernel
theorem dX6_passengerTold_51 : decode cX6_passengerTold 51 = .ok (.iastore, 1) := by decide +kernel
theorem dX6_passengerTold_52 : decode cX6_passengerTold 52 = .ok (.dup, 1) := by decide +kernel
theorem dX6_passengerTold_53 : decode cX6_passengerTold 53 = .ok (.iconst 4, 1) := by decide +kernel
theorem dX6_passengerTold_54 : decode cX6_passengerTold 54 = .ok (.aload_n 0, 1) := by decide +kernel
theorem dX6_passengerTold_55 : decode cX6_passengerTold 55 = .ok (.getfield 24, 3) := by decide +kernel
theorem dX6_passengerTold_58 : decode cX6_passengerTold 58 = .ok (.getfield 108, 3) := by decide +kernel
theorem dX6_passengerTold_61 : decode cX6_passengerTold 61 = .ok (.iload_n 1, 1) := by decide +kernel
theorem dX6_passengerTold_62 : decode cX6_passengerTold 62 = .ok (.iaload, 1) := by decide +kernel
theorem dX6_passengerTold_63 : decode cX6_passengerTold 63 = .ok (.iastore, 1) := by decide +kernel
theorem dX6_passengerTold_64 : decode cX6_passengerTold 64 = .ok (.dup, 1) := by decide +kernel
theorem dX6_passengerTold_65 : decode cX6_passengerTold 65 = .ok (.iconst 5, 1) := by decide +kernel
theorem dX6_passengerTold_66 : decode cX6_passengerTold 66 = .ok (.aload_n 0, 1) := by decide +kernel
theorem dX6_passengerTold_67 : decode cX6_passengerTold 67 = .ok (.getfield 24, 3) := by decide +kernel
theorem dX6_passengerTold_70 : decode cX6_passengerTold 70 = .ok (.getfield 111, 3) := by decide +kernel
theorem dX6_passengerTold_73 : decode cX6_passengerTold 73 = .ok (.iload_n 1, 1) := by decide +kernel
theorem dX6_passengerTold_74 : decode cX6_passengerTold 74 = .ok (.iaload, 1) := by decide +kernel
theorem dX6_passengerTold_75 : decode cX6_passengerTold 75 = .ok (.iastore, 1) := by decide +kernel
theorem dX6_passengerTold_76 : decode cX6_passengerTold 76 = .ok (.dup, 1) := by decide +kernel
theorem dX6_passengerTold_77 : decode cX6_passengerTold 77 = .ok (.bipush 6, 2) := by decide +kernel
theorem dX6_passengerTold_79 : decode cX6_passengerTold 79 = .ok (.aload_n 0, 1) := by decide +kernel
theorem dX6_passengerTold_80 : decode cX6_passengerTold 80 = .ok (.getfield 24, 3) := by decide +kernel
theorem dX6_passengerTold_83 : decode cX6_passengerTold 83 = .ok (.getfield 74, 3) := by decide +kernel
theorem dX6_passengerTold_86 : decode cX6_passengerTold 86 = .ok (.iload_n 1, 1) := by decide +kernel
theorem dX6_passengerTold_87 : decode cX6_passengerTold 87 = .ok (.iaload, 1) := by decide +kernel
theorem dX6_passengerTold_88 : decode cX6_passengerTold 88 = .ok (.iastore, 1) := by decide +kernel
theorem dX6_passengerTold_89 : decode cX6_passengerTold 89 = .ok (.astore_n 3, 1) := by decide +kernel
theorem dX6_passengerTold_90 : decode cX6_passengerTold 90 = .ok (.aload_n 3, 1) := by decide +kernel
theorem dX6_passengerTold_91 : decode cX6_passengerTold 91 = .ok (.iload_n 2, 1) := by decide +kernel
theorem dX6_passengerTold_92 : decode cX6_passengerTold 92 = .ok (.iaload, 1) := by decide +kernel
theorem dX6_passengerTold_93 : decode cX6_passengerTold 93 = .ok (.ireturn, 1) := by decide +kernel
theorem dX6_passenger_0 : decode cX6_passenger 0 = .ok (.aload_n 0, 1) := by decide +kernel
theorem dX6_passenger_1 : decode cX6_passenger 1 = .ok (.iconst 0, 1) := by decide +kernel
theorem dX6_passenger_2 : decode cX6_passenger 2 = .ok (.putfield 34, 3) := by decide +kernel
theorem dX6_passenger_5 : decode cX6_passenger 5 = .ok (.aload_n 0, 1) := by decide +kernel
theorem dX6_passenger_6 : decode cX6_passenger 6 = .ok (.iload_n 1, 1) := by decide +kernel
theorem dX6_passenger_7 : decode cX6_passenger 7 = .ok (.invokevirtual 77, 3) := by decide +kernel
theorem dX6_passenger_10 : decode cX6_passenger 10 = .ok (.ifCond .eq 22, 3) := by decide +kernel
theorem dX6_passenger_13 : decode cX6_passenger 13 = .ok (.iload_n 2, 1) := by decide +kernel
theorem dX6_passenger_14 : decode cX6_passenger 14 = .ok (.iconst 0, 1) := by decide +kernel
theorem dX6_passenger_15 : decode cX6_passenger 15 = .ok (.bipush 6, 2) := by decide +kernel
theorem dX6_passenger_17 : decode cX6_passenger 17 = .ok (.invokestatic 38, 3) := by decide +kernel
theorem dX6_passenger_20 : decode cX6_passenger 20 = .ok (.ifCond .eq 12, 3) := by decide +kernel
theorem dX6_passenger_23 : decode cX6_passenger 23 = .ok (.aload_n 0, 1) := by decide +kernel
theorem dX6_passenger_24 : decode cX6_passenger 24 = .ok (.iload_n 1, 1) := by decide +kernel
theorem dX6_passenger_25 : decode cX6_passenger 25 = .ok (.iload_n 2, 1) := by decide +kernel
theorem dX6_passenger_26 : decode cX6_passenger 26 = .ok (.invokevirtual 114, 3) := by decide +kernel
theorem dX6_passenger_29 : decode cX6_passenger 29 = .ok (.goto 8, 3) := by decide +kernel
theorem dX6_passenger_32 : decode cX6_passenger 32 = .ok (.aload_n 0, 1) := by decide +kernel
theorem dX6_passenger_33 : decode cX6_passenger 33 = .ok (.iconst 1, 1) := by decide +kernel
theorem dX6_passenger_34 : decode cX6_passenger 34 = .ok (.invokevirtual 52, 3) := by decide +kernel
theorem dX6_passenger_37 : decode cX6_passenger 37 = .ok (.ireturn, 1) := by decide +kernel
theorem dX6_stopTold_0 : decode cX6_stopTold 0 = .ok (.iconst 0, 1) := by decide +kernel
theorem dX6_stopTold_1 : decode cX6_stopTold 1 = .ok (.istore_n 3, 1) := by decide +kernel
theorem dX6_stopTold_2 : decode cX6_stopTold 2 = .ok (.iconst 0, 1) := by decide +kernel
theorem dX6_stopTold_3 : decode cX6_stopTold 3 = .ok (.istore 4, 2) := by decide +kernel
theorem dX6_stopTold_5 : decode cX6_stopTold 5 = .ok (.iconst 0, 1) := by decide +kernel
theorem dX6_stopTold_6 : decode cX6_stopTold 6 = .ok (.istore 5, 2) := by decide +kernel
theorem dX6_stopTold_8 : decode cX6_stopTold 8 = .ok (.iload 5, 2) := by decide +kernel
theorem dX6_stopTold_10 : decode cX6_stopTold 10 = .ok (.aload_n 0, 1) := by decide +kernel
theorem dX6_stopTold_11 : decode cX6_stopTold 11 = .ok (.getfield 45, 3) := by decide +kernel
theorem dX6_stopTold_14 : decode cX6_stopTold 14 = .ok (.if_icmp .ge 44, 3) := by decide +kernel
theorem dX6_stopTold_17 : decode cX6_stopTold 17 = .ok (.iload_n 3, 1) := by decide +kernel
theorem dX6_stopTold_18 : decode cX6_stopTold 18 = .ok (.aload_n 0, 1) := by decide +kernel
theorem dX6_stopTold_19 : decode cX6_stopTold 19 = .ok (.getfield 24, 3) := by decide +kernel
theorem dX6_stopTold_22 : decode cX6_stopTold 22 = .ok (.getfield 80, 3) := by decide +kernel
theorem dX6_stopTold_25 : decode cX6_stopTold 25 = .ok (.iload 5, 2) := by decide +kernel
theorem dX6_stopTold_27 : decode cX6_stopTold 27 = .ok (.iaload, 1) := by decide +kernel
theorem dX6_stopTold_28 : decode cX6_stopTold 28 = .ok (.ifCond .ne 21, 3) := by decide +kernel
theorem dX6_stopTold_31 : decode cX6_stopTold 31 = .ok (.aload_n 0, 1) := by decide +kernel
theorem dX6_stopTold_32 : decode cX6_stopTold 32 = .ok (.getfield 24, 3) := by decide +kernel
theorem dX6_stopTold_35 : decode cX6_stopTold 35 = .ok (.getfield 65, 3) := by decide +kernel
theorem dX6_stopTold_38 : decode cX6_stopTold 38 = .ok (.iload 5, 2) := by decide +kernel
theorem dX6_stopTold_40 : decode cX6_stopTold 40 = .ok (.iaload, 1) := by decide +kernel
theorem dX6_stopTold_41 : decode cX6_stopTold 41 = .ok (.iload_n 1, 1) := by decide +kernel
theorem dX6_stopTold_42 : decode cX6_stopTold 42 = .ok (.if_icmp .ne 7, 3) := by decide +kernel
theorem dX6_stopTold_45 : decode cX6_stopTold 45 = .ok (.iconst 1, 1) := by decide +kernel
theorem dX6_stopTold_46 : decode cX6_stopTold 46 = .ok (.goto 4, 3) := by decide +kernel
theorem dX6_stopTold_49 : decode cX6_stopTold 49 = .ok (.iconst 0, 1) := by decide +kernel
theorem dX6_stopTold_50 : decode cX6_stopTold 50 = .ok (.iadd, 1) := by decide +kernel
theorem dX6_stopTold_51 : decode cX6_stopTold 51 = .ok (.istore_n 3, 1) := by decide +kernel
theorem dX6_stopTold_52 : decode cX6_stopTold 52 = .ok (.iinc 5 1, 3) := by decide +kernel
theorem dX6_stopTold_55 : decode cX6_stopTold 55 = .ok (.goto (-47), 3) := by decide +kernel
theorem dX6_stopTold_58 : decode cX6_stopTold 58 = .ok (.iconst 0, 1) := by decide +kernel
theorem dX6_stopTold_59 : decode cX6_stopTold 59 = .ok (.istore 5, 2) := by decide +kernel
theorem dX6_stopTold_61 : decode cX6_stopTold 61 = .ok (.iload 5, 2) := by decide +kernel
theorem dX6_stopTold_63 : decode cX6_stopTold 63 = .ok (.aload_n 0, 1) := by decide +kernel
theorem dX6_stopTold_64 : decode cX6_stopTold 64 = .ok (.getfield 42, 3) := by decide +kernel
theorem dX6_stopTold_67 : decode cX6_stopTold 67 = .ok (.if_icmp .ge 46, 3) := by decide +kernel
theorem dX6_stopTold_70 : decode cX6_stopTold 70 = .ok (.iload 4, 2) := by decide +kernel
theorem dX6_stopTold_72 : decode cX6_stopTold 72 = .ok (.aload_n 0, 1) := by decide +kernel
theorem dX6_stopTold_73 : decode cX6_stopTold 73 = .ok (.getfield 24, 3) := by decide +kernel
theorem dX6_stopTold_76 : decode cX6_stopTold 76 = .ok (.getfield 93, 3) := by decide +kernel
theorem dX6_stopTold_79 : decode cX6_stopTold 79 = .ok (.iload 5, 2) := by decide +kernel
theorem dX6_stopTold_81 : decode cX6_stopTold 81 = .ok (.iaload, 1) := by decide +kernel
theorem dX6_stopTold_82 : decode cX6_stopTold 82 = .ok (.ifCond .ne 21, 3) := by decide +kernel
theorem dX6_stopTold_85 : decode cX6_stopTold 85 = .ok (.aload_n 0, 1) := by decide +kernel
theorem dX6_stopTold_86 : decode cX6_stopTold 86 = .ok (.getfield 24, 3) := by decide +kernel
theorem dX6_stopTold_89 : decode cX6_stopTold 89 = .ok (.getfield 59, 3) := by decide +kernel
theorem dX6_stopTold_92 : decode cX6_stopTold 92 = .ok (.iload 5, 2) := by decide +kernel
theorem dX6_stopTold_94 : decode cX6_stopTold 94 = .ok (.iaload, 1) := by decide +kernel
theorem dX6_stopTold_95 : decode cX6_stopTold 95 = .ok (.iload_n 1, 1) := by decide +kernel
theorem dX6_stopTold_96 : decode cX6_stopTold 96 = .ok (.if_icmp .ne 7, 3) := by decide +kernel
theorem dX6_stopTold_99 : decode cX6_stopTold 99 = .ok (.iconst 1, 1) := by decide +kernel
theorem dX6_stopTold_100 : decode cX6_stopTold 100 = .ok (.goto 4, 3) := by decide +kernel
theorem dX6_stopTold_103 : decode cX6_stopTold 103 = .ok (.iconst 0, 1) := by decide +kernel
theorem dX6_stopTold_104 : decode cX6_stopTold 104 = .ok (.iadd, 1) := by decide +kernel
theorem dX6_stopTold_105 : decode cX6_stopTold 105 = .ok (.istore 4, 2) := by decide +kernel
theorem dX6_stopTold_107 : decode cX6_stopTold 107 = .ok (.iinc 5 1, 3) := by decide +kernel
theorem dX6_stopTold_110 : decode cX6_stopTold 110 = .ok (.goto (-49), 3) := by decide +kernel
theorem dX6_stopTold_113 : decode cX6_stopTold 113 = .ok (.iconst 5, 1) := by decide +kernel
theorem dX6_stopTold_114 : decode cX6_stopTold 114 = .ok (.newarray .int, 2) := by decide +kernel
theorem dX6_stopTold_116 : decode cX6_stopTold 116 = .ok (.dup, 1) := by decide +kernel
theorem dX6_stopTold_117 : decode cX6_stopTold 117 = .ok (.iconst 0, 1) := by decide +kernel
theorem dX6_stopTold_118 : decode cX6_stopTold 118 = .ok (.aload_n 0, 1) := by decide +kernel
theorem dX6_stopTold_119 : decode cX6_stopTold 119 = .ok (.getfield 9, 3) := by decide +kernel
theorem dX6_stopTold_122 : decode cX6_stopTold 122 = .ok (.iload_n 1, 1) := by decide +kernel
theorem dX6_stopTold_123 : decode cX6_stopTold 123 = .ok (.iaload, 1) := by decide +kernel
theorem dX6_stopTold_124 : decode cX6_stopTold 124 = .ok (.iastore, 1) := by decide +kernel
theorem dX6_stopTold_125 : decode cX6_stopTold 125 = .ok (.dup, 1) := by decide +kernel
theorem dX6_stopTold_126 : decode cX6_stopTold 126 = .ok (.iconst 1, 1) := by decide +kernel
theorem dX6_stopTold_127 : decode cX6_stopTold 127 = .ok (.aload_n 0, 1) := by decide +kernel
theorem dX6_stopTold_128 : decode cX6_stopTold 128 = .ok (.getfield 13, 3) := by decide +kernel
theorem dX6_stopTold_131 : decode cX6_stopTold 131 = .ok (.iload_n 1, 1) := by decide +kernel
theorem dX6_stopTold_132 : decode cX6_stopTold 132 = .ok (.iaload, 1) := by decide +kernel
theorem dX6_stopTold_133 : decode cX6_stopTold 133 = .ok (.iastore, 1) := by decide +kernel
theorem dX6_stopTold_134 : decode cX6_stopTold 134 = .ok (.dup, 1) := by decide +kernel
theorem dX6_stopTold_135 : decode cX6_stopTold 135 = .ok (.iconst 2, 1) := by decide +kernel
theorem dX6_stopTold_136 : decode cX6_stopTold 136 = .ok (.iload_n 3, 1) := by decide +kernel
theorem dX6_stopTold_137 : decode cX6_stopTold 137 = .ok (.iastore, 1) := by decide +kernel
theorem dX6_stopTold_138 : decode cX6_stopTold 138 = .ok (.dup, 1) := by decide +kernel
theorem dX6_stopTold_139 : decode cX6_stopTold 139 = .ok (.iconst 3, 1) := by decide +kernel
theorem dX6_stopTold_140 : decode cX6_stopTold 140 = .ok (.iload 4, 2) := by decide +kernel
theorem dX6_stopTold_142 : decode cX6_stopTold 142 = .ok (.iastore, 1) := by decide +kernel
theorem dX6_stopTold_143 : decode cX6_stopTold 143 = .ok (.dup, 1) := by decide +kernel
theorem dX6_stopTold_144 : decode cX6_stopTold 144 = .ok (.iconst 4, 1) := by decide +kernel
theorem dX6_stopTold_145 : decode cX6_stopTold 145 = .ok (.aload_n 0, 1) := by decide +kernel
theorem dX6_stopTold_146 : decode cX6_stopTold 146 = .ok (.getfield 24, 3) := by decide +kernel
theorem dX6_stopTold_149 : decode cX6_stopTold 149 = .ok (.getfield 31, 3) := by decide +kernel
theorem dX6_stopTold_152 : decode cX6_stopTold 152 = .ok (.iload_n 1, 1) := by decide +kernel
theorem dX6_stopTold_153 : decode cX6_stopTold 153 = .ok (.iaload, 1) := by decide +kernel
theorem dX6_stopTold_154 : decode cX6_stopTold 154 = .ok (.iastore, 1) := by decide +kernel
theorem dX6_stopTold_155 : decode cX6_stopTold 155 = .ok (.astore 5, 2) := by decide +kernel
theorem dX6_stopTold_157 : decode cX6_stopTold 157 = .ok (.aload 5, 2) := by decide +kernel
theorem dX6_stopTold_159 : decode cX6_stopTold 159 = .ok (.iload_n 2, 1) := by decide +kernel
theorem dX6_stopTold_160 : decode cX6_stopTold 160 = .ok (.iaload, 1) := by decide +kernel
theorem dX6_stopTold_161 : decode cX6_stopTold 161 = .ok (.ireturn, 1) := by decide +kernel
theorem dX6_stop_0 : decode cX6_stop 0 = .ok (.aload_n 0, 1) := by decide +kernel
theorem dX6_stop_1 : decode cX6_stop 1 = .ok (.iconst 0, 1) := by decide +kernel
theorem dX6_stop_2 : decode cX6_stop 2 = .ok (.putfield 34, 3) := by decide +kernel
theorem dX6_stop_5 : decode cX6_stop 5 = .ok (.iload_n 1, 1) := by decide +kernel
theorem dX6_stop_6 : decode cX6_stop 6 = .ok (.invokestatic 48, 3) := by decide +kernel
theorem dX6_stop_9 : decode cX6_stop 9 = .ok (.ifCond .eq 21, 3) := by decide +kernel
theorem dX6_stop_12 : decode cX6_stop 12 = .ok (.iload_n 2, 1) := by decide +kernel
theorem dX6_stop_13 : decode cX6_stop 13 = .ok (.iconst 0, 1) := by decide +kernel
theorem dX6_stop_14 : decode cX6_stop 14 = .ok (.iconst 4, 1) := by decide +kernel
theorem dX6_stop_15 : decode cX6_stop 15 = .ok (.invokestatic 38, 3) := by decide +kernel
theorem dX6_stop_18 : decode cX6_stop 18 = .ok (.ifCond .eq 12, 3) := by decide +kernel
theorem dX6_stop_21 : decode cX6_stop 21 = .ok (.aload_n 0, 1) := by decide +kernel
theorem dX6_stop_22 : decode cX6_stop 22 = .ok (.iload_n 1, 1) := by decide +kernel
theorem dX6_stop_23 : decode cX6_stop 23 = .ok (.iload_n 2, 1) := by decide +kernel
theorem dX6_stop_24 : decode cX6_stop 24 = .ok (.invokevirtual 117, 3) := by decide +kernel
theorem dX6_stop_27 : decode cX6_stop 27 = .ok (.goto 8, 3) := by decide +kernel
theorem dX6_stop_30 : decode cX6_stop 30 = .ok (.aload_n 0, 1) := by decide +kernel
theorem dX6_stop_31 : decode cX6_stop 31 = .ok (.iconst 1, 1) := by decide +kernel
theorem dX6_stop_32 : decode cX6_stop 32 = .ok (.invokevirtual 52, 3) := by decide +kernel
theorem dX6_stop_35 : decode cX6_stop 35 = .ok (.ireturn, 1) := by decide +kernel
theorem dX6_counted_0 : decode cX6_counted 0 = .ok (.bipush 10, 2) := by decide +kernel
theorem dX6_counted_2 : decode cX6_counted 2 = .ok (.newarray .int, 2) := by decide +kernel
theorem dX6_counted_4 : decode cX6_counted 4 = .ok (.dup, 1) := by decide +kernel
theorem dX6_counted_5 : decode cX6_counted 5 = .ok (.iconst 0, 1) := by decide +kernel
theorem dX6_counted_6 : decode cX6_counted 6 = .ok (.aload_n 0, 1) := by decide +kernel
theorem dX6_counted_7 : decode cX6_counted 7 = .ok (.getfield 24, 3) := by decide +kernel
theorem dX6_counted_10 : decode cX6_counted 10 = .ok (.getfield 86, 3) := by decide +kernel
theorem dX6_counted_13 : decode cX6_counted 13 = .ok (.iastore, 1) := by decide +kernel
theorem dX6_counted_14 : decode cX6_counted 14 = .ok (.dup, 1) := by decide +kernel
theorem dX6_counted_15 : decode cX6_counted 15 = .ok (.iconst 1, 1) := by decide +kernel
theorem dX6_counted_16 : decode cX6_counted 16 = .ok (.aload_n 0, 1) := by decide +kernel
theorem dX6_counted_17 : decode cX6_counted 17 = .ok (.getfield 24, 3) := by decide +kernel
theorem dX6_counted_20 : decode cX6_counted 20 = .ok (.getfield 56, 3) := by decide +kernel
theorem dX6_counted_23 : decode cX6_counted 23 = .ok (.iastore, 1) := by decide +kernel
theorem dX6_counted_24 : decode cX6_counted 24 = .ok (.dup, 1) := by decide +kernel
theorem dX6_counted_25 : decode cX6_counted 25 = .ok (.iconst 2, 1) := by decide +kernel
theorem dX6_counted_26 : decode cX6_counted 26 = .ok (.aload_n 0, 1) := by decide +kernel
theorem dX6_counted_27 : decode cX6_counted 27 = .ok (.getfield 42, 3) := by decide +kernel
theorem dX6_counted_30 : decode cX6_counted 30 = .ok (.iastore, 1) := by decide +kernel
theorem dX6_counted_31 : decode cX6_counted 31 = .ok (.dup, 1) := by decide +kernel
theorem dX6_counted_32 : decode cX6_counted 32 = .ok (.iconst 3, 1) := by decide +kernel
theorem dX6_counted_33 : decode cX6_counted 33 = .ok (.aload_n 0, 1) := by decide +kernel
theorem dX6_counted_34 : decode cX6_counted 34 = .ok (.getfield 45, 3) := by decide +kernel
theorem dX6_counted_37 : decode cX6_counted 37 = .ok (.iastore, 1) := by decide +kernel
theorem dX6_counted_38 : decode cX6_counted 38 = .ok (.dup, 1) := by decide +kernel
theorem dX6_counted_39 : decode cX6_counted 39 = .ok (.iconst 4, 1) := by decide +kernel
theorem dX6_counted_40 : decode cX6_counted 40 = .ok (.aload_n 0, 1) := by decide +kernel
theorem dX6_counted_41 : decode cX6_counted 41 = .ok (.getfield 24, 3) := by decide +kernel
theorem dX6_counted_44 : decode cX6_counted 44 = .ok (.iconst 0, 1) := by decide +kernel
theorem dX6_counted_45 : decode cX6_counted 45 = .ok (.invokevirtual 120, 3) := by decide +kernel
theorem dX6_counted_48 : decode cX6_counted 48 = .ok (.iastore, 1) := by decide +kernel
theorem dX6_counted_49 : decode cX6_counted 49 = .ok (.dup, 1) := by decide +kernel
theorem dX6_counted_50 : decode cX6_counted 50 = .ok (.iconst 5, 1) := by decide +kernel
theorem dX6_counted_51 : decode cX6_counted 51 = .ok (.aload_n 0, 1) := by decide +kernel
theorem dX6_counted_52 : decode cX6_counted 52 = .ok (.getfield 24, 3) := by decide +kernel
theorem dX6_counted_55 : decode cX6_counted 55 = .ok (.iconst 1, 1) := by decide +kernel
theorem dX6_counted_56 : decode cX6_counted 56 = .ok (.invokevirtual 120, 3) := by decide +kernel
theorem dX6_counted_59 : decode cX6_counted 59 = .ok (.iastore, 1) := by decide +kernel
theorem dX6_counted_60 : decode cX6_counted 60 = .ok (.dup, 1) := by decide +kernel
theorem dX6_counted_61 : decode cX6_counted 61 = .ok (.bipush 6, 2) := by decide +kernel
theorem dX6_counted_63 : decode cX6_counted 63 = .ok (.aload_n 0, 1) := by decide +kernel
theorem dX6_counted_64 : decode cX6_counted 64 = .ok (.getfield 24, 3) := by decide +kernel
theorem dX6_counted_67 : decode cX6_counted 67 = .ok (.iconst 2, 1) := by decide +kernel
theorem dX6_counted_68 : decode cX6_counted 68 = .ok (.invokevirtual 120, 3) := by decide +kernel
theorem dX6_counted_71 : decode cX6_counted 71 = .ok (.iastore, 1) := by decide +kernel
theorem dX6_counted_72 : decode cX6_counted 72 = .ok (.dup, 1) := by decide +kernel
theorem dX6_counted_73 : decode cX6_counted 73 = .ok (.bipush 7, 2) := by decide +kernel
theorem dX6_counted_75 : decode cX6_counted 75 = .ok (.aload_n 0, 1) := by decide +kernel
theorem dX6_counted_76 : decode cX6_counted 76 = .ok (.getfield 24, 3) := by decide +kernel
theorem dX6_counted_79 : decode cX6_counted 79 = .ok (.aload_n 0, 1) := by decide +kernel
theorem dX6_counted_80 : decode cX6_counted 80 = .ok (.getfield 24, 3) := by decide +kernel
theorem dX6_counted_83 : decode cX6_counted 83 = .ok (.getfield 108, 3) := by decide +kernel
theorem dX6_counted_86 : decode cX6_counted 86 = .ok (.invokevirtual 123, 3) := by decide +kernel
theorem dX6_counted_89 : decode cX6_counted 89 = .ok (.iastore, 1) := by decide +kernel
theorem dX6_counted_90 : decode cX6_counted 90 = .ok (.dup, 1) := by decide +kernel
theorem dX6_counted_91 : decode cX6_counted 91 = .ok (.bipush 8, 2) := by decide +kernel
theorem dX6_counted_93 : decode cX6_counted 93 = .ok (.aload_n 0, 1) := by decide +kernel
theorem dX6_counted_94 : decode cX6_counted 94 = .ok (.getfield 24, 3) := by decide +kernel
theorem dX6_counted_97 : decode cX6_counted 97 = .ok (.aload_n 0, 1) := by decide +kernel
theorem dX6_counted_98 : decode cX6_counted 98 = .ok (.getfield 24, 3) := by decide +kernel
theorem dX6_counted_101 : decode cX6_counted 101 = .ok (.getfield 111, 3) := by decide +kernel
theorem dX6_counted_104 : decode cX6_counted 104 = .ok (.invokevirtual 123, 3) := by decide +kernel
theorem dX6_counted_107 : decode cX6_counted 107 = .ok (.iastore, 1) := by decide +kernel
theorem dX6_counted_108 : decode cX6_counted 108 = .ok (.dup, 1) := by decide +kernel
theorem dX6_counted_109 : decode cX6_counted 109 = .ok (.bipush 9, 2) := by decide +kernel
theorem dX6_counted_111 : decode cX6_counted 111 = .ok (.aload_n 0, 1) := by decide +kernel
theorem dX6_counted_112 : decode cX6_counted 112 = .ok (.getfield 24, 3) := by decide +kernel
theorem dX6_counted_115 : decode cX6_counted 115 = .ok (.invokevirtual 127, 3) := by decide +kernel
theorem dX6_counted_118 : decode cX6_counted 118 = .ok (.iastore, 1) := by decide +kernel
theorem dX6_counted_119 : decode cX6_counted 119 = .ok (.astore_n 2, 1) := by decide +kernel
theorem dX6_counted_120 : decode cX6_counted 120 = .ok (.aload_n 2, 1) := by decide +kernel
theorem dX6_counted_121 : decode cX6_counted 121 = .ok (.iload_n 1, 1) := by decide +kernel
theorem dX6_counted_122 : decode cX6_counted 122 = .ok (.iaload, 1) := by decide +kernel
theorem dX6_counted_123 : decode cX6_counted 123 = .ok (.ireturn, 1) := by decide +kernel
theorem dX6_count_0 : decode cX6_count 0 = .ok (.aload_n 0, 1) := by decide +kernel
theorem dX6_count_1 : decode cX6_count 1 = .ok (.iconst 0, 1) := by decide +kernel
theorem dX6_count_2 : decode cX6_count 2 = .ok (.putfield 34, 3) := by decide +kernel
theorem dX6_count_5 : decode cX6_count 5 = .ok (.iload_n 1, 1) := by decide +kernel
theorem dX6_count_6 : decode cX6_count 6 = .ok (.iconst 0, 1) := by decide +kernel
theorem dX6_count_7 : decode cX6_count 7 = .ok (.bipush 9, 2) := by decide +kernel
theorem dX6_count_9 : decode cX6_count 9 = .ok (.invokestatic 38, 3) := by decide +kernel
theorem dX6_count_12 : decode cX6_count 12 = .ok (.ifCond .eq 11, 3) := by decide +kernel
theorem dX6_count_15 : decode cX6_count 15 = .ok (.aload_n 0, 1) := by decide +kernel
theorem dX6_count_16 : decode cX6_count 16 = .ok (.iload_n 1, 1) := by decide +kernel
theorem dX6_count_17 : decode cX6_count 17 = .ok (.invokevirtual 131, 3) := by decide +kernel
theorem dX6_count_20 : decode cX6_count 20 = .ok (.goto 8, 3) := by decide +kernel
theorem dX6_count_23 : decode cX6_count 23 = .ok (.aload_n 0, 1) := by decide +kernel
theorem dX6_count_24 : decode cX6_count 24 = .ok (.iconst 1, 1) := by decide +kernel
theorem dX6_count_25 : decode cX6_count 25 = .ok (.invokevirtual 52, 3) := by decide +kernel
theorem dX6_count_28 : decode cX6_count 28 = .ok (.ireturn, 1) := by decide +kernel
theorem dX6_go_0 : decode cX6_go 0 = .ok (.aload_n 0, 1) := by decide +kernel
theorem dX6_go_1 : decode cX6_go 1 = .ok (.iconst 0, 1) := by decide +kernel
theorem dX6_go_2 : decode cX6_go 2 = .ok (.putfield 34, 3) := by decide +kernel
theorem dX6_go_5 : decode cX6_go 5 = .ok (.iload_n 1, 1) := by decide +kernel
theorem dX6_go_6 : decode cX6_go 6 = .ok (.iconst 1, 1) := by decide +kernel
theorem dX6_go_7 : decode cX6_go 7 = .ok (.bipush 120, 2) := by decide +kernel
theorem dX6_go_9 : decode cX6_go 9 = .ok (.invokestatic 38, 3) := by decide +kernel
theorem dX6_go_12 : decode cX6_go 12 = .ok (.ifCond .eq 14, 3) := by decide +kernel
theorem dX6_go_15 : decode cX6_go 15 = .ok (.aload_n 0, 1) := by decide +kernel
theorem dX6_go_16 : decode cX6_go 16 = .ok (.getfield 24, 3) := by decide +kernel
theorem dX6_go_19 : decode cX6_go 19 = .ok (.iload_n 1, 1) := by decide +kernel
theorem dX6_go_20 : decode cX6_go 20 = .ok (.invokevirtual 134, 3) := by decide +kernel
theorem dX6_go_23 : decode cX6_go 23 = .ok (.goto 8, 3) := by decide +kernel
theorem dX6_go_26 : decode cX6_go 26 = .ok (.aload_n 0, 1) := by decide +kernel
theorem dX6_go_27 : decode cX6_go 27 = .ok (.iconst 1, 1) := by decide +kernel
theorem dX6_go_28 : decode cX6_go 28 = .ok (.invokevirtual 52, 3) := by decide +kernel
theorem dX6_go_31 : decode cX6_go 31 = .ok (.ireturn, 1) := by decide +kernel
theorem dX6_arrives_0 : decode cX6_arrives 0 = .ok (.aload_n 0, 1) := by decide +kernel
theorem dX6_arrives_1 : decode cX6_arrives 1 = .ok (.iconst 0, 1) := by decide +kernel
theorem dX6_arrives_2 : decode cX6_arrives 2 = .ok (.putfield 34, 3) := by decide +kernel
theorem dX6_arrives_5 : decode cX6_arrives 5 = .ok (.aload_n 0, 1) := by decide +kernel
theorem dX6_arrives_6 : decode cX6_arrives 6 = .ok (.iload_n 1, 1) := by decide +kernel
theorem dX6_arrives_7 : decode cX6_arrives 7 = .ok (.invokevirtual 77, 3) := by decide +kernel
theorem dX6_arrives_10 : decode cX6_arrives 10 = .ok (.ifCond .ne 9, 3) := by decide +kernel
theorem dX6_arrives_13 : decode cX6_arrives 13 = .ok (.aload_n 0, 1) := by decide +kernel
theorem dX6_arrives_14 : decode cX6_arrives 14 = .ok (.iconst 1, 1) := by decide +kernel
theorem dX6_arrives_15 : decode cX6_arrives 15 = .ok (.invokevirtual 52, 3) := by decide +kernel
theorem dX6_arrives_18 : decode cX6_arrives 18 = .ok (.ireturn, 1) := by decide +kernel
theorem dX6_arrives_19 : decode cX6_arrives 19 = .ok (.aload_n 0, 1) := by decide +kernel
theorem dX6_arrives_20 : decode cX6_arrives 20 = .ok (.getfield 28, 3) := by decide +kernel
theorem dX6_arrives_23 : decode cX6_arrives 23 = .ok (.aload_n 0, 1) := by decide +kernel
theorem dX6_arrives_24 : decode cX6_arrives 24 = .ok (.getfield 24, 3) := by decide +kernel
theorem dX6_arrives_27 : decode cX6_arrives 27 = .ok (.invokevirtual 137, 3) := by decide +kernel
theorem dX6_arrives_30 : decode cX6_arrives 30 = .ok (.iconst 0, 1) := by decide +kernel
theorem dX6_arrives_31 : decode cX6_arrives 31 = .ok (.istore_n 2, 1) := by decide +kernel
theorem dX6_arrives_32 : decode cX6_arrives 32 = .ok (.iload_n 2, 1) := by decide +kernel
theorem dX6_arrives_33 : decode cX6_arrives 33 = .ok (.sipush 200, 3) := by decide +kernel
theorem dX6_arrives_36 : decode cX6_arrives 36 = .ok (.if_icmp .gt 32, 3) := by decide +kernel
theorem dX6_arrives_39 : decode cX6_arrives 39 = .ok (.aload_n 0, 1) := by decide +kernel
theorem dX6_arrives_40 : decode cX6_arrives 40 = .ok (.getfield 28, 3) := by decide +kernel
theorem dX6_arrives_43 : decode cX6_arrives 43 = .ok (.getfield 80, 3) := by decide +kernel
theorem dX6_arrives_46 : decode cX6_arrives 46 = .ok (.iload_n 1, 1) := by decide +kernel
theorem dX6_arrives_47 : decode cX6_arrives 47 = .ok (.iaload, 1) := by decide +kernel
theorem dX6_arrives_48 : decode cX6_arrives 48 = .ok (.iconst 2, 1) := by decide +kernel
theorem dX6_arrives_49 : decode cX6_arrives 49 = .ok (.if_icmp .ne 5, 3) := by decide +kernel
theorem dX6_arrives_52 : decode cX6_arrives 52 = .ok (.iload_n 2, 1) := by decide +kernel
theorem dX6_arrives_53 : decode cX6_arrives 53 = .ok (.ireturn, 1) := by decide +kernel
theorem dX6_arrives_54 : decode cX6_arrives 54 = .ok (.aload_n 0, 1) := by decide +kernel
theorem dX6_arrives_55 : decode cX6_arrives 55 = .ok (.getfield 28, 3) := by decide +kernel
theorem dX6_arrives_58 : decode cX6_arrives 58 = .ok (.invokevirtual 141, 3) := by decide +kernel
theorem dX6_arrives_61 : decode cX6_arrives 61 = .ok (.pop, 1) := by decide +kernel
theorem dX6_arrives_62 : decode cX6_arrives 62 = .ok (.iinc 2 1, 3) := by decide +kernel
theorem dX6_arrives_65 : decode cX6_arrives 65 = .ok (.goto (-33), 3) := by decide +kernel
theorem dX6_arrives_68 : decode cX6_arrives 68 = .ok (.iconst (-1), 1) := by decide +kernel
theorem dX6_arrives_69 : decode cX6_arrives 69 = .ok (.ireturn, 1) := by decide +kernel
theorem dX6_foresee_0 : decode cX6_foresee 0 = .ok (.aload_n 0, 1) := by decide +kernel
theorem dX6_foresee_1 : decode cX6_foresee 1 = .ok (.iconst 0, 1) := by decide +kernel
theorem dX6_foresee_2 : decode cX6_foresee 2 = .ok (.putfield 34, 3) := by decide +kernel
theorem dX6_foresee_5 : decode cX6_foresee 5 = .ok (.iload_n 1, 1) := by decide +kernel
theorem dX6_foresee_6 : decode cX6_foresee 6 = .ok (.iconst 1, 1) := by decide +kernel
theorem dX6_foresee_7 : decode cX6_foresee 7 = .ok (.bipush 120, 2) := by decide +kernel
theorem dX6_foresee_9 : decode cX6_foresee 9 = .ok (.invokestatic 38, 3) := by decide +kernel
theorem dX6_foresee_12 : decode cX6_foresee 12 = .ok (.ifCond .ne 9, 3) := by decide +kernel
theorem dX6_foresee_15 : decode cX6_foresee 15 = .ok (.aload_n 0, 1) := by decide +kernel
theorem dX6_foresee_16 : decode cX6_foresee 16 = .ok (.iconst 1, 1) := by decide +kernel
theorem dX6_foresee_17 : decode cX6_foresee 17 = .ok (.invokevirtual 52, 3) := by decide +kernel
theorem dX6_foresee_20 : decode cX6_foresee 20 = .ok (.ireturn, 1) := by decide +kernel
theorem dX6_foresee_21 : decode cX6_foresee 21 = .ok (.iload_n 2, 1) := by decide +kernel
theorem dX6_foresee_22 : decode cX6_foresee 22 = .ok (.iconst 0, 1) := by decide +kernel
theorem dX6_foresee_23 : decode cX6_foresee 23 = .ok (.iconst 3, 1) := by decide +kernel
theorem dX6_foresee_24 : decode cX6_foresee 24 = .ok (.invokestatic 38, 3) := by decide +kernel
theorem dX6_foresee_27 : decode cX6_foresee 27 = .ok (.ifCond .ne 9, 3) := by decide +kernel
theorem dX6_foresee_30 : decode cX6_foresee 30 = .ok (.aload_n 0, 1) := by decide +kernel
theorem dX6_foresee_31 : decode cX6_foresee 31 = .ok (.iconst 2, 1) := by decide +kernel
theorem dX6_foresee_32 : decode cX6_foresee 32 = .ok (.invokevirtual 52, 3) := by decide +kernel
theorem dX6_foresee_35 : decode cX6_foresee 35 = .ok (.ireturn, 1) := by decide +kernel
theorem dX6_foresee_36 : decode cX6_foresee 36 = .ok (.aload_n 0, 1) := by decide +kernel
theorem dX6_foresee_37 : decode cX6_foresee 37 = .ok (.getfield 28, 3) := by decide +kernel
theorem dX6_foresee_40 : decode cX6_foresee 40 = .ok (.aload_n 0, 1) := by decide +kernel
theorem dX6_foresee_41 : decode cX6_foresee 41 = .ok (.getfield 24, 3) := by decide +kernel
theorem dX6_foresee_44 : decode cX6_foresee 44 = .ok (.invokevirtual 137, 3) := by decide +kernel
theorem dX6_foresee_47 : decode cX6_foresee 47 = .ok (.aload_n 0, 1) := by decide +kernel
theorem dX6_foresee_48 : decode cX6_foresee 48 = .ok (.getfield 28, 3) := by decide +kernel
theorem dX6_foresee_51 : decode cX6_foresee 51 = .ok (.iload_n 1, 1) := by decide +kernel
theorem dX6_foresee_52 : decode cX6_foresee 52 = .ok (.invokevirtual 134, 3) := by decide +kernel
theorem dX6_foresee_55 : decode cX6_foresee 55 = .ok (.istore_n 3, 1) := by decide +kernel
theorem dX6_foresee_56 : decode cX6_foresee 56 = .ok (.iload_n 2, 1) := by decide +kernel
theorem dX6_foresee_57 : decode cX6_foresee 57 = .ok (.ifCond .ne 5, 3) := by decide +kernel
theorem dX6_foresee_60 : decode cX6_foresee 60 = .ok (.iload_n 3, 1) := by decide +kernel
theorem dX6_foresee_61 : decode cX6_foresee 61 = .ok (.ireturn, 1) := by decide +kernel
theorem dX6_foresee_62 : decode cX6_foresee 62 = .ok (.iload_n 2, 1) := by decide +kernel
theorem dX6_foresee_63 : decode cX6_foresee 63 = .ok (.iconst 1, 1) := by decide +kernel
theorem dX6_foresee_64 : decode cX6_foresee 64 = .ok (.if_icmp .ne 35, 3) := by decide +kernel
theorem dX6_foresee_67 : decode cX6_foresee 67 = .ok (.aload_n 0, 1) := by decide +kernel
theorem dX6_foresee_68 : decode cX6_foresee 68 = .ok (.getfield 28, 3) := by decide +kernel
theorem dX6_foresee_71 : decode cX6_foresee 71 = .ok (.aload_n 0, 1) := by decide +kernel
theorem dX6_foresee_72 : decode cX6_foresee 72 = .ok (.getfield 28, 3) := by decide +kernel
theorem dX6_foresee_75 : decode cX6_foresee 75 = .ok (.getfield 108, 3) := by decide +kernel
theorem dX6_foresee_78 : decode cX6_foresee 78 = .ok (.invokevirtual 123, 3) := by decide +kernel
theorem dX6_foresee_81 : decode cX6_foresee 81 = .ok (.aload_n 0, 1) := by decide +kernel
theorem dX6_foresee_82 : decode cX6_foresee 82 = .ok (.getfield 24, 3) := by decide +kernel
theorem dX6_foresee_85 : decode cX6_foresee 85 = .ok (.aload_n 0, 1) := by decide +kernel
theorem dX6_foresee_86 : decode cX6_foresee 86 = .ok (.getfield 24, 3) := by decide +kernel
theorem dX6_foresee_89 : decode cX6_foresee 89 = .ok (.getfield 108, 3) := by decide +kernel
theorem dX6_foresee_92 : decode cX6_foresee 92 = .ok (.invokevirtual 123, 3) := by decide +kernel
theorem dX6_foresee_95 : decode cX6_foresee 95 = .ok (.isub, 1) := by decide +kernel
theorem dX6_foresee_96 : decode cX6_foresee 96 = .ok (.goto 47, 3) := by decide +kernel
theorem dX6_foresee_99 : decode cX6_foresee 99 = .ok (.iload_n 2, 1) := by decide +kernel
theorem dX6_foresee_100 : decode cX6_foresee 100 = .ok (.iconst 2, 1) := by decide +kernel
theorem dX6_foresee_101 : decode cX6_foresee 101 = .ok (.if_icmp .ne 35, 3) := by decide +kernel
theorem dX6_foresee_104 : decode cX6_foresee 104 = .ok (.aload_n 0, 1) := by decide +kernel
theorem dX6_foresee_105 : decode cX6_foresee 105 = .ok (.getfield 28, 3) := by decide +kernel
theorem dX6_foresee_108 : decode cX6_foresee 108 = .ok (.aload_n 0, 1) := by decide +kernel
theorem dX6_foresee_109 : decode cX6_foresee 109 = .ok (.getfield 28, 3) := by decide +kernel
theorem dX6_foresee_112 : decode cX6_foresee 112 = .ok (.getfield 111, 3) := by decide +kernel
theorem dX6_foresee_115 : decode cX6_foresee 115 = .ok (.invokevirtual 123, 3) := by decide +kernel
theorem dX6_foresee_118 : decode cX6_foresee 118 = .ok (.aload_n 0, 1) := by decide +kernel
theorem dX6_foresee_119 : decode cX6_foresee 119 = .ok (.getfield 24, 3) := by decide +kernel
theorem dX6_foresee_122 : decode cX6_foresee 122 = .ok (.aload_n 0, 1) := by decide +kernel
theorem dX6_foresee_123 : decode cX6_foresee 123 = .ok (.getfield 24, 3) := by decide +kernel
theorem dX6_foresee_126 : decode cX6_foresee 126 = .ok (.getfield 111, 3) := by decide +kernel
theorem dX6_foresee_129 : decode cX6_foresee 129 = .ok (.invokevirtual 123, 3) := by decide +kernel
theorem dX6_foresee_132 : decode cX6_foresee 132 = .ok (.isub, 1) := by decide +kernel
theorem dX6_foresee_133 : decode cX6_foresee 133 = .ok (.goto 10, 3) := by decide +kernel
theorem dX6_foresee_136 : decode cX6_foresee 136 = .ok (.aload_n 0, 1) := by decide +kernel
theorem dX6_foresee_137 : decode cX6_foresee 137 = .ok (.getfield 28, 3) := by decide +kernel
theorem dX6_foresee_140 : decode cX6_foresee 140 = .ok (.invokevirtual 127, 3) := by decide +kernel
theorem dX6_foresee_143 : decode cX6_foresee 143 = .ok (.ireturn, 1) := by decide +kernel
theorem dX6_advise_0 : decode cX6_advise 0 = .ok (.aload_n 0, 1) := by decide +kernel
theorem dX6_advise_1 : decode cX6_advise 1 = .ok (.iconst 0, 1) := by decide +kernel
theorem dX6_advise_2 : decode cX6_advise 2 = .ok (.putfield 34, 3) := by decide +kernel
theorem dX6_advise_5 : decode cX6_advise 5 = .ok (.iload_n 1, 1) := by decide +kernel
theorem dX6_advise_6 : decode cX6_advise 6 = .ok (.iconst 1, 1) := by decide +kernel
theorem dX6_advise_7 : decode cX6_advise 7 = .ok (.bipush 120, 2) := by decide +kernel
theorem dX6_advise_9 : decode cX6_advise 9 = .ok (.invokestatic 38, 3) := by decide +kernel
theorem dX6_advise_12 : decode cX6_advise 12 = .ok (.ifCond .ne 9, 3) := by decide +kernel
theorem dX6_advise_15 : decode cX6_advise 15 = .ok (.aload_n 0, 1) := by decide +kernel
theorem dX6_advise_16 : decode cX6_advise 16 = .ok (.iconst 1, 1) := by decide +kernel
theorem dX6_advise_17 : decode cX6_advise 17 = .ok (.invokevirtual 52, 3) := by decide +kernel
theorem dX6_advise_20 : decode cX6_advise 20 = .ok (.ireturn, 1) := by decide +kernel
theorem dX6_advise_21 : decode cX6_advise 21 = .ok (.iconst (-1), 1) := by decide +kernel
theorem dX6_advise_22 : decode cX6_advise 22 = .ok (.istore_n 2, 1) := by decide +kernel
theorem dX6_advise_23 : decode cX6_advise 23 = .ok (.iconst 0, 1) := by decide +kernel
theorem dX6_advise_24 : decode cX6_advise 24 = .ok (.istore_n 3, 1) := by decide +kernel
theorem dX6_advise_25 : decode cX6_advise 25 = .ok (.iconst 0, 1) := by decide +kernel
theorem dX6_advise_26 : decode cX6_advise 26 = .ok (.istore 4, 2) := by decide +kernel
theorem dX6_advise_28 : decode cX6_advise 28 = .ok (.iload 4, 2) := by decide +kernel
theorem dX6_advise_30 : decode cX6_advise 30 = .ok (.bipush 15, 2) := by decide +kernel
theorem dX6_advise_32 : decode cX6_advise 32 = .ok (.if_icmp .gt 74, 3) := by decide +kernel
theorem dX6_advise_35 : decode cX6_advise 35 = .ok (.aload_n 0, 1) := by decide +kernel
theorem dX6_advise_36 : decode cX6_advise 36 = .ok (.getfield 28, 3) := by decide +kernel
theorem dX6_advise_39 : decode cX6_advise 39 = .ok (.aload_n 0, 1) := by decide +kernel
theorem dX6_advise_40 : decode cX6_advise 40 = .ok (.getfield 24, 3) := by decide +kernel
theorem dX6_advise_43 : decode cX6_advise 43 = .ok (.invokevirtual 137, 3) := by decide +kernel
theorem dX6_advise_46 : decode cX6_advise 46 = .ok (.aload_n 0, 1) := by decide +kernel
theorem dX6_advise_47 : decode cX6_advise 47 = .ok (.getfield 28, 3) := by decide +kernel
theorem dX6_advise_50 : decode cX6_advise 50 = .ok (.iload 4, 2) := by decide +kernel
theorem dX6_advise_52 : decode cX6_advise 52 = .ok (.putfield 56, 3) := by decide +kernel
theorem dX6_advise_55 : decode cX6_advise 55 = .ok (.aload_n 0, 1) := by decide +kernel
theorem dX6_advise_56 : decode cX6_advise 56 = .ok (.getfield 28, 3) := by decide +kernel
theorem dX6_advise_59 : decode cX6_advise 59 = .ok (.iload_n 1, 1) := by decide +kernel
theorem dX6_advise_60 : decode cX6_advise 60 = .ok (.invokevirtual 134, 3) := by decide +kernel
theorem dX6_advise_63 : decode cX6_advise 63 = .ok (.pop, 1) := by decide +kernel
theorem dX6_advise_64 : decode cX6_advise 64 = .ok (.aload_n 0, 1) := by decide +kernel
theorem dX6_advise_65 : decode cX6_advise 65 = .ok (.getfield 28, 3) := by decide +kernel
theorem dX6_advise_68 : decode cX6_advise 68 = .ok (.aload_n 0, 1) := by decide +kernel
theorem dX6_advise_69 : decode cX6_advise 69 = .ok (.getfield 28, 3) := by decide +kernel
theorem dX6_advise_72 : decode cX6_advise 72 = .ok (.getfield 111, 3) := by decide +kernel
theorem dX6_advise_75 : decode cX6_advise 75 = .ok (.invokevirtual 123, 3) := by decide +kernel
theorem dX6_advise_78 : decode cX6_advise 78 = .ok (.istore 5, 2) := by decide +kernel
theorem dX6_advise_80 : decode cX6_advise 80 = .ok (.iload_n 2, 1) := by decide +kernel
theorem dX6_advise_81 : decode cX6_advise 81 = .ok (.iconst (-1), 1) := by decide +kernel
theorem dX6_advise_82 : decode cX6_advise 82 = .ok (.if_icmp .eq 12, 3) := by decide +kernel
theorem dX6_advise_85 : decode cX6_advise 85 = .ok (.iload 5, 2) := by decide +kernel
theorem dX6_advise_87 : decode cX6_advise 87 = .ok (.iload_n 3, 1) := by decide +kernel
theorem dX6_advise_88 : decode cX6_advise 88 = .ok (.if_icmp .lt 6, 3) := by decide +kernel
theorem dX6_advise_91 : decode cX6_advise 91 = .ok (.goto 9, 3) := by decide +kernel
theorem dX6_advise_94 : decode cX6_advise 94 = .ok (.iload 4, 2) := by decide +kernel
theorem dX6_advise_96 : decode cX6_advise 96 = .ok (.istore_n 2, 1) := by decide +kernel
theorem dX6_advise_97 : decode cX6_advise 97 = .ok (.iload 5, 2) := by decide +kernel
theorem dX6_advise_99 : decode cX6_advise 99 = .ok (.istore_n 3, 1) := by decide +kernel
theorem dX6_advise_100 : decode cX6_advise 100 = .ok (.iinc 4 1, 3) := by decide +kernel
theorem dX6_advise_103 : decode cX6_advise 103 = .ok (.goto (-75), 3) := by decide +kernel
theorem dX6_advise_106 : decode cX6_advise 106 = .ok (.iload_n 2, 1) := by decide +kernel
theorem dX6_advise_107 : decode cX6_advise 107 = .ok (.ireturn, 1) := by decide +kernel
theorem dX6_mean_0 : decode cX6_mean 0 = .ok (.aload_n 0, 1) := by decide +kernel
theorem dX6_mean_1 : decode cX6_mean 1 = .ok (.iconst 0, 1) := by decide +kernel
theorem dX6_mean_2 : decode cX6_mean 2 = .ok (.putfield 34, 3) := by decide +kernel
theorem dX6_mean_5 : decode cX6_mean 5 = .ok (.aload_n 0, 1) := by decide +kernel
theorem dX6_mean_6 : decode cX6_mean 6 = .ok (.getfield 45, 3) := by decide +kernel
theorem dX6_mean_9 : decode cX6_mean 9 = .ok (.ifCond .ne 7, 3) := by decide +kernel
theorem dX6_mean_12 : decode cX6_mean 12 = .ok (.dconst 0, 1) := by decide +kernel
theorem dX6_mean_13 : decode cX6_mean 13 = .ok (.goto 24, 3) := by decide +kernel
theorem dX6_mean_16 : decode cX6_mean 16 = .ok (.aload_n 0, 1) := by decide +kernel
theorem dX6_mean_17 : decode cX6_mean 17 = .ok (.getfield 24, 3) := by decide +kernel
theorem dX6_mean_20 : decode cX6_mean 20 = .ok (.aload_n 0, 1) := by decide +kernel
theorem dX6_mean_21 : decode cX6_mean 21 = .ok (.getfield 24, 3) := by decide +kernel
theorem dX6_mean_24 : decode cX6_mean 24 = .ok (.getfield 111, 3) := by decide +kernel
theorem dX6_mean_27 : decode cX6_mean 27 = .ok (.invokevirtual 123, 3) := by decide +kernel
theorem dX6_mean_30 : decode cX6_mean 30 = .ok (.i2d, 1) := by decide +kernel
theorem dX6_mean_31 : decode cX6_mean 31 = .ok (.aload_n 0, 1) := by decide +kernel
theorem dX6_mean_32 : decode cX6_mean 32 = .ok (.getfield 45, 3) := by decide +kernel
theorem dX6_mean_35 : decode cX6_mean 35 = .ok (.i2d, 1) := by decide +kernel
theorem dX6_mean_36 : decode cX6_mean 36 = .ok (.ddiv, 1) := by decide +kernel
theorem dX6_mean_37 : decode cX6_mean 37 = .ok (.dreturn, 1) := by decide +kernel
theorem dX6_digest_0 : decode cX6_digest 0 = .ok (.aload_n 0, 1) := by decide +kernel
theorem dX6_digest_1 : decode cX6_digest 1 = .ok (.iconst 0, 1) := by decide +kernel
theorem dX6_digest_2 : decode cX6_digest 2 = .ok (.putfield 34, 3) := by decide +kernel
theorem dX6_digest_5 : decode cX6_digest 5 = .ok (.ldc2_w 143, 3) := by decide +kernel
theorem dX6_digest_8 : decode cX6_digest 8 = .ok (.lstore_n 1, 1) := by decide +kernel
theorem dX6_digest_9 : decode cX6_digest 9 = .ok (.iconst 0, 1) := by decide +kernel
theorem dX6_digest_10 : decode cX6_digest 10 = .ok (.istore_n 3, 1) := by decide +kernel
theorem dX6_digest_11 : decode cX6_digest 11 = .ok (.iload_n 3, 1) := by decide +kernel
theorem dX6_digest_12 : decode cX6_digest 12 = .ok (.bipush 9, 2) := by decide +kernel
theorem dX6_digest_14 : decode cX6_digest 14 = .ok (.if_icmp .gt 22, 3) := by decide +kernel
theorem dX6_digest_17 : decode cX6_digest 17 = .ok (.lload_n 1, 1) := by decide +kernel
theorem dX6_digest_18 : decode cX6_digest 18 = .ok (.ldc2_w 145, 3) := by decide +kernel
theorem dX6_digest_21 : decode cX6_digest 21 = .ok (.lmul, 1) := by decide +kernel
theorem dX6_digest_22 : decode cX6_digest 22 = .ok (.aload_n 0, 1) := by decide +kernel
theorem dX6_digest_23 : decode cX6_digest 23 = .ok (.iload_n 3, 1) := by decide +kernel
theorem dX6_digest_24 : decode cX6_digest 24 = .ok (.invokevirtual 131, 3) := by decide +kernel
theorem dX6_digest_27 : decode cX6_digest 27 = .ok (.i2l, 1) := by decide +kernel
theorem dX6_digest_28 : decode cX6_digest 28 = .ok (.ladd, 1) := by decide +kernel
theorem dX6_digest_29 : decode cX6_digest 29 = .ok (.lstore_n 1, 1) := by decide +kernel
theorem dX6_digest_30 : decode cX6_digest 30 = .ok (.iinc 3 1, 3) := by decide +kernel
theorem dX6_digest_33 : decode cX6_digest 33 = .ok (.goto (-22), 3) := by decide +kernel
theorem dX6_digest_36 : decode cX6_digest 36 = .ok (.iconst 0, 1) := by decide +kernel
theorem dX6_digest_37 : decode cX6_digest 37 = .ok (.istore_n 3, 1) := by decide +kernel
theorem dX6_digest_38 : decode cX6_digest 38 = .ok (.iload_n 3, 1) := by decide +kernel
theorem dX6_digest_39 : decode cX6_digest 39 = .ok (.bipush 10, 2) := by decide +kernel
theorem dX6_digest_41 : decode cX6_digest 41 = .ok (.if_icmp .ge 39, 3) := by decide +kernel
theorem dX6_digest_44 : decode cX6_digest 44 = .ok (.iconst 0, 1) := by decide +kernel
theorem dX6_digest_45 : decode cX6_digest 45 = .ok (.istore 4, 2) := by decide +kernel
theorem dX6_digest_47 : decode cX6_digest 47 = .ok (.iload 4, 2) := by decide +kernel
theorem dX6_digest_49 : decode cX6_digest 49 = .ok (.iconst 4, 1) := by decide +kernel
theorem dX6_digest_50 : decode cX6_digest 50 = .ok (.if_icmp .gt 24, 3) := by decide +kernel
theorem dX6_digest_53 : decode cX6_digest 53 = .ok (.lload_n 1, 1) := by decide +kernel
theorem dX6_digest_54 : decode cX6_digest 54 = .ok (.ldc2_w 145, 3) := by decide +kernel
theorem dX6_digest_57 : decode cX6_digest 57 = .ok (.lmul, 1) := by decide +kernel
theorem dX6_digest_58 : decode cX6_digest 58 = .ok (.aload_n 0, 1) := by decide +kernel
theorem dX6_digest_59 : decode cX6_digest 59 = .ok (.iload_n 3, 1) := by decide +kernel
theorem dX6_digest_60 : decode cX6_digest 60 = .ok (.iload 4, 2) := by decide +kernel
theorem dX6_digest_62 : decode cX6_digest 62 = .ok (.invokevirtual 117, 3) := by decide +kernel
theorem dX6_digest_65 : decode cX6_digest 65 = .ok (.i2l, 1) := by decide +kernel
theorem dX6_digest_66 : decode cX6_digest 66 = .ok (.ladd, 1) := by decide +kernel
theorem dX6_digest_67 : decode cX6_digest 67 = .ok (.lstore_n 1, 1) := by decide +kernel
theorem dX6_digest_68 : decode cX6_digest 68 = .ok (.iinc 4 1, 3) := by decide +kernel
theorem dX6_digest_71 : decode cX6_digest 71 = .ok (.goto (-24), 3) := by decide +kernel
theorem dX6_digest_74 : decode cX6_digest 74 = .ok (.iinc 3 1, 3) := by decide +kernel
theorem dX6_digest_77 : decode cX6_digest 77 = .ok (.goto (-39), 3) := by decide +kernel
theorem dX6_digest_80 : decode cX6_digest 80 = .ok (.iconst 0, 1) := by decide +kernel
theorem dX6_digest_81 : decode cX6_digest 81 = .ok (.istore_n 3, 1) := by decide +kernel
theorem dX6_digest_82 : decode cX6_digest 82 = .ok (.iload_n 3, 1) := by decide +kernel
theorem dX6_digest_83 : decode cX6_digest 83 = .ok (.aload_n 0, 1) := by decide +kernel
theorem dX6_digest_84 : decode cX6_digest 84 = .ok (.getfield 42, 3) := by decide +kernel
theorem dX6_digest_87 : decode cX6_digest 87 = .ok (.if_icmp .ge 39, 3) := by decide +kernel
theorem dX6_digest_90 : decode cX6_digest 90 = .ok (.iconst 0, 1) := by decide +kernel
theorem dX6_digest_91 : decode cX6_digest 91 = .ok (.istore 4, 2) := by decide +kernel
theorem dX6_digest_93 : decode cX6_digest 93 = .ok (.iload 4, 2) := by decide +kernel
theorem dX6_digest_95 : decode cX6_digest 95 = .ok (.iconst 5, 1) := by decide +kernel
theorem dX6_digest_96 : decode cX6_digest 96 = .ok (.if_icmp .gt 24, 3) := by decide +kernel
theorem dX6_digest_99 : decode cX6_digest 99 = .ok (.lload_n 1, 1) := by decide +kernel
theorem dX6_digest_100 : decode cX6_digest 100 = .ok (.ldc2_w 145, 3) := by decide +kernel
theorem dX6_digest_103 : decode cX6_digest 103 = .ok (.lmul, 1) := by decide +kernel
theorem dX6_digest_104 : decode cX6_digest 104 = .ok (.aload_n 0, 1) := by decide +kernel
theorem dX6_digest_105 : decode cX6_digest 105 = .ok (.iload_n 3, 1) := by decide +kernel
theorem dX6_digest_106 : decode cX6_digest 106 = .ok (.iload 4, 2) := by decide +kernel
theorem dX6_digest_108 : decode cX6_digest 108 = .ok (.invokevirtual 105, 3) := by decide +kernel
theorem dX6_digest_111 : decode cX6_digest 111 = .ok (.i2l, 1) := by decide +kernel
theorem dX6_digest_112 : decode cX6_digest 112 = .ok (.ladd, 1) := by decide +kernel
theorem dX6_digest_113 : decode cX6_digest 113 = .ok (.lstore_n 1, 1) := by decide +kernel
theorem dX6_digest_114 : decode cX6_digest 114 = .ok (.iinc 4 1, 3) := by decide +kernel
theorem dX6_digest_117 : decode cX6_digest 117 = .ok (.goto (-24), 3) := by decide +kernel
theorem dX6_digest_120 : decode cX6_digest 120 = .ok (.iinc 3 1, 3) := by decide +kernel
theorem dX6_digest_123 : decode cX6_digest 123 = .ok (.goto (-41), 3) := by decide +kernel
theorem dX6_digest_126 : decode cX6_digest 126 = .ok (.iconst 0, 1) := by decide +kernel
theorem dX6_digest_127 : decode cX6_digest 127 = .ok (.istore_n 3, 1) := by decide +kernel
theorem dX6_digest_128 : decode cX6_digest 128 = .ok (.iload_n 3, 1) := by decide +kernel
theorem dX6_digest_129 : decode cX6_digest 129 = .ok (.aload_n 0, 1) := by decide +kernel
theorem dX6_digest_130 : decode cX6_digest 130 = .ok (.getfield 45, 3) := by decide +kernel
theorem dX6_digest_133 : decode cX6_digest 133 = .ok (.if_icmp .ge 40, 3) := by decide +kernel
theorem dX6_digest_136 : decode cX6_digest 136 = .ok (.iconst 0, 1) := by decide +kernel
theorem dX6_digest_137 : decode cX6_digest 137 = .ok (.istore 4, 2) := by decide +kernel
theorem dX6_digest_139 : decode cX6_digest 139 = .ok (.iload 4, 2) := by decide +kernel
theorem dX6_digest_141 : decode cX6_digest 141 = .ok (.bipush 6, 2) := by decide +kernel
theorem dX6_digest_143 : decode cX6_digest 143 = .ok (.if_icmp .gt 24, 3) := by decide +kernel
theorem dX6_digest_146 : decode cX6_digest 146 = .ok (.lload_n 1, 1) := by decide +kernel
theorem dX6_digest_147 : decode cX6_digest 147 = .ok (.ldc2_w 145, 3) := by decide +kernel
theorem dX6_digest_150 : decode cX6_digest 150 = .ok (.lmul, 1) := by decide +kernel
theorem dX6_digest_151 : decode cX6_digest 151 = .ok (.aload_n 0, 1) := by decide +kernel
theorem dX6_digest_152 : decode cX6_digest 152 = .ok (.iload_n 3, 1) := by decide +kernel
theorem dX6_digest_153 : decode cX6_digest 153 = .ok (.iload 4, 2) := by decide +kernel
theorem dX6_digest_155 : decode cX6_digest 155 = .ok (.invokevirtual 114, 3) := by decide +kernel
theorem dX6_digest_158 : decode cX6_digest 158 = .ok (.i2l, 1) := by decide +kernel
theorem dX6_digest_159 : decode cX6_digest 159 = .ok (.ladd, 1) := by decide +kernel
theorem dX6_digest_160 : decode cX6_digest 160 = .ok (.lstore_n 1, 1) := by decide +kernel
theorem dX6_digest_161 : decode cX6_digest 161 = .ok (.iinc 4 1, 3) := by decide +kernel
theorem dX6_digest_164 : decode cX6_digest 164 = .ok (.goto (-25), 3) := by decide +kernel
theorem dX6_digest_167 : decode cX6_digest 167 = .ok (.iinc 3 1, 3) := by decide +kernel
theorem dX6_digest_170 : decode cX6_digest 170 = .ok (.goto (-42), 3) := by decide +kernel
theorem dX6_digest_173 : decode cX6_digest 173 = .ok (.lload_n 1, 1) := by decide +kernel
theorem dX6_digest_174 : decode cX6_digest 174 = .ok (.lreturn, 1) := by decide +kernel
